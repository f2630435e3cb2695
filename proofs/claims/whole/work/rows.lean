section
-- ===== PART A: goes FIRST, ahead of the names: the tables' words, and 'selects' of the private methods out of them =====
/-- a private method of a class that the tables say can be made, by its rows of tables_1 -/
def lw_okq (q : MethodName × Nat) : Prop := (q.1.cls ≠ "java/lang/invoke/MethodHandle" ∧ q.1.cls ≠ "java/lang/invoke/VarHandle") ∧ Cond.instantiable q.1.cls q.2 ∈ tables_1 ∧ Cond.privateMethod q.1 ∈ tables_1 ∧ Cond.instanceMethod q.1 ∈ tables_1
theorem lw_p0 : lw_okq (⟨"TrialBoots$Pad", "digitAt", "(I)I"⟩, 2) := ⟨⟨by decide +kernel, by decide +kernel⟩, List.mem_of_getElem? (i := 180) (by decide +kernel), List.mem_of_getElem? (i := 300) (by decide +kernel), List.mem_of_getElem? (i := 301) (by decide +kernel)⟩
theorem lw_p1 : lw_okq (⟨"TrialBootsModel", "setPart", "(III)V"⟩, 8) := ⟨⟨by decide +kernel, by decide +kernel⟩, List.mem_of_getElem? (i := 485) (by decide +kernel), List.mem_of_getElem? (i := 491) (by decide +kernel), List.mem_of_getElem? (i := 492) (by decide +kernel)⟩
theorem lw_p2 : lw_okq (⟨"TrialBootsModel", "record", "()V"⟩, 8) := ⟨⟨by decide +kernel, by decide +kernel⟩, List.mem_of_getElem? (i := 485) (by decide +kernel), List.mem_of_getElem? (i := 530) (by decide +kernel), List.mem_of_getElem? (i := 531) (by decide +kernel)⟩
theorem lw_p3 : lw_okq (⟨"TrialBootsModel", "isAnyWorn", "(II)Z"⟩, 8) := ⟨⟨by decide +kernel, by decide +kernel⟩, List.mem_of_getElem? (i := 485) (by decide +kernel), List.mem_of_getElem? (i := 547) (by decide +kernel), List.mem_of_getElem? (i := 548) (by decide +kernel)⟩
theorem lw_p4 : lw_okq (⟨"TrialBootsModel", "isWorn", "(II)Z"⟩, 8) := ⟨⟨by decide +kernel, by decide +kernel⟩, List.mem_of_getElem? (i := 485) (by decide +kernel), List.mem_of_getElem? (i := 551) (by decide +kernel), List.mem_of_getElem? (i := 552) (by decide +kernel)⟩
theorem lw_p5 : lw_okq (⟨"TrialBootsModel", "part", "(II)I"⟩, 8) := ⟨⟨by decide +kernel, by decide +kernel⟩, List.mem_of_getElem? (i := 485) (by decide +kernel), List.mem_of_getElem? (i := 555) (by decide +kernel), List.mem_of_getElem? (i := 556) (by decide +kernel)⟩
theorem lw_p6 : lw_okq (⟨"TrialBootsModel", "emptyPage", "(II)V"⟩, 8) := ⟨⟨by decide +kernel, by decide +kernel⟩, List.mem_of_getElem? (i := 485) (by decide +kernel), List.mem_of_getElem? (i := 559) (by decide +kernel), List.mem_of_getElem? (i := 560) (by decide +kernel)⟩
theorem lw_p7 : lw_okq (⟨"TrialBootsModel", "greatestWear", "(II)I"⟩, 8) := ⟨⟨by decide +kernel, by decide +kernel⟩, List.mem_of_getElem? (i := 485) (by decide +kernel), List.mem_of_getElem? (i := 563) (by decide +kernel), List.mem_of_getElem? (i := 564) (by decide +kernel)⟩
theorem lw_p8 : lw_okq (⟨"TrialBootsModel", "isHow", "(II)Z"⟩, 8) := ⟨⟨by decide +kernel, by decide +kernel⟩, List.mem_of_getElem? (i := 485) (by decide +kernel), List.mem_of_getElem? (i := 571) (by decide +kernel), List.mem_of_getElem? (i := 572) (by decide +kernel)⟩
theorem lw_p9 : lw_okq (⟨"TrialBootsModel", "lacks", "(I)I"⟩, 8) := ⟨⟨by decide +kernel, by decide +kernel⟩, List.mem_of_getElem? (i := 485) (by decide +kernel), List.mem_of_getElem? (i := 575) (by decide +kernel), List.mem_of_getElem? (i := 576) (by decide +kernel)⟩
theorem lw_p10 : lw_okq (⟨"TrialBootsModel", "fills", "(II)V"⟩, 8) := ⟨⟨by decide +kernel, by decide +kernel⟩, List.mem_of_getElem? (i := 485) (by decide +kernel), List.mem_of_getElem? (i := 579) (by decide +kernel), List.mem_of_getElem? (i := 580) (by decide +kernel)⟩
theorem lw_p11 : lw_okq (⟨"TrialBootsModel", "findFault", "()I"⟩, 8) := ⟨⟨by decide +kernel, by decide +kernel⟩, List.mem_of_getElem? (i := 485) (by decide +kernel), List.mem_of_getElem? (i := 587) (by decide +kernel), List.mem_of_getElem? (i := 588) (by decide +kernel)⟩
theorem lw_p12 : lw_okq (⟨"TrialBootsModel", "padWord", "(I)I"⟩, 8) := ⟨⟨by decide +kernel, by decide +kernel⟩, List.mem_of_getElem? (i := 485) (by decide +kernel), List.mem_of_getElem? (i := 594) (by decide +kernel), List.mem_of_getElem? (i := 595) (by decide +kernel)⟩
theorem lw_p13 : lw_okq (⟨"TrialBootsModel", "isSound", "(I)Z"⟩, 8) := ⟨⟨by decide +kernel, by decide +kernel⟩, List.mem_of_getElem? (i := 485) (by decide +kernel), List.mem_of_getElem? (i := 602) (by decide +kernel), List.mem_of_getElem? (i := 603) (by decide +kernel)⟩
theorem lw_p14 : lw_okq (⟨"TrialBootsModel", "sumOf", "(I)I"⟩, 8) := ⟨⟨by decide +kernel, by decide +kernel⟩, List.mem_of_getElem? (i := 485) (by decide +kernel), List.mem_of_getElem? (i := 606) (by decide +kernel), List.mem_of_getElem? (i := 607) (by decide +kernel)⟩
theorem lw_p15 : lw_okq (⟨"TrialBootsModel", "wordOf", "(II)I"⟩, 8) := ⟨⟨by decide +kernel, by decide +kernel⟩, List.mem_of_getElem? (i := 485) (by decide +kernel), List.mem_of_getElem? (i := 610) (by decide +kernel), List.mem_of_getElem? (i := 611) (by decide +kernel)⟩
def lw_privs_1 : List (MethodName × Nat) := [(⟨"TrialBoots$Pad", "digitAt", "(I)I"⟩, 2), (⟨"TrialBootsModel", "setPart", "(III)V"⟩, 8), (⟨"TrialBootsModel", "record", "()V"⟩, 8), (⟨"TrialBootsModel", "isAnyWorn", "(II)Z"⟩, 8), (⟨"TrialBootsModel", "isWorn", "(II)Z"⟩, 8), (⟨"TrialBootsModel", "part", "(II)I"⟩, 8), (⟨"TrialBootsModel", "emptyPage", "(II)V"⟩, 8), (⟨"TrialBootsModel", "greatestWear", "(II)I"⟩, 8), (⟨"TrialBootsModel", "isHow", "(II)Z"⟩, 8), (⟨"TrialBootsModel", "lacks", "(I)I"⟩, 8), (⟨"TrialBootsModel", "fills", "(II)V"⟩, 8), (⟨"TrialBootsModel", "findFault", "()I"⟩, 8), (⟨"TrialBootsModel", "padWord", "(I)I"⟩, 8), (⟨"TrialBootsModel", "isSound", "(I)Z"⟩, 8), (⟨"TrialBootsModel", "sumOf", "(I)I"⟩, 8), (⟨"TrialBootsModel", "wordOf", "(II)I"⟩, 8)]
theorem lw_r1 : ∀ q ∈ lw_privs_1, lw_okq q := List.forall_mem_cons.mpr ⟨lw_p0, List.forall_mem_cons.mpr ⟨lw_p1, List.forall_mem_cons.mpr ⟨lw_p2, List.forall_mem_cons.mpr ⟨lw_p3, List.forall_mem_cons.mpr ⟨lw_p4, List.forall_mem_cons.mpr ⟨lw_p5, List.forall_mem_cons.mpr ⟨lw_p6, List.forall_mem_cons.mpr ⟨lw_p7, List.forall_mem_cons.mpr ⟨lw_p8, List.forall_mem_cons.mpr ⟨lw_p9, List.forall_mem_cons.mpr ⟨lw_p10, List.forall_mem_cons.mpr ⟨lw_p11, List.forall_mem_cons.mpr ⟨lw_p12, List.forall_mem_cons.mpr ⟨lw_p13, List.forall_mem_cons.mpr ⟨lw_p14, List.forall_mem_cons.mpr ⟨lw_p15, fun _ h => absurd h List.not_mem_nil⟩⟩⟩⟩⟩⟩⟩⟩⟩⟩⟩⟩⟩⟩⟩⟩
theorem lw_p16 : lw_okq (⟨"TrialBootsModel", "starts", "(I)V"⟩, 8) := ⟨⟨by decide +kernel, by decide +kernel⟩, List.mem_of_getElem? (i := 485) (by decide +kernel), List.mem_of_getElem? (i := 626) (by decide +kernel), List.mem_of_getElem? (i := 627) (by decide +kernel)⟩
theorem lw_p17 : lw_okq (⟨"TrialBootsModel", "chosen", "()I"⟩, 8) := ⟨⟨by decide +kernel, by decide +kernel⟩, List.mem_of_getElem? (i := 485) (by decide +kernel), List.mem_of_getElem? (i := 630) (by decide +kernel), List.mem_of_getElem? (i := 631) (by decide +kernel)⟩
theorem lw_p18 : lw_okq (⟨"TrialBootsModel", "greatest", "(I)I"⟩, 8) := ⟨⟨by decide +kernel, by decide +kernel⟩, List.mem_of_getElem? (i := 485) (by decide +kernel), List.mem_of_getElem? (i := 634) (by decide +kernel), List.mem_of_getElem? (i := 635) (by decide +kernel)⟩
theorem lw_p19 : lw_okq (⟨"TrialBootsModel", "canBe", "(II)Z"⟩, 8) := ⟨⟨by decide +kernel, by decide +kernel⟩, List.mem_of_getElem? (i := 485) (by decide +kernel), List.mem_of_getElem? (i := 638) (by decide +kernel), List.mem_of_getElem? (i := 639) (by decide +kernel)⟩
theorem lw_p20 : lw_okq (⟨"TrialBootsModel", "remember", "(I)V"⟩, 8) := ⟨⟨by decide +kernel, by decide +kernel⟩, List.mem_of_getElem? (i := 485) (by decide +kernel), List.mem_of_getElem? (i := 642) (by decide +kernel), List.mem_of_getElem? (i := 643) (by decide +kernel)⟩
theorem lw_p21 : lw_okq (⟨"TrialBootsModel", "passes", "(I)I"⟩, 8) := ⟨⟨by decide +kernel, by decide +kernel⟩, List.mem_of_getElem? (i := 485) (by decide +kernel), List.mem_of_getElem? (i := 650) (by decide +kernel), List.mem_of_getElem? (i := 651) (by decide +kernel)⟩
theorem lw_p22 : lw_okq (⟨"TrialBootsModel", "tick", "()Z"⟩, 8) := ⟨⟨by decide +kernel, by decide +kernel⟩, List.mem_of_getElem? (i := 485) (by decide +kernel), List.mem_of_getElem? (i := 654) (by decide +kernel), List.mem_of_getElem? (i := 655) (by decide +kernel)⟩
theorem lw_p23 : lw_okq (⟨"TrialBootsModel", "tells", "(I)Z"⟩, 8) := ⟨⟨by decide +kernel, by decide +kernel⟩, List.mem_of_getElem? (i := 485) (by decide +kernel), List.mem_of_getElem? (i := 658) (by decide +kernel), List.mem_of_getElem? (i := 659) (by decide +kernel)⟩
theorem lw_p24 : lw_okq (⟨"TrialBootsModel", "isOnTrial", "()Z"⟩, 8) := ⟨⟨by decide +kernel, by decide +kernel⟩, List.mem_of_getElem? (i := 485) (by decide +kernel), List.mem_of_getElem? (i := 662) (by decide +kernel), List.mem_of_getElem? (i := 663) (by decide +kernel)⟩
theorem lw_p25 : lw_okq (⟨"TrialBootsModel", "wornMany", "(I)I"⟩, 8) := ⟨⟨by decide +kernel, by decide +kernel⟩, List.mem_of_getElem? (i := 485) (by decide +kernel), List.mem_of_getElem? (i := 670) (by decide +kernel), List.mem_of_getElem? (i := 671) (by decide +kernel)⟩
theorem lw_p26 : lw_okq (⟨"TrialBootsModel", "badMany", "()I"⟩, 8) := ⟨⟨by decide +kernel, by decide +kernel⟩, List.mem_of_getElem? (i := 485) (by decide +kernel), List.mem_of_getElem? (i := 698) (by decide +kernel), List.mem_of_getElem? (i := 699) (by decide +kernel)⟩
def lw_privs_2 : List (MethodName × Nat) := [(⟨"TrialBootsModel", "starts", "(I)V"⟩, 8), (⟨"TrialBootsModel", "chosen", "()I"⟩, 8), (⟨"TrialBootsModel", "greatest", "(I)I"⟩, 8), (⟨"TrialBootsModel", "canBe", "(II)Z"⟩, 8), (⟨"TrialBootsModel", "remember", "(I)V"⟩, 8), (⟨"TrialBootsModel", "passes", "(I)I"⟩, 8), (⟨"TrialBootsModel", "tick", "()Z"⟩, 8), (⟨"TrialBootsModel", "tells", "(I)Z"⟩, 8), (⟨"TrialBootsModel", "isOnTrial", "()Z"⟩, 8), (⟨"TrialBootsModel", "wornMany", "(I)I"⟩, 8), (⟨"TrialBootsModel", "badMany", "()I"⟩, 8)]
theorem lw_r2 : ∀ q ∈ lw_privs_2, lw_okq q := List.forall_mem_cons.mpr ⟨lw_p16, List.forall_mem_cons.mpr ⟨lw_p17, List.forall_mem_cons.mpr ⟨lw_p18, List.forall_mem_cons.mpr ⟨lw_p19, List.forall_mem_cons.mpr ⟨lw_p20, List.forall_mem_cons.mpr ⟨lw_p21, List.forall_mem_cons.mpr ⟨lw_p22, List.forall_mem_cons.mpr ⟨lw_p23, List.forall_mem_cons.mpr ⟨lw_p24, List.forall_mem_cons.mpr ⟨lw_p25, List.forall_mem_cons.mpr ⟨lw_p26, fun _ h => absurd h List.not_mem_nil⟩⟩⟩⟩⟩⟩⟩⟩⟩⟩⟩
def lw_privs : List (MethodName × Nat) := lw_privs_1 ++ (lw_privs_2)
def lw_tbl : List Cond := k2_sels lw_privs ++ tables_1
theorem lw_privs_ok : ∀ q ∈ lw_privs, lw_okq q := by
  show ∀ q ∈ lw_privs_1 ++ (lw_privs_2), lw_okq q
  exact List.forall_mem_append.mpr ⟨lw_r1, lw_r2⟩
end
section
/-! ===== BEGIN words of one list among another's, by their places ===== -/
theorem goodIn_r {big : List Cond} (ws : List Cond) (ps : List Nat) (hp : ws = ps.filterMap (fun i => big[i]?)) (h : ws.all goodWord = true) : GoodIn big ws := by
  intro w hw
  have h1 := List.all_eq_true.mp h w hw
  rw [hp] at hw
  obtain ⟨i, -, hi⟩ := List.mem_filterMap.mp hw
  have hm : w ∈ big := by first | exact List.mem_of_getElem? hi | exact List.getElem?_mem hi
  exact ⟨hm, good_of_word h1⟩
theorem goodIn_app {big a b : List Cond} (ha : GoodIn big a) (hb : GoodIn big b) : GoodIn big (a ++ b) := fun w h => (List.mem_append.mp h).elim (ha w) (hb w)
theorem goodIn_ca {big a b : List Cond} {c : Cond} (ha : GoodIn big (c :: a)) (hb : GoodIn big b) : GoodIn big (c :: (a ++ b)) := fun w h => (List.mem_cons.mp h).elim (fun e => ha w (List.mem_cons.mpr (Or.inl e))) (fun h => (List.mem_append.mp h).elim (fun h => ha w (List.mem_cons.mpr (Or.inr h))) (hb w))
theorem goodIn_sub {big ws : List Cond} (hm : ∀ w ∈ ws, w ∈ big) (h : ws.all goodWord = true) : GoodIn big ws := fun w hw => ⟨hm w hw, good_of_word (List.all_eq_true.mp h w hw)⟩
/-! ===== END ===== -/

/-! ===== BEGIN printed: names, fields, word lists, decode rows ===== -/
def RX0 : String := "TrialBoots$Area"
def TX0 : u_T := fun k => match k with
  | 0 => ("TrialBoots$Area", "state", "I", false)
  | 1 => ("TrialBoots$Area", "version", "I", false)
  | 2 => ("TrialBoots$Area", "length", "I", false)
  | 3 => ("TrialBoots$Area", "toldSum", "I", false)
  | 4 => ("TrialBoots$Area", "tries", "I", false)
  | 5 => ("TrialBoots$Area", "filled", "I", false)
  | 6 => ("TrialBoots$Area", "words", "[I", true)
  | _ => ("TrialBoots$Area", "wears", "[I", true)
def tyX0 : Nat → FieldType := fun k => match k with
  | 0 => .int
  | 1 => .int
  | 2 => .int
  | 3 => .int
  | 4 => .int
  | 5 => .int
  | 6 => .array .int
  | _ => .array .int
abbrev wsX00 : List Cond := u_ws RX0 TX0 8
theorem nmX0 : ∀ a, a < 8 → ∀ b, b < 8 → a ≠ b → (TX0 a).2.1 ≠ (TX0 b).2.1 := by decide +kernel
theorem tyX0_ok : ∀ k, k < 8 → parseFieldDescriptor (TX0 k).2.2.1 = some (tyX0 k) := by decide +kernel
abbrev cX0_init : ByteArray := prog_2_method_1_code
def yX0_init : MethodName := ⟨RX0, "<init>", "()V"⟩
abbrev cX0_copyFrom : ByteArray := prog_2_method_2_code
def yX0_copyFrom : MethodName := ⟨RX0, "copyFrom", "(LTrialBoots$Area;)V"⟩
abbrev cX0_emptyPages : ByteArray := prog_2_method_3_code
def yX0_emptyPages : MethodName := ⟨RX0, "emptyPages", "(I)V"⟩
abbrev cX0_expectImage : ByteArray := prog_2_method_4_code
def yX0_expectImage : MethodName := ⟨RX0, "expectImage", "(III)V"⟩
abbrev cX0_takeGoldenImage : ByteArray := prog_2_method_5_code
def yX0_takeGoldenImage : MethodName := ⟨RX0, "takeGoldenImage", "()V"⟩
abbrev cX0_lacking : ByteArray := prog_2_method_6_code
def yX0_lacking : MethodName := ⟨RX0, "lacking", "()I"⟩
abbrev cX0_addWord : ByteArray := prog_2_method_7_code
def yX0_addWord : MethodName := ⟨RX0, "addWord", "(I)V"⟩
abbrev cX0_sumOfImage : ByteArray := prog_2_method_8_code
def yX0_sumOfImage : MethodName := ⟨RX0, "sumOfImage", "()I"⟩
abbrev cX0_isSound : ByteArray := prog_2_method_9_code
def yX0_isSound : MethodName := ⟨RX0, "isSound", "()Z"⟩
abbrev cX0_greatestWear : ByteArray := prog_2_method_10_code
def yX0_greatestWear : MethodName := ⟨RX0, "greatestWear", "(I)I"⟩
abbrev cX0_wornOutPages : ByteArray := prog_2_method_11_code
def yX0_wornOutPages : MethodName := ⟨RX0, "wornOutPages", "(I)I"⟩
abbrev cX0_loseFilling : ByteArray := prog_2_method_12_code
def yX0_loseFilling : MethodName := ⟨RX0, "loseFilling", "()V"⟩
abbrev cX0_giveUpTrial : ByteArray := prog_2_method_13_code
def yX0_giveUpTrial : MethodName := ⟨RX0, "giveUpTrial", "()V"⟩
abbrev cX0_useTry : ByteArray := prog_2_method_14_code
def yX0_useTry : MethodName := ⟨RX0, "useTry", "()V"⟩
def RX1 : String := "TrialBoots$Device"
def TX1 : u_T := fun k => match k with
  | 0 => ("TrialBoots$Device", "settings", "[I", true)
  | 1 => ("TrialBoots$Device", "first", "LTrialBoots$Area;", true)
  | 2 => ("TrialBoots$Device", "second", "LTrialBoots$Area;", true)
  | 3 => ("TrialBoots$Device", "golden", "LTrialBoots$Area;", true)
  | 4 => ("TrialBoots$Device", "starts", "LTrialBoots$Starts;", true)
  | 5 => ("TrialBoots$Device", "running", "I", false)
  | 6 => ("TrialBoots$Device", "ticks", "I", false)
  | 7 => ("TrialBoots$Device", "hungTicks", "I", false)
  | 8 => ("TrialBoots$Device", "leastVersion", "I", false)
  | _ => ("TrialBoots$Device", "allTicks", "I", false)
def tyX1 : Nat → FieldType := fun k => match k with
  | 0 => .array .int
  | 1 => .object "TrialBoots$Area"
  | 2 => .object "TrialBoots$Area"
  | 3 => .object "TrialBoots$Area"
  | 4 => .object "TrialBoots$Starts"
  | 5 => .int
  | 6 => .int
  | 7 => .int
  | 8 => .int
  | _ => .int
abbrev wsX10 : List Cond := u_ws RX1 TX1 10
theorem nmX1 : ∀ a, a < 10 → ∀ b, b < 10 → a ≠ b → (TX1 a).2.1 ≠ (TX1 b).2.1 := by decide +kernel
theorem tyX1_ok : ∀ k, k < 10 → parseFieldDescriptor (TX1 k).2.2.1 = some (tyX1 k) := by decide +kernel
abbrev cX1_init : ByteArray := prog_3_method_1_code
def yX1_init : MethodName := ⟨RX1, "<init>", "()V"⟩
abbrev cX1_copyFrom : ByteArray := prog_3_method_2_code
def yX1_copyFrom : MethodName := ⟨RX1, "copyFrom", "(LTrialBoots$Device;)V"⟩
abbrev cX1_areaAt : ByteArray := prog_3_method_3_code
def yX1_areaAt : MethodName := ⟨RX1, "areaAt", "(I)LTrialBoots$Area;"⟩
abbrev cX1_badSlots : ByteArray := prog_3_method_4_code
def yX1_badSlots : MethodName := ⟨RX1, "badSlots", "()I"⟩
abbrev cX1_beginsLeft : ByteArray := prog_3_method_5_code
def yX1_beginsLeft : MethodName := ⟨RX1, "beginsLeft", "(II)I"⟩
abbrev cX1_startBy : ByteArray := prog_3_method_6_code
def yX1_startBy : MethodName := ⟨RX1, "startBy", "(I)V"⟩
abbrev cX1_soundArea : ByteArray := prog_3_method_7_code
def yX1_soundArea : MethodName := ⟨RX1, "soundArea", "()I"⟩
abbrev cX1_bestArea : ByteArray := prog_3_method_8_code
def yX1_bestArea : MethodName := ⟨RX1, "bestArea", "()I"⟩
abbrev cX1_newestThatIs : ByteArray := prog_3_method_9_code
def yX1_newestThatIs : MethodName := ⟨RX1, "newestThatIs", "(I)I"⟩
abbrev cX1_letPass : ByteArray := prog_3_method_10_code
def yX1_letPass : MethodName := ⟨RX1, "letPass", "(I)I"⟩
abbrev cX1_startsInTick : ByteArray := prog_3_method_11_code
def yX1_startsInTick : MethodName := ⟨RX1, "startsInTick", "()Z"⟩
def RX2 : String := "TrialBoots$History"
def TX2 : u_T := fun k => match k with
  | 0 => ("TrialBoots$History", "size", "I", false)
  | 1 => ("TrialBoots$History", "recorded", "I", false)
  | _ => ("TrialBoots$History", "states", "[LTrialBoots$Device;", true)
def tyX2 : Nat → FieldType := fun k => match k with
  | 0 => .int
  | 1 => .int
  | _ => .array (.object "TrialBoots$Device")
abbrev wsX20 : List Cond := u_ws RX2 TX2 3
theorem nmX2 : ∀ a, a < 3 → ∀ b, b < 3 → a ≠ b → (TX2 a).2.1 ≠ (TX2 b).2.1 := by decide +kernel
theorem tyX2_ok : ∀ k, k < 3 → parseFieldDescriptor (TX2 k).2.2.1 = some (tyX2 k) := by decide +kernel
abbrev cX2_init : ByteArray := prog_4_method_1_code
def yX2_init : MethodName := ⟨RX2, "<init>", "()V"⟩
abbrev cX2_record : ByteArray := prog_4_method_2_code
def yX2_record : MethodName := ⟨RX2, "record", "(LTrialBoots$Device;)V"⟩
abbrev cX2_takeBack : ByteArray := prog_4_method_3_code
def yX2_takeBack : MethodName := ⟨RX2, "takeBack", "(LTrialBoots$Device;)V"⟩
def RX3 : String := "TrialBoots$Pad"
def TX3 : u_T := fun k => match k with
  | 0 => ("TrialBoots$Pad", "length", "I", false)
  | _ => ("TrialBoots$Pad", "codes", "[I", true)
def tyX3 : Nat → FieldType := fun k => match k with
  | 0 => .int
  | _ => .array .int
abbrev wsX30 : List Cond := u_ws RX3 TX3 2
theorem nmX3 : ∀ a, a < 2 → ∀ b, b < 2 → a ≠ b → (TX3 a).2.1 ≠ (TX3 b).2.1 := by decide +kernel
theorem tyX3_ok : ∀ k, k < 2 → parseFieldDescriptor (TX3 k).2.2.1 = some (tyX3 k) := by decide +kernel
abbrev cX3_init : ByteArray := prog_5_method_1_code
def yX3_init : MethodName := ⟨RX3, "<init>", "()V"⟩
abbrev cX3_charactersIn : ByteArray := prog_5_method_2_code
def yX3_charactersIn : MethodName := ⟨RX3, "charactersIn", "(J)I"⟩
abbrev cX3_append : ByteArray := prog_5_method_3_code
def yX3_append : MethodName := ⟨RX3, "append", "(JI)V"⟩
abbrev cX3_clear : ByteArray := prog_5_method_4_code
def yX3_clear : MethodName := ⟨RX3, "clear", "()V"⟩
abbrev cX3_firstFault : ByteArray := prog_5_method_5_code
def yX3_firstFault : MethodName := ⟨RX3, "firstFault", "()I"⟩
abbrev cX3_words : ByteArray := prog_5_method_6_code
def yX3_words : MethodName := ⟨RX3, "words", "()I"⟩
abbrev cX3_wordAt : ByteArray := prog_5_method_7_code
def yX3_wordAt : MethodName := ⟨RX3, "wordAt", "(I)I"⟩
abbrev cX3_sumOfWords : ByteArray := prog_5_method_8_code
def yX3_sumOfWords : MethodName := ⟨RX3, "sumOfWords", "()I"⟩
abbrev cX3_digitAt : ByteArray := prog_5_method_9_code
def yX3_digitAt : MethodName := ⟨RX3, "digitAt", "(I)I"⟩
def RX4 : String := "TrialBoots$Starts"
def TX4 : u_T := fun k => match k with
  | 0 => ("TrialBoots$Starts", "all", "I", false)
  | 1 => ("TrialBoots$Starts", "byWatchdog", "I", false)
  | 2 => ("TrialBoots$Starts", "kept", "I", false)
  | 3 => ("TrialBoots$Starts", "areas", "[I", true)
  | 4 => ("TrialBoots$Starts", "causes", "[I", true)
  | _ => ("TrialBoots$Starts", "ticks", "[I", true)
def tyX4 : Nat → FieldType := fun k => match k with
  | 0 => .int
  | 1 => .int
  | 2 => .int
  | 3 => .array .int
  | 4 => .array .int
  | _ => .array .int
abbrev wsX40 : List Cond := u_ws RX4 TX4 6
theorem nmX4 : ∀ a, a < 6 → ∀ b, b < 6 → a ≠ b → (TX4 a).2.1 ≠ (TX4 b).2.1 := by decide +kernel
theorem tyX4_ok : ∀ k, k < 6 → parseFieldDescriptor (TX4 k).2.2.1 = some (tyX4 k) := by decide +kernel
abbrev cX4_init : ByteArray := prog_6_method_1_code
def yX4_init : MethodName := ⟨RX4, "<init>", "()V"⟩
abbrev cX4_copyFrom : ByteArray := prog_6_method_2_code
def yX4_copyFrom : MethodName := ⟨RX4, "copyFrom", "(LTrialBoots$Starts;)V"⟩
abbrev cX4_add : ByteArray := prog_6_method_3_code
def yX4_add : MethodName := ⟨RX4, "add", "(III)V"⟩
abbrev cX4_indexOf : ByteArray := prog_6_method_4_code
def yX4_indexOf : MethodName := ⟨RX4, "indexOf", "(I)I"⟩
def RX5 : String := "TrialBoots"
def TX5 : u_T := fun k => match k with
  | 0 => ("TrialBoots", "device", "LTrialBoots$Device;", true)
  | 1 => ("TrialBoots", "whatIf", "LTrialBoots$Device;", true)
  | 2 => ("TrialBoots", "saved", "[LTrialBoots$Device;", true)
  | 3 => ("TrialBoots", "isSaved", "[Z", true)
  | 4 => ("TrialBoots", "history", "LTrialBoots$History;", true)
  | _ => ("TrialBoots", "pad", "LTrialBoots$Pad;", true)
def tyX5 : Nat → FieldType := fun k => match k with
  | 0 => .object "TrialBoots$Device"
  | 1 => .object "TrialBoots$Device"
  | 2 => .array (.object "TrialBoots$Device")
  | 3 => .array .boolean
  | 4 => .object "TrialBoots$History"
  | _ => .object "TrialBoots$Pad"
abbrev wsX50 : List Cond := u_ws RX5 TX5 6
theorem nmX5 : ∀ a, a < 6 → ∀ b, b < 6 → a ≠ b → (TX5 a).2.1 ≠ (TX5 b).2.1 := by decide +kernel
theorem tyX5_ok : ∀ k, k < 6 → parseFieldDescriptor (TX5 k).2.2.1 = some (tyX5 k) := by decide +kernel
abbrev cX5_init : ByteArray := prog_1_method_1_code
def yX5_init : MethodName := ⟨RX5, "<init>", "()V"⟩
abbrev cX5_set : ByteArray := prog_1_method_2_code
def yX5_set : MethodName := ⟨RX5, "set", "(II)I"⟩
abbrev cX5_begin : ByteArray := prog_1_method_3_code
def yX5_begin : MethodName := ⟨RX5, "begin", "(IIII)I"⟩
abbrev cX5_fill : ByteArray := prog_1_method_4_code
def yX5_fill : MethodName := ⟨RX5, "fill", "(II)I"⟩
abbrev cX5_fillAll : ByteArray := prog_1_method_5_code
def yX5_fillAll : MethodName := ⟨RX5, "fillAll", "(I)I"⟩
abbrev cX5_finish : ByteArray := prog_1_method_6_code
def yX5_finish : MethodName := ⟨RX5, "finish", "(I)I"⟩
abbrev cX5_damage : ByteArray := prog_1_method_7_code
def yX5_damage : MethodName := ⟨RX5, "damage", "(III)I"⟩
abbrev cX5_repair : ByteArray := prog_1_method_8_code
def yX5_repair : MethodName := ⟨RX5, "repair", "(I)I"⟩
abbrev cX5_start : ByteArray := prog_1_method_9_code
def yX5_start : MethodName := ⟨RX5, "start", "(Z)I"⟩
abbrev cX5_pass : ByteArray := prog_1_method_10_code
def yX5_pass : MethodName := ⟨RX5, "pass", "(I)I"⟩
abbrev cX5_slot : ByteArray := prog_1_method_11_code
def yX5_slot : MethodName := ⟨RX5, "slot", "(II)I"⟩
abbrev cX5_word : ByteArray := prog_1_method_12_code
def yX5_word : MethodName := ⟨RX5, "word", "(II)I"⟩
abbrev cX5_wear : ByteArray := prog_1_method_13_code
def yX5_wear : MethodName := ⟨RX5, "wear", "(II)I"⟩
abbrev cX5_past : ByteArray := prog_1_method_14_code
def yX5_past : MethodName := ⟨RX5, "past", "(II)I"⟩
abbrev cX5_count : ByteArray := prog_1_method_15_code
def yX5_count : MethodName := ⟨RX5, "count", "(I)I"⟩
abbrev cX5_padSum : ByteArray := prog_1_method_16_code
def yX5_padSum : MethodName := ⟨RX5, "padSum", "()I"⟩
abbrev cX5_ifStarted : ByteArray := prog_1_method_17_code
def yX5_ifStarted : MethodName := ⟨RX5, "ifStarted", "(Z)I"⟩
abbrev cX5_ifPassed : ByteArray := prog_1_method_18_code
def yX5_ifPassed : MethodName := ⟨RX5, "ifPassed", "(II)I"⟩
abbrev cX5_nextStart : ByteArray := prog_1_method_19_code
def yX5_nextStart : MethodName := ⟨RX5, "nextStart", "()I"⟩
abbrev cX5_lasts : ByteArray := prog_1_method_20_code
def yX5_lasts : MethodName := ⟨RX5, "lasts", "(II)I"⟩
abbrev cX5_put : ByteArray := prog_1_method_21_code
def yX5_put : MethodName := ⟨RX5, "put", "(J)I"⟩
abbrev cX5_wipe : ByteArray := prog_1_method_22_code
def yX5_wipe : MethodName := ⟨RX5, "wipe", "()I"⟩
abbrev cX5_fault : ByteArray := prog_1_method_23_code
def yX5_fault : MethodName := ⟨RX5, "fault", "()I"⟩
abbrev cX5_undo : ByteArray := prog_1_method_24_code
def yX5_undo : MethodName := ⟨RX5, "undo", "()I"⟩
abbrev cX5_save : ByteArray := prog_1_method_25_code
def yX5_save : MethodName := ⟨RX5, "save", "(I)I"⟩
abbrev cX5_restore : ByteArray := prog_1_method_26_code
def yX5_restore : MethodName := ⟨RX5, "restore", "(I)I"⟩
abbrev cX5_isWithin : ByteArray := prog_1_method_27_code
def yX5_isWithin : MethodName := ⟨RX5, "isWithin", "(III)Z"⟩
abbrev cX5_isSlot : ByteArray := prog_1_method_28_code
def yX5_isSlot : MethodName := ⟨RX5, "isSlot", "(I)Z"⟩
abbrev cX5_isLength : ByteArray := prog_1_method_29_code
def yX5_isLength : MethodName := ⟨RX5, "isLength", "(I)Z"⟩
abbrev cX5_pagesOf : ByteArray := prog_1_method_30_code
def yX5_pagesOf : MethodName := ⟨RX5, "pagesOf", "(I)I"⟩
abbrev cX5_sumWith : ByteArray := prog_1_method_31_code
def yX5_sumWith : MethodName := ⟨RX5, "sumWith", "(II)I"⟩
def RX6 : String := "TrialBootsModel"
def TX6 : u_T := fun k => match k with
  | 0 => ("TrialBootsModel", "state", "[I", true)
  | 1 => ("TrialBootsModel", "kept", "[I", true)
  | 2 => ("TrialBootsModel", "history", "[I", true)
  | 3 => ("TrialBootsModel", "recorded", "I", false)
  | 4 => ("TrialBootsModel", "saved", "[I", true)
  | 5 => ("TrialBootsModel", "isSaved", "[I", true)
  | 6 => ("TrialBootsModel", "pad", "[I", true)
  | _ => ("TrialBootsModel", "padLength", "I", false)
def tyX6 : Nat → FieldType := fun k => match k with
  | 0 => .array .int
  | 1 => .array .int
  | 2 => .array .int
  | 3 => .int
  | 4 => .array .int
  | 5 => .array .int
  | 6 => .array .int
  | _ => .int
abbrev wsX60 : List Cond := u_ws RX6 TX6 8
theorem nmX6 : ∀ a, a < 8 → ∀ b, b < 8 → a ≠ b → (TX6 a).2.1 ≠ (TX6 b).2.1 := by decide +kernel
theorem tyX6_ok : ∀ k, k < 8 → parseFieldDescriptor (TX6 k).2.2.1 = some (tyX6 k) := by decide +kernel
abbrev cX6_init : ByteArray := prog_8_method_1_code
def yX6_init : MethodName := ⟨RX6, "<init>", "()V"⟩
abbrev cX6_moves : ByteArray := prog_8_method_3_code
def yX6_moves : MethodName := ⟨RX6, "moves", "([II[II)V"⟩
abbrev cX6_within : ByteArray := prog_8_method_4_code
def yX6_within : MethodName := ⟨RX6, "within", "(III)Z"⟩
abbrev cX6_record : ByteArray := prog_8_method_5_code
def yX6_record : MethodName := ⟨RX6, "record", "()V"⟩
abbrev cX6_isSlot : ByteArray := prog_8_method_6_code
def yX6_isSlot : MethodName := ⟨RX6, "isSlot", "(I)Z"⟩
abbrev cX6_part : ByteArray := prog_8_method_7_code
def yX6_part : MethodName := ⟨RX6, "part", "(II)I"⟩
abbrev cX6_setPart : ByteArray := prog_8_method_8_code
def yX6_setPart : MethodName := ⟨RX6, "setPart", "(III)V"⟩
abbrev cX6_isHow : ByteArray := prog_8_method_9_code
def yX6_isHow : MethodName := ⟨RX6, "isHow", "(II)Z"⟩
abbrev cX6_wordOf : ByteArray := prog_8_method_10_code
def yX6_wordOf : MethodName := ⟨RX6, "wordOf", "(II)I"⟩
abbrev cX6_sumOf : ByteArray := prog_8_method_11_code
def yX6_sumOf : MethodName := ⟨RX6, "sumOf", "(I)I"⟩
abbrev cX6_isSound : ByteArray := prog_8_method_12_code
def yX6_isSound : MethodName := ⟨RX6, "isSound", "(I)Z"⟩
abbrev cX6_pagesOf : ByteArray := prog_8_method_13_code
def yX6_pagesOf : MethodName := ⟨RX6, "pagesOf", "(I)I"⟩
abbrev cX6_isWorn : ByteArray := prog_8_method_14_code
def yX6_isWorn : MethodName := ⟨RX6, "isWorn", "(II)Z"⟩
abbrev cX6_isAnyWorn : ByteArray := prog_8_method_15_code
def yX6_isAnyWorn : MethodName := ⟨RX6, "isAnyWorn", "(II)Z"⟩
abbrev cX6_emptyPage : ByteArray := prog_8_method_16_code
def yX6_emptyPage : MethodName := ⟨RX6, "emptyPage", "(II)V"⟩
abbrev cX6_greatestWear : ByteArray := prog_8_method_17_code
def yX6_greatestWear : MethodName := ⟨RX6, "greatestWear", "(II)I"⟩
abbrev cX6_canBe : ByteArray := prog_8_method_18_code
def yX6_canBe : MethodName := ⟨RX6, "canBe", "(II)Z"⟩
abbrev cX6_greatest : ByteArray := prog_8_method_19_code
def yX6_greatest : MethodName := ⟨RX6, "greatest", "(I)I"⟩
abbrev cX6_chosen : ByteArray := prog_8_method_20_code
def yX6_chosen : MethodName := ⟨RX6, "chosen", "()I"⟩
abbrev cX6_remember : ByteArray := prog_8_method_21_code
def yX6_remember : MethodName := ⟨RX6, "remember", "(I)V"⟩
abbrev cX6_starts : ByteArray := prog_8_method_22_code
def yX6_starts : MethodName := ⟨RX6, "starts", "(I)V"⟩
abbrev cX6_isOnTrial : ByteArray := prog_8_method_23_code
def yX6_isOnTrial : MethodName := ⟨RX6, "isOnTrial", "()Z"⟩
abbrev cX6_tells : ByteArray := prog_8_method_24_code
def yX6_tells : MethodName := ⟨RX6, "tells", "(I)Z"⟩
abbrev cX6_tick : ByteArray := prog_8_method_25_code
def yX6_tick : MethodName := ⟨RX6, "tick", "()Z"⟩
abbrev cX6_passes : ByteArray := prog_8_method_26_code
def yX6_passes : MethodName := ⟨RX6, "passes", "(I)I"⟩
abbrev cX6_isValue : ByteArray := prog_8_method_27_code
def yX6_isValue : MethodName := ⟨RX6, "isValue", "(II)Z"⟩
abbrev cX6_set : ByteArray := prog_8_method_28_code
def yX6_set : MethodName := ⟨RX6, "set", "(II)I"⟩
abbrev cX6_begin : ByteArray := prog_8_method_29_code
def yX6_begin : MethodName := ⟨RX6, "begin", "(IIII)I"⟩
abbrev cX6_lacks : ByteArray := prog_8_method_30_code
def yX6_lacks : MethodName := ⟨RX6, "lacks", "(I)I"⟩
abbrev cX6_fills : ByteArray := prog_8_method_31_code
def yX6_fills : MethodName := ⟨RX6, "fills", "(II)V"⟩
abbrev cX6_fill : ByteArray := prog_8_method_32_code
def yX6_fill : MethodName := ⟨RX6, "fill", "(II)I"⟩
abbrev cX6_fillAll : ByteArray := prog_8_method_33_code
def yX6_fillAll : MethodName := ⟨RX6, "fillAll", "(I)I"⟩
abbrev cX6_finish : ByteArray := prog_8_method_34_code
def yX6_finish : MethodName := ⟨RX6, "finish", "(I)I"⟩
abbrev cX6_damage : ByteArray := prog_8_method_35_code
def yX6_damage : MethodName := ⟨RX6, "damage", "(III)I"⟩
abbrev cX6_repair : ByteArray := prog_8_method_36_code
def yX6_repair : MethodName := ⟨RX6, "repair", "(I)I"⟩
abbrev cX6_start : ByteArray := prog_8_method_37_code
def yX6_start : MethodName := ⟨RX6, "start", "(Z)I"⟩
abbrev cX6_pass : ByteArray := prog_8_method_38_code
def yX6_pass : MethodName := ⟨RX6, "pass", "(I)I"⟩
abbrev cX6_wornMany : ByteArray := prog_8_method_39_code
def yX6_wornMany : MethodName := ⟨RX6, "wornMany", "(I)I"⟩
abbrev cX6_slot : ByteArray := prog_8_method_40_code
def yX6_slot : MethodName := ⟨RX6, "slot", "(II)I"⟩
abbrev cX6_word : ByteArray := prog_8_method_41_code
def yX6_word : MethodName := ⟨RX6, "word", "(II)I"⟩
abbrev cX6_wear : ByteArray := prog_8_method_42_code
def yX6_wear : MethodName := ⟨RX6, "wear", "(II)I"⟩
abbrev cX6_past : ByteArray := prog_8_method_43_code
def yX6_past : MethodName := ⟨RX6, "past", "(II)I"⟩
abbrev cX6_count : ByteArray := prog_8_method_44_code
def yX6_count : MethodName := ⟨RX6, "count", "(I)I"⟩
abbrev cX6_padSum : ByteArray := prog_8_method_45_code
def yX6_padSum : MethodName := ⟨RX6, "padSum", "()I"⟩
abbrev cX6_badMany : ByteArray := prog_8_method_46_code
def yX6_badMany : MethodName := ⟨RX6, "badMany", "()I"⟩
abbrev cX6_ifStarted : ByteArray := prog_8_method_47_code
def yX6_ifStarted : MethodName := ⟨RX6, "ifStarted", "(Z)I"⟩
abbrev cX6_ifPassed : ByteArray := prog_8_method_48_code
def yX6_ifPassed : MethodName := ⟨RX6, "ifPassed", "(II)I"⟩
abbrev cX6_nextStart : ByteArray := prog_8_method_49_code
def yX6_nextStart : MethodName := ⟨RX6, "nextStart", "()I"⟩
abbrev cX6_lasts : ByteArray := prog_8_method_50_code
def yX6_lasts : MethodName := ⟨RX6, "lasts", "(II)I"⟩
abbrev cX6_put : ByteArray := prog_8_method_51_code
def yX6_put : MethodName := ⟨RX6, "put", "(J)I"⟩
abbrev cX6_wipe : ByteArray := prog_8_method_52_code
def yX6_wipe : MethodName := ⟨RX6, "wipe", "()I"⟩
abbrev cX6_digitOf : ByteArray := prog_8_method_53_code
def yX6_digitOf : MethodName := ⟨RX6, "digitOf", "(I)I"⟩
abbrev cX6_padWord : ByteArray := prog_8_method_54_code
def yX6_padWord : MethodName := ⟨RX6, "padWord", "(I)I"⟩
abbrev cX6_findFault : ByteArray := prog_8_method_55_code
def yX6_findFault : MethodName := ⟨RX6, "findFault", "()I"⟩
abbrev cX6_fault : ByteArray := prog_8_method_56_code
def yX6_fault : MethodName := ⟨RX6, "fault", "()I"⟩
abbrev cX6_undo : ByteArray := prog_8_method_57_code
def yX6_undo : MethodName := ⟨RX6, "undo", "()I"⟩
abbrev cX6_save : ByteArray := prog_8_method_58_code
def yX6_save : MethodName := ⟨RX6, "save", "(I)I"⟩
abbrev cX6_restore : ByteArray := prog_8_method_59_code
def yX6_restore : MethodName := ⟨RX6, "restore", "(I)I"⟩
def RJ9 : String := "java/lang/Math"
def TJ9 : u_T := fun k => match k with
  | _ => ("", "", "", false)
def tyJ9 : Nat → FieldType := fun k => match k with
  | _ => .int
abbrev wsJ90 : List Cond := u_ws RJ9 TJ9 0
theorem nmJ9 : ∀ a, a < 0 → ∀ b, b < 0 → a ≠ b → (TJ9 a).2.1 ≠ (TJ9 b).2.1 := by decide +kernel
theorem tyJ9_ok : ∀ k, k < 0 → parseFieldDescriptor (TJ9 k).2.2.1 = some (tyJ9 k) := by decide +kernel
abbrev cJ9_floorMod_7cf53 : ByteArray := prog_9_method_50_code
def yJ9_floorMod_7cf53 : MethodName := ⟨RJ9, "floorMod", "(II)I"⟩
abbrev cJ9_max_7cf53 : ByteArray := prog_9_method_65_code
def yJ9_max_7cf53 : MethodName := ⟨RJ9, "max", "(II)I"⟩
abbrev cJ9_min_7cf53 : ByteArray := prog_9_method_69_code
def yJ9_min_7cf53 : MethodName := ⟨RJ9, "min", "(II)I"⟩
def RJ10 : String := "java/lang/System"
def TJ10 : u_T := fun k => match k with
  | _ => ("", "", "", false)
def tyJ10 : Nat → FieldType := fun k => match k with
  | _ => .int
abbrev wsJ100 : List Cond := u_ws RJ10 TJ10 0
theorem nmJ10 : ∀ a, a < 0 → ∀ b, b < 0 → a ≠ b → (TJ10 a).2.1 ≠ (TJ10 b).2.1 := by decide +kernel
theorem tyJ10_ok : ∀ k, k < 0 → parseFieldDescriptor (TJ10 k).2.2.1 = some (tyJ10 k) := by decide +kernel
def RL : String := "TrialBootsLaw"
abbrev cL_law : ByteArray := code
def yL_law : MethodName := ⟨RL, "law", "([I)Z"⟩
def wsL_law_r1 : List Cond := [Cond.classLink RL 7 RX5, Cond.instantiable RX5 6, Cond.initialized RX5, Cond.classLink RL 10 RX6, Cond.instantiable RX6 8, Cond.initialized RX6, Cond.constantLong RL 95 (4294967295), Cond.methodLink RL 9 yX5_init, Cond.instanceMethod yX5_init, Cond.code yX5_init cX5_init 1 none, Cond.methodLink RX5 1 objectInit, Cond.instanceMethod objectInit, Cond.code objectInit ⟨#[0xb1]⟩ 1 none, Cond.classLink RX5 7 RX1, Cond.instantiable RX1 10, Cond.initialized RX1, Cond.fieldLink RX5 10 "TrialBoots" "device" "LTrialBoots$Device;", Cond.fieldLink RX5 16 "TrialBoots" "whatIf" "LTrialBoots$Device;", Cond.fieldLink RX5 19 "TrialBoots" "saved" "[LTrialBoots$Device;", Cond.arrayClass .boolean, Cond.fieldLink RX5 23 "TrialBoots" "isSaved" "[Z", Cond.classLink RX5 27 RX2, Cond.instantiable RX2 3, Cond.initialized RX2]
def wsL_law_r2 : List Cond := [Cond.fieldLink RX5 30 "TrialBoots" "history" "LTrialBoots$History;", Cond.classLink RX5 34 RX3, Cond.instantiable RX3 2, Cond.initialized RX3, Cond.fieldLink RX5 37 "TrialBoots" "pad" "LTrialBoots$Pad;", Cond.methodLink RX5 9 yX1_init, Cond.instanceMethod yX1_init, Cond.code yX1_init cX1_init 1 none, Cond.methodLink RX1 3 objectInit, Cond.arrayClass .int, Cond.fieldLink RX1 9 "TrialBoots$Device" "settings" "[I", Cond.classLink RX1 15 RX0, Cond.instantiable RX0 8, Cond.initialized RX0, Cond.fieldLink RX1 18 "TrialBoots$Device" "first" "LTrialBoots$Area;", Cond.fieldLink RX1 22 "TrialBoots$Device" "second" "LTrialBoots$Area;", Cond.fieldLink RX1 25 "TrialBoots$Device" "golden" "LTrialBoots$Area;", Cond.classLink RX1 28 RX4, Cond.instantiable RX4 6, Cond.initialized RX4, Cond.fieldLink RX1 31 "TrialBoots$Device" "starts" "LTrialBoots$Starts;", Cond.fieldLink RX1 35 "TrialBoots$Device" "running" "I", Cond.methodLink RX1 17 yX0_init, Cond.instanceMethod yX0_init]
def wsL_law_r3 : List Cond := [Cond.code yX0_init cX0_init 2 none, Cond.methodLink RX0 3 objectInit, Cond.fieldLink RX0 9 "TrialBoots$Area" "state" "I", Cond.fieldLink RX0 15 "TrialBoots$Area" "words" "[I", Cond.fieldLink RX0 19 "TrialBoots$Area" "wears" "[I", Cond.instanceMethod yX4_init, Cond.code yX4_init cX4_init 1 none, Cond.methodLink RX4 3 objectInit, Cond.fieldLink RX4 9 "TrialBoots$Starts" "areas" "[I", Cond.fieldLink RX4 15 "TrialBoots$Starts" "causes" "[I", Cond.fieldLink RX4 18 "TrialBoots$Starts" "ticks" "[I", Cond.methodLink RX1 39 yX0_takeGoldenImage, Cond.instanceMethod yX0_takeGoldenImage, Cond.selects RX0 yX0_takeGoldenImage yX0_takeGoldenImage, Cond.code yX0_takeGoldenImage cX0_takeGoldenImage 1 none, Cond.fieldLink RX0 28 "TrialBoots$Area" "toldSum" "I", Cond.methodLink RX0 43 yX0_expectImage, Cond.instanceMethod yX0_expectImage, Cond.selects RX0 yX0_expectImage yX0_expectImage, Cond.code yX0_expectImage cX0_expectImage 4 none, Cond.fieldLink RX0 22 "TrialBoots$Area" "version" "I", Cond.fieldLink RX0 25 "TrialBoots$Area" "length" "I", Cond.fieldLink RX0 31 "TrialBoots$Area" "tries" "I", Cond.fieldLink RX0 34 "TrialBoots$Area" "filled" "I"]
def wsL_law_r4 : List Cond := [Cond.methodLink RX0 47 yX0_addWord, Cond.instanceMethod yX0_addWord, Cond.selects RX0 yX0_addWord yX0_addWord, Cond.code yX0_addWord cX0_addWord 2 none, Cond.static yX5_isWithin, Cond.code yX5_isWithin cX5_isWithin 3 (some .boolean), Cond.methodLink RX0 51 yX0_sumOfImage, Cond.instanceMethod yX0_sumOfImage, Cond.selects RX0 yX0_sumOfImage yX0_sumOfImage, Cond.code yX0_sumOfImage cX0_sumOfImage 3 (some .int), Cond.static yX5_sumWith, Cond.code yX5_sumWith cX5_sumWith 2 (some .int), Cond.methodLink RX5 29 yX2_init, Cond.instanceMethod yX2_init, Cond.code yX2_init cX2_init 2 none, Cond.methodLink RX2 3 objectInit, Cond.classLink RX2 9 RX1, Cond.fieldLink RX2 11 "TrialBoots$History" "states" "[LTrialBoots$Device;", Cond.methodLink RX2 17 yX1_init, Cond.instanceMethod yX3_init, Cond.code yX3_init cX3_init 1 none, Cond.methodLink RX3 3 objectInit, Cond.fieldLink RX3 9 "TrialBoots$Pad" "codes" "[I", Cond.methodLink RL 12 yX6_init]
def wsL_law_r5 : List Cond := [Cond.instanceMethod yX6_init, Cond.code yX6_init cX6_init 3 none, Cond.methodLink RX6 1 objectInit, Cond.fieldLink RX6 7 "TrialBootsModel" "state" "[I", Cond.fieldLink RX6 13 "TrialBootsModel" "kept" "[I", Cond.fieldLink RX6 16 "TrialBootsModel" "history" "[I", Cond.fieldLink RX6 19 "TrialBootsModel" "saved" "[I", Cond.fieldLink RX6 22 "TrialBootsModel" "isSaved" "[I", Cond.fieldLink RX6 25 "TrialBootsModel" "pad" "[I", Cond.methodLink RX6 28 yX6_setPart, Cond.instanceMethod yX6_setPart, Cond.selects RX6 yX6_setPart yX6_setPart, Cond.code yX6_setPart cX6_setPart 4 none, Cond.methodLink RL 13 yX5_set, Cond.instanceMethod yX5_set, Cond.selects RX5 yX5_set yX5_set, Cond.code yX5_set cX5_set 4 (some .int), Cond.fieldLink RX5 45 "TrialBoots" "MOST_SETTING" "[I", Cond.fieldLink RX5 53 "TrialBoots$Device" "settings" "[I", Cond.methodLink RX5 41 yX5_isWithin, Cond.methodLink RX5 49 yX2_record, Cond.instanceMethod yX2_record, Cond.selects RX2 yX2_record yX2_record, Cond.code yX2_record cX2_record 2 none]
def wsL_law_r6 : List Cond := [Cond.fieldLink RX2 18 "TrialBoots$History" "recorded" "I", Cond.fieldLink RX2 32 "TrialBoots$History" "size" "I", Cond.methodLink RX2 35 Lib.Math.min.name, Cond.static Lib.Math.min.name, Cond.initialized "java/lang/Math", Cond.code Lib.Math.min.name Lib.Math.min.code 2 (some .int), Cond.methodLink RX2 22 yJ9_floorMod_7cf53, Cond.static yJ9_floorMod_7cf53, Cond.initialized RJ9, Cond.code yJ9_floorMod_7cf53 cJ9_floorMod_7cf53 3 (some .int), Cond.methodLink RX2 28 yX1_copyFrom, Cond.instanceMethod yX1_copyFrom, Cond.selects RX1 yX1_copyFrom yX1_copyFrom, Cond.code yX1_copyFrom cX1_copyFrom 2 none, Cond.methodLink RX1 42 arraycopyName, Cond.native arraycopyName, Cond.static arraycopyName, Cond.initialized "java/lang/System", Cond.fieldLink RX1 55 "TrialBoots$Device" "ticks" "I", Cond.fieldLink RX1 58 "TrialBoots$Device" "hungTicks" "I", Cond.fieldLink RX1 61 "TrialBoots$Device" "leastVersion" "I", Cond.fieldLink RX1 64 "TrialBoots$Device" "allTicks" "I", Cond.methodLink RX1 48 yX0_copyFrom, Cond.instanceMethod yX0_copyFrom]
def wsL_law_r7 : List Cond := [Cond.selects RX0 yX0_copyFrom yX0_copyFrom, Cond.code yX0_copyFrom cX0_copyFrom 2 none, Cond.methodLink RX0 37 arraycopyName, Cond.methodLink RX1 52 yX4_copyFrom, Cond.instanceMethod yX4_copyFrom, Cond.selects RX4 yX4_copyFrom yX4_copyFrom, Cond.code yX4_copyFrom cX4_copyFrom 2 none, Cond.fieldLink RX4 21 "TrialBoots$Starts" "all" "I", Cond.fieldLink RX4 25 "TrialBoots$Starts" "byWatchdog" "I", Cond.fieldLink RX4 28 "TrialBoots$Starts" "kept" "I", Cond.methodLink RX4 31 arraycopyName, Cond.methodLink RL 17 yX6_set, Cond.instanceMethod yX6_set, Cond.selects RX6 yX6_set yX6_set, Cond.code yX6_set cX6_set 4 (some .int), Cond.methodLink RX6 93 yX6_isValue, Cond.static yX6_isValue, Cond.code yX6_isValue cX6_isValue 2 (some .boolean), Cond.methodLink RX6 40 yX6_within, Cond.static yX6_within, Cond.code yX6_within cX6_within 3 (some .boolean), Cond.methodLink RX6 96 yX6_record, Cond.instanceMethod yX6_record, Cond.selects RX6 yX6_record yX6_record]
def wsL_law_r8 : List Cond := [Cond.code yX6_record cX6_record 2 none, Cond.fieldLink RX6 32 "TrialBootsModel" "recorded" "I", Cond.methodLink RX6 36 yX6_moves, Cond.static yX6_moves, Cond.code yX6_moves cX6_moves 5 none, Cond.methodLink RL 18 yX5_begin, Cond.instanceMethod yX5_begin, Cond.selects RX5 yX5_begin yX5_begin, Cond.code yX5_begin cX5_begin 7 (some .int), Cond.fieldLink RX5 67 "TrialBoots$Device" "running" "I", Cond.fieldLink RX5 71 "TrialBoots$Device" "leastVersion" "I", Cond.methodLink RX5 56 yX5_isSlot, Cond.static yX5_isSlot, Cond.code yX5_isSlot cX5_isSlot 1 (some .boolean), Cond.methodLink RX5 60 yX5_isLength, Cond.static yX5_isLength, Cond.code yX5_isLength cX5_isLength 1 (some .boolean), Cond.methodLink RX5 63 yX5_pagesOf, Cond.static yX5_pagesOf, Cond.code yX5_pagesOf cX5_pagesOf 1 (some .int), Cond.methodLink RX5 74 yX1_beginsLeft, Cond.instanceMethod yX1_beginsLeft, Cond.selects RX1 yX1_beginsLeft yX1_beginsLeft, Cond.code yX1_beginsLeft cX1_beginsLeft 3 (some .int)]
def wsL_law_r9 : List Cond := [Cond.methodLink RX1 78 Lib.Math.max.name, Cond.static Lib.Math.max.name, Cond.code Lib.Math.max.name Lib.Math.max.code 2 (some .int), Cond.methodLink RX1 70 yX1_areaAt, Cond.instanceMethod yX1_areaAt, Cond.selects RX1 yX1_areaAt yX1_areaAt, Cond.code yX1_areaAt cX1_areaAt 2 (some (.object "TrialBoots$Area")), Cond.methodLink RX1 74 yX0_greatestWear, Cond.instanceMethod yX0_greatestWear, Cond.selects RX0 yX0_greatestWear yX0_greatestWear, Cond.code yX0_greatestWear cX0_greatestWear 4 (some .int), Cond.methodLink RX0 63 Lib.Math.max.name, Cond.methodLink RX5 78 yX1_areaAt, Cond.methodLink RX5 82 yX0_emptyPages, Cond.instanceMethod yX0_emptyPages, Cond.selects RX0 yX0_emptyPages yX0_emptyPages, Cond.code yX0_emptyPages cX0_emptyPages 3 none, Cond.methodLink RX5 88 yX0_expectImage, Cond.methodLink RX5 92 yX0_greatestWear, Cond.methodLink RL 22 yX6_begin, Cond.instanceMethod yX6_begin, Cond.selects RX6 yX6_begin yX6_begin, Cond.code yX6_begin cX6_begin 6 (some .int), Cond.methodLink RX6 99 yX6_isSlot]
def wsL_law_r10 : List Cond := [Cond.static yX6_isSlot, Cond.code yX6_isSlot cX6_isSlot 1 (some .boolean), Cond.methodLink RX6 102 yX6_pagesOf, Cond.static yX6_pagesOf, Cond.code yX6_pagesOf cX6_pagesOf 1 (some .int), Cond.methodLink RX6 105 yX6_isAnyWorn, Cond.instanceMethod yX6_isAnyWorn, Cond.selects RX6 yX6_isAnyWorn yX6_isAnyWorn, Cond.code yX6_isAnyWorn cX6_isAnyWorn 5 (some .boolean), Cond.methodLink RX6 55 yX6_isWorn, Cond.instanceMethod yX6_isWorn, Cond.selects RX6 yX6_isWorn yX6_isWorn, Cond.code yX6_isWorn cX6_isWorn 3 (some .boolean), Cond.methodLink RX6 44 yX6_part, Cond.instanceMethod yX6_part, Cond.selects RX6 yX6_part yX6_part, Cond.code yX6_part cX6_part 3 (some .int), Cond.methodLink RX6 108 yX6_emptyPage, Cond.instanceMethod yX6_emptyPage, Cond.selects RX6 yX6_emptyPage yX6_emptyPage, Cond.code yX6_emptyPage cX6_emptyPage 4 none, Cond.methodLink RX6 112 yX6_greatestWear, Cond.instanceMethod yX6_greatestWear, Cond.selects RX6 yX6_greatestWear yX6_greatestWear]
def wsL_law_r11 : List Cond := [Cond.code yX6_greatestWear cX6_greatestWear 5 (some .int), Cond.methodLink RL 23 yX5_fill, Cond.instanceMethod yX5_fill, Cond.selects RX5 yX5_fill yX5_fill, Cond.code yX5_fill cX5_fill 4 (some .int), Cond.fieldLink RX5 95 "TrialBoots$Area" "state" "I", Cond.fieldLink RX5 105 "TrialBoots$Area" "filled" "I", Cond.methodLink RX5 98 yX0_lacking, Cond.instanceMethod yX0_lacking, Cond.selects RX0 yX0_lacking yX0_lacking, Cond.code yX0_lacking cX0_lacking 1 (some .int), Cond.methodLink RX5 102 yX0_addWord, Cond.methodLink RL 26 yX6_fill, Cond.instanceMethod yX6_fill, Cond.selects RX6 yX6_fill yX6_fill, Cond.code yX6_fill cX6_fill 3 (some .int), Cond.methodLink RX6 59 yX6_isHow, Cond.instanceMethod yX6_isHow, Cond.selects RX6 yX6_isHow yX6_isHow, Cond.code yX6_isHow cX6_isHow 3 (some .boolean), Cond.methodLink RX6 115 yX6_lacks, Cond.instanceMethod yX6_lacks, Cond.selects RX6 yX6_lacks yX6_lacks, Cond.code yX6_lacks cX6_lacks 2 (some .int)]
def wsL_law_r12 : List Cond := [Cond.methodLink RX6 118 yX6_fills, Cond.instanceMethod yX6_fills, Cond.selects RX6 yX6_fills yX6_fills, Cond.code yX6_fills cX6_fills 3 none, Cond.methodLink RL 27 yX5_fillAll, Cond.instanceMethod yX5_fillAll, Cond.selects RX5 yX5_fillAll yX5_fillAll, Cond.code yX5_fillAll cX5_fillAll 5 (some .int), Cond.methodLink RX5 108 yX3_firstFault, Cond.instanceMethod yX3_firstFault, Cond.selects RX3 yX3_firstFault yX3_firstFault, Cond.code yX3_firstFault cX3_firstFault 2 (some .int), Cond.fieldLink RX3 21 "TrialBoots$Pad" "length" "I", Cond.methodLink RX3 25 yX3_digitAt, Cond.instanceMethod yX3_digitAt, Cond.selects RX3 yX3_digitAt yX3_digitAt, Cond.code yX3_digitAt cX3_digitAt 3 (some .int), Cond.methodLink RX5 111 yX3_words, Cond.instanceMethod yX3_words, Cond.selects RX3 yX3_words yX3_words, Cond.code yX3_words cX3_words 1 (some .int), Cond.methodLink RX5 114 yX3_wordAt, Cond.instanceMethod yX3_wordAt, Cond.selects RX3 yX3_wordAt yX3_wordAt]
def wsL_law_r13 : List Cond := [Cond.code yX3_wordAt cX3_wordAt 2 (some .int), Cond.methodLink RX5 117 yX3_clear, Cond.instanceMethod yX3_clear, Cond.selects RX3 yX3_clear yX3_clear, Cond.code yX3_clear cX3_clear 1 none, Cond.methodLink RL 31 yX6_fillAll, Cond.instanceMethod yX6_fillAll, Cond.selects RX6 yX6_fillAll yX6_fillAll, Cond.code yX6_fillAll cX6_fillAll 3 (some .int), Cond.fieldLink RX6 124 "TrialBootsModel" "padLength" "I", Cond.methodLink RX6 121 yX6_findFault, Cond.instanceMethod yX6_findFault, Cond.selects RX6 yX6_findFault yX6_findFault, Cond.code yX6_findFault cX6_findFault 2 (some .int), Cond.methodLink RX6 141 yX6_digitOf, Cond.static yX6_digitOf, Cond.code yX6_digitOf cX6_digitOf 1 (some .int), Cond.methodLink RX6 127 yX6_padWord, Cond.instanceMethod yX6_padWord, Cond.selects RX6 yX6_padWord yX6_padWord, Cond.code yX6_padWord cX6_padWord 2 (some .int), Cond.methodLink RL 32 yX5_finish, Cond.instanceMethod yX5_finish, Cond.selects RX5 yX5_finish yX5_finish]
def wsL_law_r14 : List Cond := [Cond.code yX5_finish cX5_finish 3 (some .int), Cond.fieldLink RX5 124 "TrialBoots$Area" "tries" "I", Cond.methodLink RX5 120 yX0_isSound, Cond.instanceMethod yX0_isSound, Cond.selects RX0 yX0_isSound yX0_isSound, Cond.code yX0_isSound cX0_isSound 1 (some .boolean), Cond.methodLink RL 35 yX6_finish, Cond.instanceMethod yX6_finish, Cond.selects RX6 yX6_finish yX6_finish, Cond.code yX6_finish cX6_finish 3 (some .int), Cond.methodLink RX6 72 yX6_isSound, Cond.instanceMethod yX6_isSound, Cond.selects RX6 yX6_isSound yX6_isSound, Cond.code yX6_isSound cX6_isSound 2 (some .boolean), Cond.methodLink RX6 51 yX6_sumOf, Cond.instanceMethod yX6_sumOf, Cond.selects RX6 yX6_sumOf yX6_sumOf, Cond.code yX6_sumOf cX6_sumOf 5 (some .int), Cond.methodLink RX6 48 yX6_wordOf, Cond.instanceMethod yX6_wordOf, Cond.selects RX6 yX6_wordOf yX6_wordOf, Cond.code yX6_wordOf cX6_wordOf 3 (some .int), Cond.methodLink RL 36 yX5_damage, Cond.instanceMethod yX5_damage]
def wsL_law_r15 : List Cond := [Cond.selects RX5 yX5_damage yX5_damage, Cond.code yX5_damage cX5_damage 5 (some .int), Cond.fieldLink RX5 127 "TrialBoots$Area" "words" "[I", Cond.methodLink RL 40 yX6_damage, Cond.instanceMethod yX6_damage, Cond.selects RX6 yX6_damage yX6_damage, Cond.code yX6_damage cX6_damage 4 (some .int), Cond.methodLink RL 41 yX5_repair, Cond.instanceMethod yX5_repair, Cond.selects RX5 yX5_repair yX5_repair, Cond.code yX5_repair cX5_repair 3 (some .int), Cond.methodLink RX5 129 yX0_takeGoldenImage, Cond.methodLink RL 44 yX6_repair, Cond.instanceMethod yX6_repair, Cond.selects RX6 yX6_repair yX6_repair, Cond.code yX6_repair cX6_repair 3 (some .int), Cond.methodLink RL 45 yX5_start, Cond.instanceMethod yX5_start, Cond.selects RX5 yX5_start yX5_start, Cond.code yX5_start cX5_start 2 (some .int), Cond.methodLink RX5 132 yX1_startBy, Cond.instanceMethod yX1_startBy, Cond.selects RX1 yX1_startBy yX1_startBy, Cond.code yX1_startBy cX1_startBy 2 none]
def wsL_law_r16 : List Cond := [Cond.methodLink RX1 84 yX0_loseFilling, Cond.instanceMethod yX0_loseFilling, Cond.selects RX0 yX0_loseFilling yX0_loseFilling, Cond.code yX0_loseFilling cX0_loseFilling 1 none, Cond.methodLink RX1 87 yX0_giveUpTrial, Cond.instanceMethod yX0_giveUpTrial, Cond.selects RX0 yX0_giveUpTrial yX0_giveUpTrial, Cond.code yX0_giveUpTrial cX0_giveUpTrial 1 none, Cond.methodLink RX1 90 yX1_soundArea, Cond.instanceMethod yX1_soundArea, Cond.selects RX1 yX1_soundArea yX1_soundArea, Cond.code yX1_soundArea cX1_soundArea 3 (some .int), Cond.fieldLink RX1 67 "TrialBoots$Area" "state" "I", Cond.methodLink RX1 101 yX1_bestArea, Cond.instanceMethod yX1_bestArea, Cond.selects RX1 yX1_bestArea yX1_bestArea, Cond.code yX1_bestArea cX1_bestArea 2 (some .int), Cond.methodLink RX1 108 yX1_newestThatIs, Cond.instanceMethod yX1_newestThatIs, Cond.selects RX1 yX1_newestThatIs yX1_newestThatIs, Cond.code yX1_newestThatIs cX1_newestThatIs 2 (some .int), Cond.fieldLink RX1 111 "TrialBoots$Area" "version" "I", Cond.methodLink RX1 104 yX0_isSound, Cond.methodLink RX1 94 yX0_useTry]
def wsL_law_r17 : List Cond := [Cond.instanceMethod yX0_useTry, Cond.selects RX0 yX0_useTry yX0_useTry, Cond.code yX0_useTry cX0_useTry 1 none, Cond.methodLink RX1 97 yX4_add, Cond.instanceMethod yX4_add, Cond.selects RX4 yX4_add yX4_add, Cond.code yX4_add cX4_add 5 none, Cond.methodLink RX4 37 Lib.Math.min.name, Cond.methodLink RX4 43 yX4_indexOf, Cond.instanceMethod yX4_indexOf, Cond.selects RX4 yX4_indexOf yX4_indexOf, Cond.code yX4_indexOf cX4_indexOf 2 (some .int), Cond.methodLink RX4 47 yJ9_floorMod_7cf53, Cond.methodLink RL 49 yX6_start, Cond.instanceMethod yX6_start, Cond.selects RX6 yX6_start yX6_start, Cond.code yX6_start cX6_start 2 (some .int), Cond.methodLink RX6 87 yX6_starts, Cond.instanceMethod yX6_starts, Cond.selects RX6 yX6_starts yX6_starts, Cond.code yX6_starts cX6_starts 3 none, Cond.methodLink RX6 68 yX6_chosen, Cond.instanceMethod yX6_chosen, Cond.selects RX6 yX6_chosen yX6_chosen]
def wsL_law_r18 : List Cond := [Cond.code yX6_chosen cX6_chosen 2 (some .int), Cond.methodLink RX6 65 yX6_greatest, Cond.instanceMethod yX6_greatest, Cond.selects RX6 yX6_greatest yX6_greatest, Cond.code yX6_greatest cX6_greatest 4 (some .int), Cond.methodLink RX6 62 yX6_canBe, Cond.instanceMethod yX6_canBe, Cond.selects RX6 yX6_canBe yX6_canBe, Cond.code yX6_canBe cX6_canBe 3 (some .boolean), Cond.methodLink RX6 76 yX6_remember, Cond.instanceMethod yX6_remember, Cond.selects RX6 yX6_remember yX6_remember, Cond.code yX6_remember cX6_remember 3 none, Cond.methodLink RL 50 yX5_pass, Cond.instanceMethod yX5_pass, Cond.selects RX5 yX5_pass yX5_pass, Cond.code yX5_pass cX5_pass 2 (some .int), Cond.methodLink RX5 135 yX1_letPass, Cond.instanceMethod yX1_letPass, Cond.selects RX1 yX1_letPass yX1_letPass, Cond.code yX1_letPass cX1_letPass 4 (some .int), Cond.methodLink RX1 114 yX1_startsInTick, Cond.instanceMethod yX1_startsInTick, Cond.selects RX1 yX1_startsInTick yX1_startsInTick]
def wsL_law_r19 : List Cond := [Cond.code yX1_startsInTick cX1_startsInTick 4 (some .boolean), Cond.fieldLink RX1 117 "TrialBoots$Area" "words" "[I", Cond.methodLink RX1 120 yX1_startBy, Cond.methodLink RL 53 yX6_pass, Cond.instanceMethod yX6_pass, Cond.selects RX6 yX6_pass yX6_pass, Cond.code yX6_pass cX6_pass 2 (some .int), Cond.methodLink RX6 130 yX6_passes, Cond.instanceMethod yX6_passes, Cond.selects RX6 yX6_passes yX6_passes, Cond.code yX6_passes cX6_passes 4 (some .int), Cond.methodLink RX6 90 yX6_tick, Cond.instanceMethod yX6_tick, Cond.selects RX6 yX6_tick yX6_tick, Cond.code yX6_tick cX6_tick 2 (some .boolean), Cond.methodLink RX6 80 yX6_tells, Cond.instanceMethod yX6_tells, Cond.selects RX6 yX6_tells yX6_tells, Cond.code yX6_tells cX6_tells 3 (some .boolean), Cond.methodLink RX6 83 yX6_isOnTrial, Cond.instanceMethod yX6_isOnTrial, Cond.selects RX6 yX6_isOnTrial yX6_isOnTrial, Cond.code yX6_isOnTrial cX6_isOnTrial 1 (some .boolean), Cond.methodLink RL 54 yX5_slot]
def wsL_law_r20 : List Cond := [Cond.instanceMethod yX5_slot, Cond.selects RX5 yX5_slot yX5_slot, Cond.code yX5_slot cX5_slot 4 (some .int), Cond.fieldLink RX5 138 "TrialBoots$Area" "version" "I", Cond.fieldLink RX5 141 "TrialBoots$Area" "length" "I", Cond.fieldLink RX5 144 "TrialBoots$Area" "toldSum" "I", Cond.methodLink RX5 147 yX0_sumOfImage, Cond.methodLink RX5 150 yX0_wornOutPages, Cond.instanceMethod yX0_wornOutPages, Cond.selects RX0 yX0_wornOutPages yX0_wornOutPages, Cond.code yX0_wornOutPages cX0_wornOutPages 4 (some .int), Cond.methodLink RL 57 yX6_slot, Cond.instanceMethod yX6_slot, Cond.selects RX6 yX6_slot yX6_slot, Cond.code yX6_slot cX6_slot 3 (some .int), Cond.methodLink RX6 133 yX6_wornMany, Cond.instanceMethod yX6_wornMany, Cond.selects RX6 yX6_wornMany yX6_wornMany, Cond.code yX6_wornMany cX6_wornMany 4 (some .int), Cond.methodLink RL 58 yX5_word, Cond.instanceMethod yX5_word, Cond.selects RX5 yX5_word yX5_word, Cond.code yX5_word cX5_word 3 (some .int), Cond.methodLink RL 61 yX6_word]
def wsL_law_r21 : List Cond := [Cond.instanceMethod yX6_word, Cond.selects RX6 yX6_word yX6_word, Cond.code yX6_word cX6_word 3 (some .int), Cond.methodLink RL 62 yX5_wear, Cond.instanceMethod yX5_wear, Cond.selects RX5 yX5_wear yX5_wear, Cond.code yX5_wear cX5_wear 3 (some .int), Cond.fieldLink RX5 153 "TrialBoots$Area" "wears" "[I", Cond.methodLink RL 65 yX6_wear, Cond.instanceMethod yX6_wear, Cond.selects RX6 yX6_wear yX6_wear, Cond.code yX6_wear cX6_wear 3 (some .int), Cond.methodLink RL 66 yX5_past, Cond.instanceMethod yX5_past, Cond.selects RX5 yX5_past yX5_past, Cond.code yX5_past cX5_past 4 (some .int), Cond.fieldLink RX5 156 "TrialBoots$Device" "starts" "LTrialBoots$Starts;", Cond.fieldLink RX5 160 "TrialBoots$Starts" "kept" "I", Cond.fieldLink RX5 168 "TrialBoots$Starts" "areas" "[I", Cond.fieldLink RX5 171 "TrialBoots$Starts" "causes" "[I", Cond.fieldLink RX5 174 "TrialBoots$Starts" "ticks" "[I", Cond.methodLink RX5 165 yX4_indexOf, Cond.methodLink RL 69 yX6_past, Cond.instanceMethod yX6_past]
def wsL_law_r22 : List Cond := [Cond.selects RX6 yX6_past yX6_past, Cond.code yX6_past cX6_past 3 (some .int), Cond.methodLink RL 70 yX5_count, Cond.instanceMethod yX5_count, Cond.selects RX5 yX5_count yX5_count, Cond.code yX5_count cX5_count 2 (some .int), Cond.fieldLink RX5 177 "TrialBoots$Device" "ticks" "I", Cond.fieldLink RX5 179 "TrialBoots$Device" "hungTicks" "I", Cond.fieldLink RX5 182 "TrialBoots$Starts" "all" "I", Cond.fieldLink RX5 185 "TrialBoots$Starts" "byWatchdog" "I", Cond.fieldLink RX5 188 "TrialBoots$Device" "allTicks" "I", Cond.fieldLink RX5 191 "TrialBoots$Pad" "length" "I", Cond.fieldLink RX5 192 "TrialBoots$History" "size" "I", Cond.methodLink RL 73 yX6_count, Cond.instanceMethod yX6_count, Cond.selects RX6 yX6_count yX6_count, Cond.code yX6_count cX6_count 2 (some .int), Cond.methodLink RL 74 yX5_padSum, Cond.instanceMethod yX5_padSum, Cond.selects RX5 yX5_padSum yX5_padSum, Cond.code yX5_padSum cX5_padSum 1 (some .int), Cond.methodLink RX5 195 yX3_sumOfWords, Cond.instanceMethod yX3_sumOfWords, Cond.selects RX3 yX3_sumOfWords yX3_sumOfWords]
def wsL_law_r23 : List Cond := [Cond.code yX3_sumOfWords cX3_sumOfWords 3 (some .int), Cond.methodLink RX3 29 yX3_words, Cond.methodLink RX3 33 yX3_wordAt, Cond.methodLink RL 78 yX6_padSum, Cond.instanceMethod yX6_padSum, Cond.selects RX6 yX6_padSum yX6_padSum, Cond.code yX6_padSum cX6_padSum 3 (some .int), Cond.methodLink RL 79 yX5_ifStarted, Cond.instanceMethod yX5_ifStarted, Cond.selects RX5 yX5_ifStarted yX5_ifStarted, Cond.code yX5_ifStarted cX5_ifStarted 2 (some .int), Cond.methodLink RX5 198 yX1_copyFrom, Cond.methodLink RX5 201 yX1_badSlots, Cond.instanceMethod yX1_badSlots, Cond.selects RX1 yX1_badSlots yX1_badSlots, Cond.code yX1_badSlots cX1_badSlots 1 (some .int), Cond.methodLink RL 82 yX6_ifStarted, Cond.instanceMethod yX6_ifStarted, Cond.selects RX6 yX6_ifStarted yX6_ifStarted, Cond.code yX6_ifStarted cX6_ifStarted 4 (some .int), Cond.methodLink RX6 136 yX6_badMany, Cond.instanceMethod yX6_badMany, Cond.selects RX6 yX6_badMany yX6_badMany, Cond.code yX6_badMany cX6_badMany 1 (some .int)]
def wsL_law_r24 : List Cond := [Cond.methodLink RL 83 yX5_ifPassed, Cond.instanceMethod yX5_ifPassed, Cond.selects RX5 yX5_ifPassed yX5_ifPassed, Cond.code yX5_ifPassed cX5_ifPassed 4 (some .int), Cond.methodLink RL 86 yX6_ifPassed, Cond.instanceMethod yX6_ifPassed, Cond.selects RX6 yX6_ifPassed yX6_ifPassed, Cond.code yX6_ifPassed cX6_ifPassed 5 (some .int), Cond.methodLink RL 87 yX5_nextStart, Cond.instanceMethod yX5_nextStart, Cond.selects RX5 yX5_nextStart yX5_nextStart, Cond.code yX5_nextStart cX5_nextStart 2 (some .int), Cond.methodLink RX5 204 yX1_startsInTick, Cond.methodLink RL 90 yX6_nextStart, Cond.instanceMethod yX6_nextStart, Cond.selects RX6 yX6_nextStart yX6_nextStart, Cond.code yX6_nextStart cX6_nextStart 3 (some .int), Cond.methodLink RL 91 yX5_lasts, Cond.instanceMethod yX5_lasts, Cond.selects RX5 yX5_lasts yX5_lasts, Cond.code yX5_lasts cX5_lasts 3 (some .int), Cond.methodLink RL 94 yX6_lasts, Cond.instanceMethod yX6_lasts, Cond.selects RX6 yX6_lasts yX6_lasts]
def wsL_law_r25 : List Cond := [Cond.code yX6_lasts cX6_lasts 4 (some .int), Cond.methodLink RL 97 yX5_put, Cond.instanceMethod yX5_put, Cond.selects RX5 yX5_put yX5_put, Cond.code yX5_put cX5_put 4 (some .int), Cond.methodLink RX5 207 yX3_charactersIn, Cond.static yX3_charactersIn, Cond.code yX3_charactersIn cX3_charactersIn 5 (some .int), Cond.constantLong RX3 15 (255), Cond.methodLink RX5 211 yX3_append, Cond.instanceMethod yX3_append, Cond.selects RX3 yX3_append yX3_append, Cond.code yX3_append cX3_append 5 none, Cond.methodLink RL 101 yX6_put, Cond.instanceMethod yX6_put, Cond.selects RX6 yX6_put yX6_put, Cond.code yX6_put cX6_put 8 (some .int), Cond.constantLong RX6 139 (255), Cond.methodLink RL 102 yX5_wipe, Cond.instanceMethod yX5_wipe, Cond.selects RX5 yX5_wipe yX5_wipe, Cond.code yX5_wipe cX5_wipe 2 (some .int), Cond.methodLink RL 105 yX6_wipe, Cond.instanceMethod yX6_wipe]
def wsL_law_r26 : List Cond := [Cond.selects RX6 yX6_wipe yX6_wipe, Cond.code yX6_wipe cX6_wipe 2 (some .int), Cond.methodLink RL 106 yX5_fault, Cond.instanceMethod yX5_fault, Cond.selects RX5 yX5_fault yX5_fault, Cond.code yX5_fault cX5_fault 1 (some .int), Cond.methodLink RL 109 yX6_fault, Cond.instanceMethod yX6_fault, Cond.selects RX6 yX6_fault yX6_fault, Cond.code yX6_fault cX6_fault 1 (some .int), Cond.methodLink RL 110 yX5_undo, Cond.instanceMethod yX5_undo, Cond.selects RX5 yX5_undo yX5_undo, Cond.code yX5_undo cX5_undo 1 (some .int), Cond.methodLink RX5 215 yX2_takeBack, Cond.instanceMethod yX2_takeBack, Cond.selects RX2 yX2_takeBack yX2_takeBack, Cond.code yX2_takeBack cX2_takeBack 2 none, Cond.methodLink RL 113 yX6_undo, Cond.instanceMethod yX6_undo, Cond.selects RX6 yX6_undo yX6_undo, Cond.code yX6_undo cX6_undo 1 (some .int), Cond.methodLink RL 114 yX5_save, Cond.instanceMethod yX5_save]
def wsL_law_r27 : List Cond := [Cond.selects RX5 yX5_save yX5_save, Cond.code yX5_save cX5_save 2 (some .int), Cond.methodLink RL 117 yX6_save, Cond.instanceMethod yX6_save, Cond.selects RX6 yX6_save yX6_save, Cond.code yX6_save cX6_save 2 (some .int), Cond.methodLink RL 118 yX5_restore, Cond.instanceMethod yX5_restore, Cond.selects RX5 yX5_restore yX5_restore, Cond.code yX5_restore cX5_restore 2 (some .int), Cond.methodLink RL 121 yX6_restore, Cond.instanceMethod yX6_restore, Cond.selects RX6 yX6_restore yX6_restore, Cond.code yX6_restore cX6_restore 2 (some .int)]
def wsL_law : List Cond := (wsL_law_r1 ++ (wsL_law_r2 ++ (wsL_law_r3 ++ (wsL_law_r4 ++ (wsL_law_r5 ++ (wsL_law_r6 ++ (wsL_law_r7 ++ (wsL_law_r8 ++ (wsL_law_r9 ++ (wsL_law_r10 ++ (wsL_law_r11 ++ (wsL_law_r12 ++ (wsL_law_r13 ++ (wsL_law_r14 ++ (wsL_law_r15 ++ (wsL_law_r16 ++ (wsL_law_r17 ++ (wsL_law_r18 ++ (wsL_law_r19 ++ (wsL_law_r20 ++ (wsL_law_r21 ++ (wsL_law_r22 ++ (wsL_law_r23 ++ (wsL_law_r24 ++ (wsL_law_r25 ++ (wsL_law_r26 ++ wsL_law_r27)))))))))))))))))))))))))) ++ wsX50 ++ wsX60 ++ wsX10 ++ wsX20 ++ wsX30 ++ wsX00 ++ wsX40 ++ ([] : List Cond)
set_option maxRecDepth 20000 in
theorem wsL_law_in1 : ∀ w ∈ wsL_law_r1, w ∈ lw_tbl := List.forall_mem_cons.mpr ⟨List.mem_of_getElem? (i := 37) (by decide +kernel), List.forall_mem_cons.mpr ⟨List.mem_of_getElem? (i := 38) (by decide +kernel), List.forall_mem_cons.mpr ⟨List.mem_of_getElem? (i := 28) (by decide +kernel), List.forall_mem_cons.mpr ⟨List.mem_of_getElem? (i := 511) (by decide +kernel), List.forall_mem_cons.mpr ⟨List.mem_of_getElem? (i := 512) (by decide +kernel), List.forall_mem_cons.mpr ⟨List.mem_of_getElem? (i := 34) (by decide +kernel), List.forall_mem_cons.mpr ⟨List.mem_of_getElem? (i := 765) (by decide +kernel), List.forall_mem_cons.mpr ⟨List.mem_of_getElem? (i := 39) (by decide +kernel), List.forall_mem_cons.mpr ⟨List.mem_of_getElem? (i := 40) (by decide +kernel), List.forall_mem_cons.mpr ⟨List.mem_of_getElem? (i := 41) (by decide +kernel), List.forall_mem_cons.mpr ⟨List.mem_of_getElem? (i := 42) (by decide +kernel), List.forall_mem_cons.mpr ⟨List.mem_of_getElem? (i := 43) (by decide +kernel), List.forall_mem_cons.mpr ⟨List.mem_of_getElem? (i := 44) (by decide +kernel), List.forall_mem_cons.mpr ⟨List.mem_of_getElem? (i := 45) (by decide +kernel), List.forall_mem_cons.mpr ⟨List.mem_of_getElem? (i := 46) (by decide +kernel), List.forall_mem_cons.mpr ⟨List.mem_of_getElem? (i := 29) (by decide +kernel), List.forall_mem_cons.mpr ⟨List.mem_of_getElem? (i := 220) (by decide +kernel), List.forall_mem_cons.mpr ⟨List.mem_of_getElem? (i := 221) (by decide +kernel), List.forall_mem_cons.mpr ⟨List.mem_of_getElem? (i := 222) (by decide +kernel), List.forall_mem_cons.mpr ⟨List.mem_of_getElem? (i := 205) (by decide +kernel), List.forall_mem_cons.mpr ⟨List.mem_of_getElem? (i := 223) (by decide +kernel), List.forall_mem_cons.mpr ⟨List.mem_of_getElem? (i := 186) (by decide +kernel), List.forall_mem_cons.mpr ⟨List.mem_of_getElem? (i := 187) (by decide +kernel), List.forall_mem_cons.mpr ⟨List.mem_of_getElem? (i := 32) (by decide +kernel), fun _ h => absurd h List.not_mem_nil⟩⟩⟩⟩⟩⟩⟩⟩⟩⟩⟩⟩⟩⟩⟩⟩⟩⟩⟩⟩⟩⟩⟩⟩
set_option maxRecDepth 20000 in
theorem wsL_law_in2 : ∀ w ∈ wsL_law_r2, w ∈ lw_tbl := List.forall_mem_cons.mpr ⟨List.mem_of_getElem? (i := 224) (by decide +kernel), List.forall_mem_cons.mpr ⟨List.mem_of_getElem? (i := 206) (by decide +kernel), List.forall_mem_cons.mpr ⟨List.mem_of_getElem? (i := 207) (by decide +kernel), List.forall_mem_cons.mpr ⟨List.mem_of_getElem? (i := 33) (by decide +kernel), List.forall_mem_cons.mpr ⟨List.mem_of_getElem? (i := 225) (by decide +kernel), List.forall_mem_cons.mpr ⟨List.mem_of_getElem? (i := 47) (by decide +kernel), List.forall_mem_cons.mpr ⟨List.mem_of_getElem? (i := 48) (by decide +kernel), List.forall_mem_cons.mpr ⟨List.mem_of_getElem? (i := 49) (by decide +kernel), List.forall_mem_cons.mpr ⟨List.mem_of_getElem? (i := 50) (by decide +kernel), List.forall_mem_cons.mpr ⟨List.mem_of_getElem? (i := 93) (by decide +kernel), List.forall_mem_cons.mpr ⟨List.mem_of_getElem? (i := 147) (by decide +kernel), List.forall_mem_cons.mpr ⟨List.mem_of_getElem? (i := 51) (by decide +kernel), List.forall_mem_cons.mpr ⟨List.mem_of_getElem? (i := 52) (by decide +kernel), List.forall_mem_cons.mpr ⟨List.mem_of_getElem? (i := 30) (by decide +kernel), List.forall_mem_cons.mpr ⟨List.mem_of_getElem? (i := 149) (by decide +kernel), List.forall_mem_cons.mpr ⟨List.mem_of_getElem? (i := 150) (by decide +kernel), List.forall_mem_cons.mpr ⟨List.mem_of_getElem? (i := 151) (by decide +kernel), List.forall_mem_cons.mpr ⟨List.mem_of_getElem? (i := 94) (by decide +kernel), List.forall_mem_cons.mpr ⟨List.mem_of_getElem? (i := 95) (by decide +kernel), List.forall_mem_cons.mpr ⟨List.mem_of_getElem? (i := 31) (by decide +kernel), List.forall_mem_cons.mpr ⟨List.mem_of_getElem? (i := 152) (by decide +kernel), List.forall_mem_cons.mpr ⟨List.mem_of_getElem? (i := 154) (by decide +kernel), List.forall_mem_cons.mpr ⟨List.mem_of_getElem? (i := 53) (by decide +kernel), List.forall_mem_cons.mpr ⟨List.mem_of_getElem? (i := 54) (by decide +kernel), fun _ h => absurd h List.not_mem_nil⟩⟩⟩⟩⟩⟩⟩⟩⟩⟩⟩⟩⟩⟩⟩⟩⟩⟩⟩⟩⟩⟩⟩⟩
set_option maxRecDepth 20000 in
theorem wsL_law_in3 : ∀ w ∈ wsL_law_r3, w ∈ lw_tbl := List.forall_mem_cons.mpr ⟨List.mem_of_getElem? (i := 55) (by decide +kernel), List.forall_mem_cons.mpr ⟨List.mem_of_getElem? (i := 56) (by decide +kernel), List.forall_mem_cons.mpr ⟨List.mem_of_getElem? (i := 57) (by decide +kernel), List.forall_mem_cons.mpr ⟨List.mem_of_getElem? (i := 71) (by decide +kernel), List.forall_mem_cons.mpr ⟨List.mem_of_getElem? (i := 74) (by decide +kernel), List.forall_mem_cons.mpr ⟨List.mem_of_getElem? (i := 97) (by decide +kernel), List.forall_mem_cons.mpr ⟨List.mem_of_getElem? (i := 98) (by decide +kernel), List.forall_mem_cons.mpr ⟨List.mem_of_getElem? (i := 99) (by decide +kernel), List.forall_mem_cons.mpr ⟨List.mem_of_getElem? (i := 106) (by decide +kernel), List.forall_mem_cons.mpr ⟨List.mem_of_getElem? (i := 108) (by decide +kernel), List.forall_mem_cons.mpr ⟨List.mem_of_getElem? (i := 110) (by decide +kernel), List.forall_mem_cons.mpr ⟨List.mem_of_getElem? (i := 125) (by decide +kernel), List.forall_mem_cons.mpr ⟨List.mem_of_getElem? (i := 126) (by decide +kernel), List.forall_mem_cons.mpr ⟨List.mem_of_getElem? (i := 127) (by decide +kernel), List.forall_mem_cons.mpr ⟨List.mem_of_getElem? (i := 128) (by decide +kernel), List.forall_mem_cons.mpr ⟨List.mem_of_getElem? (i := 65) (by decide +kernel), List.forall_mem_cons.mpr ⟨List.mem_of_getElem? (i := 129) (by decide +kernel), List.forall_mem_cons.mpr ⟨List.mem_of_getElem? (i := 130) (by decide +kernel), List.forall_mem_cons.mpr ⟨List.mem_of_getElem? (i := 131) (by decide +kernel), List.forall_mem_cons.mpr ⟨List.mem_of_getElem? (i := 132) (by decide +kernel), List.forall_mem_cons.mpr ⟨List.mem_of_getElem? (i := 60) (by decide +kernel), List.forall_mem_cons.mpr ⟨List.mem_of_getElem? (i := 63) (by decide +kernel), List.forall_mem_cons.mpr ⟨List.mem_of_getElem? (i := 67) (by decide +kernel), List.forall_mem_cons.mpr ⟨List.mem_of_getElem? (i := 69) (by decide +kernel), fun _ h => absurd h List.not_mem_nil⟩⟩⟩⟩⟩⟩⟩⟩⟩⟩⟩⟩⟩⟩⟩⟩⟩⟩⟩⟩⟩⟩⟩⟩
set_option maxRecDepth 20000 in
theorem wsL_law_in4 : ∀ w ∈ wsL_law_r4, w ∈ lw_tbl := List.forall_mem_cons.mpr ⟨List.mem_of_getElem? (i := 133) (by decide +kernel), List.forall_mem_cons.mpr ⟨List.mem_of_getElem? (i := 134) (by decide +kernel), List.forall_mem_cons.mpr ⟨List.mem_of_getElem? (i := 135) (by decide +kernel), List.forall_mem_cons.mpr ⟨List.mem_of_getElem? (i := 136) (by decide +kernel), List.forall_mem_cons.mpr ⟨List.mem_of_getElem? (i := 138) (by decide +kernel), List.forall_mem_cons.mpr ⟨List.mem_of_getElem? (i := 139) (by decide +kernel), List.forall_mem_cons.mpr ⟨List.mem_of_getElem? (i := 140) (by decide +kernel), List.forall_mem_cons.mpr ⟨List.mem_of_getElem? (i := 141) (by decide +kernel), List.forall_mem_cons.mpr ⟨List.mem_of_getElem? (i := 142) (by decide +kernel), List.forall_mem_cons.mpr ⟨List.mem_of_getElem? (i := 143) (by decide +kernel), List.forall_mem_cons.mpr ⟨List.mem_of_getElem? (i := 145) (by decide +kernel), List.forall_mem_cons.mpr ⟨List.mem_of_getElem? (i := 146) (by decide +kernel), List.forall_mem_cons.mpr ⟨List.mem_of_getElem? (i := 188) (by decide +kernel), List.forall_mem_cons.mpr ⟨List.mem_of_getElem? (i := 189) (by decide +kernel), List.forall_mem_cons.mpr ⟨List.mem_of_getElem? (i := 190) (by decide +kernel), List.forall_mem_cons.mpr ⟨List.mem_of_getElem? (i := 191) (by decide +kernel), List.forall_mem_cons.mpr ⟨List.mem_of_getElem? (i := 192) (by decide +kernel), List.forall_mem_cons.mpr ⟨List.mem_of_getElem? (i := 197) (by decide +kernel), List.forall_mem_cons.mpr ⟨List.mem_of_getElem? (i := 193) (by decide +kernel), List.forall_mem_cons.mpr ⟨List.mem_of_getElem? (i := 209) (by decide +kernel), List.forall_mem_cons.mpr ⟨List.mem_of_getElem? (i := 210) (by decide +kernel), List.forall_mem_cons.mpr ⟨List.mem_of_getElem? (i := 211) (by decide +kernel), List.forall_mem_cons.mpr ⟨List.mem_of_getElem? (i := 214) (by decide +kernel), List.forall_mem_cons.mpr ⟨List.mem_of_getElem? (i := 513) (by decide +kernel), fun _ h => absurd h List.not_mem_nil⟩⟩⟩⟩⟩⟩⟩⟩⟩⟩⟩⟩⟩⟩⟩⟩⟩⟩⟩⟩⟩⟩⟩⟩
set_option maxRecDepth 20000 in
theorem wsL_law_in5 : ∀ w ∈ wsL_law_r5, w ∈ lw_tbl := List.forall_mem_cons.mpr ⟨List.mem_of_getElem? (i := 514) (by decide +kernel), List.forall_mem_cons.mpr ⟨List.mem_of_getElem? (i := 515) (by decide +kernel), List.forall_mem_cons.mpr ⟨List.mem_of_getElem? (i := 516) (by decide +kernel), List.forall_mem_cons.mpr ⟨List.mem_of_getElem? (i := 521) (by decide +kernel), List.forall_mem_cons.mpr ⟨List.mem_of_getElem? (i := 522) (by decide +kernel), List.forall_mem_cons.mpr ⟨List.mem_of_getElem? (i := 523) (by decide +kernel), List.forall_mem_cons.mpr ⟨List.mem_of_getElem? (i := 525) (by decide +kernel), List.forall_mem_cons.mpr ⟨List.mem_of_getElem? (i := 526) (by decide +kernel), List.forall_mem_cons.mpr ⟨List.mem_of_getElem? (i := 527) (by decide +kernel), List.forall_mem_cons.mpr ⟨List.mem_of_getElem? (i := 517) (by decide +kernel), List.forall_mem_cons.mpr ⟨List.mem_of_getElem? (i := 519) (by decide +kernel), List.forall_mem_cons.mpr ⟨List.mem_of_getElem? (i := 1) (by decide +kernel), List.forall_mem_cons.mpr ⟨List.mem_of_getElem? (i := 520) (by decide +kernel), List.forall_mem_cons.mpr ⟨List.mem_of_getElem? (i := 239) (by decide +kernel), List.forall_mem_cons.mpr ⟨List.mem_of_getElem? (i := 240) (by decide +kernel), List.forall_mem_cons.mpr ⟨List.mem_of_getElem? (i := 241) (by decide +kernel), List.forall_mem_cons.mpr ⟨List.mem_of_getElem? (i := 242) (by decide +kernel), List.forall_mem_cons.mpr ⟨List.mem_of_getElem? (i := 244) (by decide +kernel), List.forall_mem_cons.mpr ⟨List.mem_of_getElem? (i := 148) (by decide +kernel), List.forall_mem_cons.mpr ⟨List.mem_of_getElem? (i := 243) (by decide +kernel), List.forall_mem_cons.mpr ⟨List.mem_of_getElem? (i := 246) (by decide +kernel), List.forall_mem_cons.mpr ⟨List.mem_of_getElem? (i := 247) (by decide +kernel), List.forall_mem_cons.mpr ⟨List.mem_of_getElem? (i := 248) (by decide +kernel), List.forall_mem_cons.mpr ⟨List.mem_of_getElem? (i := 249) (by decide +kernel), fun _ h => absurd h List.not_mem_nil⟩⟩⟩⟩⟩⟩⟩⟩⟩⟩⟩⟩⟩⟩⟩⟩⟩⟩⟩⟩⟩⟩⟩⟩
set_option maxRecDepth 20000 in
theorem wsL_law_in6 : ∀ w ∈ wsL_law_r6, w ∈ lw_tbl := List.forall_mem_cons.mpr ⟨List.mem_of_getElem? (i := 196) (by decide +kernel), List.forall_mem_cons.mpr ⟨List.mem_of_getElem? (i := 194) (by decide +kernel), List.forall_mem_cons.mpr ⟨List.mem_of_getElem? (i := 270) (by decide +kernel), List.forall_mem_cons.mpr ⟨List.mem_of_getElem? (i := 271) (by decide +kernel), List.forall_mem_cons.mpr ⟨List.mem_of_getElem? (i := 35) (by decide +kernel), List.forall_mem_cons.mpr ⟨List.mem_of_getElem? (i := 272) (by decide +kernel), List.forall_mem_cons.mpr ⟨List.mem_of_getElem? (i := 250) (by decide +kernel), List.forall_mem_cons.mpr ⟨List.mem_of_getElem? (i := 251) (by decide +kernel), List.forall_mem_cons.mpr ⟨List.mem_of_getElem? (i := 35) (by decide +kernel), List.forall_mem_cons.mpr ⟨List.mem_of_getElem? (i := 252) (by decide +kernel), List.forall_mem_cons.mpr ⟨List.mem_of_getElem? (i := 253) (by decide +kernel), List.forall_mem_cons.mpr ⟨List.mem_of_getElem? (i := 254) (by decide +kernel), List.forall_mem_cons.mpr ⟨List.mem_of_getElem? (i := 255) (by decide +kernel), List.forall_mem_cons.mpr ⟨List.mem_of_getElem? (i := 256) (by decide +kernel), List.forall_mem_cons.mpr ⟨List.mem_of_getElem? (i := 257) (by decide +kernel), List.forall_mem_cons.mpr ⟨List.mem_of_getElem? (i := 259) (by decide +kernel), List.forall_mem_cons.mpr ⟨List.mem_of_getElem? (i := 258) (by decide +kernel), List.forall_mem_cons.mpr ⟨List.mem_of_getElem? (i := 36) (by decide +kernel), List.forall_mem_cons.mpr ⟨List.mem_of_getElem? (i := 156) (by decide +kernel), List.forall_mem_cons.mpr ⟨List.mem_of_getElem? (i := 158) (by decide +kernel), List.forall_mem_cons.mpr ⟨List.mem_of_getElem? (i := 160) (by decide +kernel), List.forall_mem_cons.mpr ⟨List.mem_of_getElem? (i := 162) (by decide +kernel), List.forall_mem_cons.mpr ⟨List.mem_of_getElem? (i := 260) (by decide +kernel), List.forall_mem_cons.mpr ⟨List.mem_of_getElem? (i := 261) (by decide +kernel), fun _ h => absurd h List.not_mem_nil⟩⟩⟩⟩⟩⟩⟩⟩⟩⟩⟩⟩⟩⟩⟩⟩⟩⟩⟩⟩⟩⟩⟩⟩
set_option maxRecDepth 20000 in
theorem wsL_law_in7 : ∀ w ∈ wsL_law_r7, w ∈ lw_tbl := List.forall_mem_cons.mpr ⟨List.mem_of_getElem? (i := 262) (by decide +kernel), List.forall_mem_cons.mpr ⟨List.mem_of_getElem? (i := 263) (by decide +kernel), List.forall_mem_cons.mpr ⟨List.mem_of_getElem? (i := 264) (by decide +kernel), List.forall_mem_cons.mpr ⟨List.mem_of_getElem? (i := 265) (by decide +kernel), List.forall_mem_cons.mpr ⟨List.mem_of_getElem? (i := 266) (by decide +kernel), List.forall_mem_cons.mpr ⟨List.mem_of_getElem? (i := 267) (by decide +kernel), List.forall_mem_cons.mpr ⟨List.mem_of_getElem? (i := 268) (by decide +kernel), List.forall_mem_cons.mpr ⟨List.mem_of_getElem? (i := 100) (by decide +kernel), List.forall_mem_cons.mpr ⟨List.mem_of_getElem? (i := 102) (by decide +kernel), List.forall_mem_cons.mpr ⟨List.mem_of_getElem? (i := 104) (by decide +kernel), List.forall_mem_cons.mpr ⟨List.mem_of_getElem? (i := 269) (by decide +kernel), List.forall_mem_cons.mpr ⟨List.mem_of_getElem? (i := 546) (by decide +kernel), List.forall_mem_cons.mpr ⟨List.mem_of_getElem? (i := 547) (by decide +kernel), List.forall_mem_cons.mpr ⟨List.mem_of_getElem? (i := 548) (by decide +kernel), List.forall_mem_cons.mpr ⟨List.mem_of_getElem? (i := 549) (by decide +kernel), List.forall_mem_cons.mpr ⟨List.mem_of_getElem? (i := 550) (by decide +kernel), List.forall_mem_cons.mpr ⟨List.mem_of_getElem? (i := 551) (by decide +kernel), List.forall_mem_cons.mpr ⟨List.mem_of_getElem? (i := 552) (by decide +kernel), List.forall_mem_cons.mpr ⟨List.mem_of_getElem? (i := 553) (by decide +kernel), List.forall_mem_cons.mpr ⟨List.mem_of_getElem? (i := 554) (by decide +kernel), List.forall_mem_cons.mpr ⟨List.mem_of_getElem? (i := 555) (by decide +kernel), List.forall_mem_cons.mpr ⟨List.mem_of_getElem? (i := 556) (by decide +kernel), List.forall_mem_cons.mpr ⟨List.mem_of_getElem? (i := 558) (by decide +kernel), List.forall_mem_cons.mpr ⟨List.mem_of_getElem? (i := 2) (by decide +kernel), fun _ h => absurd h List.not_mem_nil⟩⟩⟩⟩⟩⟩⟩⟩⟩⟩⟩⟩⟩⟩⟩⟩⟩⟩⟩⟩⟩⟩⟩⟩
set_option maxRecDepth 20000 in
theorem wsL_law_in8 : ∀ w ∈ wsL_law_r8, w ∈ lw_tbl := List.forall_mem_cons.mpr ⟨List.mem_of_getElem? (i := 559) (by decide +kernel), List.forall_mem_cons.mpr ⟨List.mem_of_getElem? (i := 524) (by decide +kernel), List.forall_mem_cons.mpr ⟨List.mem_of_getElem? (i := 560) (by decide +kernel), List.forall_mem_cons.mpr ⟨List.mem_of_getElem? (i := 561) (by decide +kernel), List.forall_mem_cons.mpr ⟨List.mem_of_getElem? (i := 562) (by decide +kernel), List.forall_mem_cons.mpr ⟨List.mem_of_getElem? (i := 273) (by decide +kernel), List.forall_mem_cons.mpr ⟨List.mem_of_getElem? (i := 274) (by decide +kernel), List.forall_mem_cons.mpr ⟨List.mem_of_getElem? (i := 275) (by decide +kernel), List.forall_mem_cons.mpr ⟨List.mem_of_getElem? (i := 276) (by decide +kernel), List.forall_mem_cons.mpr ⟨List.mem_of_getElem? (i := 155) (by decide +kernel), List.forall_mem_cons.mpr ⟨List.mem_of_getElem? (i := 161) (by decide +kernel), List.forall_mem_cons.mpr ⟨List.mem_of_getElem? (i := 277) (by decide +kernel), List.forall_mem_cons.mpr ⟨List.mem_of_getElem? (i := 278) (by decide +kernel), List.forall_mem_cons.mpr ⟨List.mem_of_getElem? (i := 279) (by decide +kernel), List.forall_mem_cons.mpr ⟨List.mem_of_getElem? (i := 280) (by decide +kernel), List.forall_mem_cons.mpr ⟨List.mem_of_getElem? (i := 281) (by decide +kernel), List.forall_mem_cons.mpr ⟨List.mem_of_getElem? (i := 282) (by decide +kernel), List.forall_mem_cons.mpr ⟨List.mem_of_getElem? (i := 283) (by decide +kernel), List.forall_mem_cons.mpr ⟨List.mem_of_getElem? (i := 284) (by decide +kernel), List.forall_mem_cons.mpr ⟨List.mem_of_getElem? (i := 285) (by decide +kernel), List.forall_mem_cons.mpr ⟨List.mem_of_getElem? (i := 286) (by decide +kernel), List.forall_mem_cons.mpr ⟨List.mem_of_getElem? (i := 287) (by decide +kernel), List.forall_mem_cons.mpr ⟨List.mem_of_getElem? (i := 288) (by decide +kernel), List.forall_mem_cons.mpr ⟨List.mem_of_getElem? (i := 289) (by decide +kernel), fun _ h => absurd h List.not_mem_nil⟩⟩⟩⟩⟩⟩⟩⟩⟩⟩⟩⟩⟩⟩⟩⟩⟩⟩⟩⟩⟩⟩⟩⟩
set_option maxRecDepth 20000 in
theorem wsL_law_in9 : ∀ w ∈ wsL_law_r9, w ∈ lw_tbl := List.forall_mem_cons.mpr ⟨List.mem_of_getElem? (i := 301) (by decide +kernel), List.forall_mem_cons.mpr ⟨List.mem_of_getElem? (i := 299) (by decide +kernel), List.forall_mem_cons.mpr ⟨List.mem_of_getElem? (i := 300) (by decide +kernel), List.forall_mem_cons.mpr ⟨List.mem_of_getElem? (i := 290) (by decide +kernel), List.forall_mem_cons.mpr ⟨List.mem_of_getElem? (i := 291) (by decide +kernel), List.forall_mem_cons.mpr ⟨List.mem_of_getElem? (i := 292) (by decide +kernel), List.forall_mem_cons.mpr ⟨List.mem_of_getElem? (i := 293) (by decide +kernel), List.forall_mem_cons.mpr ⟨List.mem_of_getElem? (i := 294) (by decide +kernel), List.forall_mem_cons.mpr ⟨List.mem_of_getElem? (i := 295) (by decide +kernel), List.forall_mem_cons.mpr ⟨List.mem_of_getElem? (i := 296) (by decide +kernel), List.forall_mem_cons.mpr ⟨List.mem_of_getElem? (i := 297) (by decide +kernel), List.forall_mem_cons.mpr ⟨List.mem_of_getElem? (i := 298) (by decide +kernel), List.forall_mem_cons.mpr ⟨List.mem_of_getElem? (i := 302) (by decide +kernel), List.forall_mem_cons.mpr ⟨List.mem_of_getElem? (i := 303) (by decide +kernel), List.forall_mem_cons.mpr ⟨List.mem_of_getElem? (i := 304) (by decide +kernel), List.forall_mem_cons.mpr ⟨List.mem_of_getElem? (i := 305) (by decide +kernel), List.forall_mem_cons.mpr ⟨List.mem_of_getElem? (i := 306) (by decide +kernel), List.forall_mem_cons.mpr ⟨List.mem_of_getElem? (i := 307) (by decide +kernel), List.forall_mem_cons.mpr ⟨List.mem_of_getElem? (i := 308) (by decide +kernel), List.forall_mem_cons.mpr ⟨List.mem_of_getElem? (i := 563) (by decide +kernel), List.forall_mem_cons.mpr ⟨List.mem_of_getElem? (i := 564) (by decide +kernel), List.forall_mem_cons.mpr ⟨List.mem_of_getElem? (i := 565) (by decide +kernel), List.forall_mem_cons.mpr ⟨List.mem_of_getElem? (i := 566) (by decide +kernel), List.forall_mem_cons.mpr ⟨List.mem_of_getElem? (i := 567) (by decide +kernel), fun _ h => absurd h List.not_mem_nil⟩⟩⟩⟩⟩⟩⟩⟩⟩⟩⟩⟩⟩⟩⟩⟩⟩⟩⟩⟩⟩⟩⟩⟩
set_option maxRecDepth 20000 in
theorem wsL_law_in10 : ∀ w ∈ wsL_law_r10, w ∈ lw_tbl := List.forall_mem_cons.mpr ⟨List.mem_of_getElem? (i := 568) (by decide +kernel), List.forall_mem_cons.mpr ⟨List.mem_of_getElem? (i := 569) (by decide +kernel), List.forall_mem_cons.mpr ⟨List.mem_of_getElem? (i := 570) (by decide +kernel), List.forall_mem_cons.mpr ⟨List.mem_of_getElem? (i := 571) (by decide +kernel), List.forall_mem_cons.mpr ⟨List.mem_of_getElem? (i := 572) (by decide +kernel), List.forall_mem_cons.mpr ⟨List.mem_of_getElem? (i := 573) (by decide +kernel), List.forall_mem_cons.mpr ⟨List.mem_of_getElem? (i := 575) (by decide +kernel), List.forall_mem_cons.mpr ⟨List.mem_of_getElem? (i := 3) (by decide +kernel), List.forall_mem_cons.mpr ⟨List.mem_of_getElem? (i := 576) (by decide +kernel), List.forall_mem_cons.mpr ⟨List.mem_of_getElem? (i := 577) (by decide +kernel), List.forall_mem_cons.mpr ⟨List.mem_of_getElem? (i := 579) (by decide +kernel), List.forall_mem_cons.mpr ⟨List.mem_of_getElem? (i := 4) (by decide +kernel), List.forall_mem_cons.mpr ⟨List.mem_of_getElem? (i := 580) (by decide +kernel), List.forall_mem_cons.mpr ⟨List.mem_of_getElem? (i := 581) (by decide +kernel), List.forall_mem_cons.mpr ⟨List.mem_of_getElem? (i := 583) (by decide +kernel), List.forall_mem_cons.mpr ⟨List.mem_of_getElem? (i := 5) (by decide +kernel), List.forall_mem_cons.mpr ⟨List.mem_of_getElem? (i := 584) (by decide +kernel), List.forall_mem_cons.mpr ⟨List.mem_of_getElem? (i := 585) (by decide +kernel), List.forall_mem_cons.mpr ⟨List.mem_of_getElem? (i := 587) (by decide +kernel), List.forall_mem_cons.mpr ⟨List.mem_of_getElem? (i := 6) (by decide +kernel), List.forall_mem_cons.mpr ⟨List.mem_of_getElem? (i := 588) (by decide +kernel), List.forall_mem_cons.mpr ⟨List.mem_of_getElem? (i := 589) (by decide +kernel), List.forall_mem_cons.mpr ⟨List.mem_of_getElem? (i := 591) (by decide +kernel), List.forall_mem_cons.mpr ⟨List.mem_of_getElem? (i := 7) (by decide +kernel), fun _ h => absurd h List.not_mem_nil⟩⟩⟩⟩⟩⟩⟩⟩⟩⟩⟩⟩⟩⟩⟩⟩⟩⟩⟩⟩⟩⟩⟩⟩
set_option maxRecDepth 20000 in
theorem wsL_law_in11 : ∀ w ∈ wsL_law_r11, w ∈ lw_tbl := List.forall_mem_cons.mpr ⟨List.mem_of_getElem? (i := 592) (by decide +kernel), List.forall_mem_cons.mpr ⟨List.mem_of_getElem? (i := 309) (by decide +kernel), List.forall_mem_cons.mpr ⟨List.mem_of_getElem? (i := 310) (by decide +kernel), List.forall_mem_cons.mpr ⟨List.mem_of_getElem? (i := 311) (by decide +kernel), List.forall_mem_cons.mpr ⟨List.mem_of_getElem? (i := 312) (by decide +kernel), List.forall_mem_cons.mpr ⟨List.mem_of_getElem? (i := 59) (by decide +kernel), List.forall_mem_cons.mpr ⟨List.mem_of_getElem? (i := 70) (by decide +kernel), List.forall_mem_cons.mpr ⟨List.mem_of_getElem? (i := 313) (by decide +kernel), List.forall_mem_cons.mpr ⟨List.mem_of_getElem? (i := 314) (by decide +kernel), List.forall_mem_cons.mpr ⟨List.mem_of_getElem? (i := 315) (by decide +kernel), List.forall_mem_cons.mpr ⟨List.mem_of_getElem? (i := 316) (by decide +kernel), List.forall_mem_cons.mpr ⟨List.mem_of_getElem? (i := 317) (by decide +kernel), List.forall_mem_cons.mpr ⟨List.mem_of_getElem? (i := 593) (by decide +kernel), List.forall_mem_cons.mpr ⟨List.mem_of_getElem? (i := 594) (by decide +kernel), List.forall_mem_cons.mpr ⟨List.mem_of_getElem? (i := 595) (by decide +kernel), List.forall_mem_cons.mpr ⟨List.mem_of_getElem? (i := 596) (by decide +kernel), List.forall_mem_cons.mpr ⟨List.mem_of_getElem? (i := 597) (by decide +kernel), List.forall_mem_cons.mpr ⟨List.mem_of_getElem? (i := 599) (by decide +kernel), List.forall_mem_cons.mpr ⟨List.mem_of_getElem? (i := 8) (by decide +kernel), List.forall_mem_cons.mpr ⟨List.mem_of_getElem? (i := 600) (by decide +kernel), List.forall_mem_cons.mpr ⟨List.mem_of_getElem? (i := 601) (by decide +kernel), List.forall_mem_cons.mpr ⟨List.mem_of_getElem? (i := 603) (by decide +kernel), List.forall_mem_cons.mpr ⟨List.mem_of_getElem? (i := 9) (by decide +kernel), List.forall_mem_cons.mpr ⟨List.mem_of_getElem? (i := 604) (by decide +kernel), fun _ h => absurd h List.not_mem_nil⟩⟩⟩⟩⟩⟩⟩⟩⟩⟩⟩⟩⟩⟩⟩⟩⟩⟩⟩⟩⟩⟩⟩⟩
set_option maxRecDepth 20000 in
theorem wsL_law_in12 : ∀ w ∈ wsL_law_r12, w ∈ lw_tbl := List.forall_mem_cons.mpr ⟨List.mem_of_getElem? (i := 605) (by decide +kernel), List.forall_mem_cons.mpr ⟨List.mem_of_getElem? (i := 607) (by decide +kernel), List.forall_mem_cons.mpr ⟨List.mem_of_getElem? (i := 10) (by decide +kernel), List.forall_mem_cons.mpr ⟨List.mem_of_getElem? (i := 608) (by decide +kernel), List.forall_mem_cons.mpr ⟨List.mem_of_getElem? (i := 318) (by decide +kernel), List.forall_mem_cons.mpr ⟨List.mem_of_getElem? (i := 319) (by decide +kernel), List.forall_mem_cons.mpr ⟨List.mem_of_getElem? (i := 320) (by decide +kernel), List.forall_mem_cons.mpr ⟨List.mem_of_getElem? (i := 321) (by decide +kernel), List.forall_mem_cons.mpr ⟨List.mem_of_getElem? (i := 322) (by decide +kernel), List.forall_mem_cons.mpr ⟨List.mem_of_getElem? (i := 323) (by decide +kernel), List.forall_mem_cons.mpr ⟨List.mem_of_getElem? (i := 324) (by decide +kernel), List.forall_mem_cons.mpr ⟨List.mem_of_getElem? (i := 325) (by decide +kernel), List.forall_mem_cons.mpr ⟨List.mem_of_getElem? (i := 212) (by decide +kernel), List.forall_mem_cons.mpr ⟨List.mem_of_getElem? (i := 326) (by decide +kernel), List.forall_mem_cons.mpr ⟨List.mem_of_getElem? (i := 328) (by decide +kernel), List.forall_mem_cons.mpr ⟨List.mem_of_getElem? (i := 0) (by decide +kernel), List.forall_mem_cons.mpr ⟨List.mem_of_getElem? (i := 329) (by decide +kernel), List.forall_mem_cons.mpr ⟨List.mem_of_getElem? (i := 331) (by decide +kernel), List.forall_mem_cons.mpr ⟨List.mem_of_getElem? (i := 332) (by decide +kernel), List.forall_mem_cons.mpr ⟨List.mem_of_getElem? (i := 333) (by decide +kernel), List.forall_mem_cons.mpr ⟨List.mem_of_getElem? (i := 334) (by decide +kernel), List.forall_mem_cons.mpr ⟨List.mem_of_getElem? (i := 335) (by decide +kernel), List.forall_mem_cons.mpr ⟨List.mem_of_getElem? (i := 336) (by decide +kernel), List.forall_mem_cons.mpr ⟨List.mem_of_getElem? (i := 337) (by decide +kernel), fun _ h => absurd h List.not_mem_nil⟩⟩⟩⟩⟩⟩⟩⟩⟩⟩⟩⟩⟩⟩⟩⟩⟩⟩⟩⟩⟩⟩⟩⟩
set_option maxRecDepth 20000 in
theorem wsL_law_in13 : ∀ w ∈ wsL_law_r13, w ∈ lw_tbl := List.forall_mem_cons.mpr ⟨List.mem_of_getElem? (i := 338) (by decide +kernel), List.forall_mem_cons.mpr ⟨List.mem_of_getElem? (i := 339) (by decide +kernel), List.forall_mem_cons.mpr ⟨List.mem_of_getElem? (i := 340) (by decide +kernel), List.forall_mem_cons.mpr ⟨List.mem_of_getElem? (i := 341) (by decide +kernel), List.forall_mem_cons.mpr ⟨List.mem_of_getElem? (i := 342) (by decide +kernel), List.forall_mem_cons.mpr ⟨List.mem_of_getElem? (i := 609) (by decide +kernel), List.forall_mem_cons.mpr ⟨List.mem_of_getElem? (i := 610) (by decide +kernel), List.forall_mem_cons.mpr ⟨List.mem_of_getElem? (i := 611) (by decide +kernel), List.forall_mem_cons.mpr ⟨List.mem_of_getElem? (i := 612) (by decide +kernel), List.forall_mem_cons.mpr ⟨List.mem_of_getElem? (i := 528) (by decide +kernel), List.forall_mem_cons.mpr ⟨List.mem_of_getElem? (i := 613) (by decide +kernel), List.forall_mem_cons.mpr ⟨List.mem_of_getElem? (i := 615) (by decide +kernel), List.forall_mem_cons.mpr ⟨List.mem_of_getElem? (i := 11) (by decide +kernel), List.forall_mem_cons.mpr ⟨List.mem_of_getElem? (i := 616) (by decide +kernel), List.forall_mem_cons.mpr ⟨List.mem_of_getElem? (i := 617) (by decide +kernel), List.forall_mem_cons.mpr ⟨List.mem_of_getElem? (i := 618) (by decide +kernel), List.forall_mem_cons.mpr ⟨List.mem_of_getElem? (i := 619) (by decide +kernel), List.forall_mem_cons.mpr ⟨List.mem_of_getElem? (i := 620) (by decide +kernel), List.forall_mem_cons.mpr ⟨List.mem_of_getElem? (i := 622) (by decide +kernel), List.forall_mem_cons.mpr ⟨List.mem_of_getElem? (i := 12) (by decide +kernel), List.forall_mem_cons.mpr ⟨List.mem_of_getElem? (i := 623) (by decide +kernel), List.forall_mem_cons.mpr ⟨List.mem_of_getElem? (i := 343) (by decide +kernel), List.forall_mem_cons.mpr ⟨List.mem_of_getElem? (i := 344) (by decide +kernel), List.forall_mem_cons.mpr ⟨List.mem_of_getElem? (i := 345) (by decide +kernel), fun _ h => absurd h List.not_mem_nil⟩⟩⟩⟩⟩⟩⟩⟩⟩⟩⟩⟩⟩⟩⟩⟩⟩⟩⟩⟩⟩⟩⟩⟩
set_option maxRecDepth 20000 in
theorem wsL_law_in14 : ∀ w ∈ wsL_law_r14, w ∈ lw_tbl := List.forall_mem_cons.mpr ⟨List.mem_of_getElem? (i := 346) (by decide +kernel), List.forall_mem_cons.mpr ⟨List.mem_of_getElem? (i := 68) (by decide +kernel), List.forall_mem_cons.mpr ⟨List.mem_of_getElem? (i := 347) (by decide +kernel), List.forall_mem_cons.mpr ⟨List.mem_of_getElem? (i := 348) (by decide +kernel), List.forall_mem_cons.mpr ⟨List.mem_of_getElem? (i := 349) (by decide +kernel), List.forall_mem_cons.mpr ⟨List.mem_of_getElem? (i := 350) (by decide +kernel), List.forall_mem_cons.mpr ⟨List.mem_of_getElem? (i := 624) (by decide +kernel), List.forall_mem_cons.mpr ⟨List.mem_of_getElem? (i := 625) (by decide +kernel), List.forall_mem_cons.mpr ⟨List.mem_of_getElem? (i := 626) (by decide +kernel), List.forall_mem_cons.mpr ⟨List.mem_of_getElem? (i := 627) (by decide +kernel), List.forall_mem_cons.mpr ⟨List.mem_of_getElem? (i := 628) (by decide +kernel), List.forall_mem_cons.mpr ⟨List.mem_of_getElem? (i := 630) (by decide +kernel), List.forall_mem_cons.mpr ⟨List.mem_of_getElem? (i := 13) (by decide +kernel), List.forall_mem_cons.mpr ⟨List.mem_of_getElem? (i := 631) (by decide +kernel), List.forall_mem_cons.mpr ⟨List.mem_of_getElem? (i := 632) (by decide +kernel), List.forall_mem_cons.mpr ⟨List.mem_of_getElem? (i := 634) (by decide +kernel), List.forall_mem_cons.mpr ⟨List.mem_of_getElem? (i := 14) (by decide +kernel), List.forall_mem_cons.mpr ⟨List.mem_of_getElem? (i := 635) (by decide +kernel), List.forall_mem_cons.mpr ⟨List.mem_of_getElem? (i := 636) (by decide +kernel), List.forall_mem_cons.mpr ⟨List.mem_of_getElem? (i := 638) (by decide +kernel), List.forall_mem_cons.mpr ⟨List.mem_of_getElem? (i := 15) (by decide +kernel), List.forall_mem_cons.mpr ⟨List.mem_of_getElem? (i := 639) (by decide +kernel), List.forall_mem_cons.mpr ⟨List.mem_of_getElem? (i := 351) (by decide +kernel), List.forall_mem_cons.mpr ⟨List.mem_of_getElem? (i := 352) (by decide +kernel), fun _ h => absurd h List.not_mem_nil⟩⟩⟩⟩⟩⟩⟩⟩⟩⟩⟩⟩⟩⟩⟩⟩⟩⟩⟩⟩⟩⟩⟩⟩
set_option maxRecDepth 20000 in
theorem wsL_law_in15 : ∀ w ∈ wsL_law_r15, w ∈ lw_tbl := List.forall_mem_cons.mpr ⟨List.mem_of_getElem? (i := 353) (by decide +kernel), List.forall_mem_cons.mpr ⟨List.mem_of_getElem? (i := 354) (by decide +kernel), List.forall_mem_cons.mpr ⟨List.mem_of_getElem? (i := 72) (by decide +kernel), List.forall_mem_cons.mpr ⟨List.mem_of_getElem? (i := 640) (by decide +kernel), List.forall_mem_cons.mpr ⟨List.mem_of_getElem? (i := 641) (by decide +kernel), List.forall_mem_cons.mpr ⟨List.mem_of_getElem? (i := 642) (by decide +kernel), List.forall_mem_cons.mpr ⟨List.mem_of_getElem? (i := 643) (by decide +kernel), List.forall_mem_cons.mpr ⟨List.mem_of_getElem? (i := 355) (by decide +kernel), List.forall_mem_cons.mpr ⟨List.mem_of_getElem? (i := 356) (by decide +kernel), List.forall_mem_cons.mpr ⟨List.mem_of_getElem? (i := 357) (by decide +kernel), List.forall_mem_cons.mpr ⟨List.mem_of_getElem? (i := 358) (by decide +kernel), List.forall_mem_cons.mpr ⟨List.mem_of_getElem? (i := 359) (by decide +kernel), List.forall_mem_cons.mpr ⟨List.mem_of_getElem? (i := 644) (by decide +kernel), List.forall_mem_cons.mpr ⟨List.mem_of_getElem? (i := 645) (by decide +kernel), List.forall_mem_cons.mpr ⟨List.mem_of_getElem? (i := 646) (by decide +kernel), List.forall_mem_cons.mpr ⟨List.mem_of_getElem? (i := 647) (by decide +kernel), List.forall_mem_cons.mpr ⟨List.mem_of_getElem? (i := 360) (by decide +kernel), List.forall_mem_cons.mpr ⟨List.mem_of_getElem? (i := 361) (by decide +kernel), List.forall_mem_cons.mpr ⟨List.mem_of_getElem? (i := 362) (by decide +kernel), List.forall_mem_cons.mpr ⟨List.mem_of_getElem? (i := 363) (by decide +kernel), List.forall_mem_cons.mpr ⟨List.mem_of_getElem? (i := 364) (by decide +kernel), List.forall_mem_cons.mpr ⟨List.mem_of_getElem? (i := 365) (by decide +kernel), List.forall_mem_cons.mpr ⟨List.mem_of_getElem? (i := 366) (by decide +kernel), List.forall_mem_cons.mpr ⟨List.mem_of_getElem? (i := 367) (by decide +kernel), fun _ h => absurd h List.not_mem_nil⟩⟩⟩⟩⟩⟩⟩⟩⟩⟩⟩⟩⟩⟩⟩⟩⟩⟩⟩⟩⟩⟩⟩⟩
set_option maxRecDepth 20000 in
theorem wsL_law_in16 : ∀ w ∈ wsL_law_r16, w ∈ lw_tbl := List.forall_mem_cons.mpr ⟨List.mem_of_getElem? (i := 368) (by decide +kernel), List.forall_mem_cons.mpr ⟨List.mem_of_getElem? (i := 369) (by decide +kernel), List.forall_mem_cons.mpr ⟨List.mem_of_getElem? (i := 370) (by decide +kernel), List.forall_mem_cons.mpr ⟨List.mem_of_getElem? (i := 371) (by decide +kernel), List.forall_mem_cons.mpr ⟨List.mem_of_getElem? (i := 372) (by decide +kernel), List.forall_mem_cons.mpr ⟨List.mem_of_getElem? (i := 373) (by decide +kernel), List.forall_mem_cons.mpr ⟨List.mem_of_getElem? (i := 374) (by decide +kernel), List.forall_mem_cons.mpr ⟨List.mem_of_getElem? (i := 375) (by decide +kernel), List.forall_mem_cons.mpr ⟨List.mem_of_getElem? (i := 376) (by decide +kernel), List.forall_mem_cons.mpr ⟨List.mem_of_getElem? (i := 377) (by decide +kernel), List.forall_mem_cons.mpr ⟨List.mem_of_getElem? (i := 378) (by decide +kernel), List.forall_mem_cons.mpr ⟨List.mem_of_getElem? (i := 379) (by decide +kernel), List.forall_mem_cons.mpr ⟨List.mem_of_getElem? (i := 58) (by decide +kernel), List.forall_mem_cons.mpr ⟨List.mem_of_getElem? (i := 380) (by decide +kernel), List.forall_mem_cons.mpr ⟨List.mem_of_getElem? (i := 381) (by decide +kernel), List.forall_mem_cons.mpr ⟨List.mem_of_getElem? (i := 382) (by decide +kernel), List.forall_mem_cons.mpr ⟨List.mem_of_getElem? (i := 383) (by decide +kernel), List.forall_mem_cons.mpr ⟨List.mem_of_getElem? (i := 384) (by decide +kernel), List.forall_mem_cons.mpr ⟨List.mem_of_getElem? (i := 385) (by decide +kernel), List.forall_mem_cons.mpr ⟨List.mem_of_getElem? (i := 386) (by decide +kernel), List.forall_mem_cons.mpr ⟨List.mem_of_getElem? (i := 387) (by decide +kernel), List.forall_mem_cons.mpr ⟨List.mem_of_getElem? (i := 61) (by decide +kernel), List.forall_mem_cons.mpr ⟨List.mem_of_getElem? (i := 388) (by decide +kernel), List.forall_mem_cons.mpr ⟨List.mem_of_getElem? (i := 389) (by decide +kernel), fun _ h => absurd h List.not_mem_nil⟩⟩⟩⟩⟩⟩⟩⟩⟩⟩⟩⟩⟩⟩⟩⟩⟩⟩⟩⟩⟩⟩⟩⟩
set_option maxRecDepth 20000 in
theorem wsL_law_in17 : ∀ w ∈ wsL_law_r17, w ∈ lw_tbl := List.forall_mem_cons.mpr ⟨List.mem_of_getElem? (i := 390) (by decide +kernel), List.forall_mem_cons.mpr ⟨List.mem_of_getElem? (i := 391) (by decide +kernel), List.forall_mem_cons.mpr ⟨List.mem_of_getElem? (i := 392) (by decide +kernel), List.forall_mem_cons.mpr ⟨List.mem_of_getElem? (i := 393) (by decide +kernel), List.forall_mem_cons.mpr ⟨List.mem_of_getElem? (i := 394) (by decide +kernel), List.forall_mem_cons.mpr ⟨List.mem_of_getElem? (i := 395) (by decide +kernel), List.forall_mem_cons.mpr ⟨List.mem_of_getElem? (i := 396) (by decide +kernel), List.forall_mem_cons.mpr ⟨List.mem_of_getElem? (i := 397) (by decide +kernel), List.forall_mem_cons.mpr ⟨List.mem_of_getElem? (i := 398) (by decide +kernel), List.forall_mem_cons.mpr ⟨List.mem_of_getElem? (i := 399) (by decide +kernel), List.forall_mem_cons.mpr ⟨List.mem_of_getElem? (i := 400) (by decide +kernel), List.forall_mem_cons.mpr ⟨List.mem_of_getElem? (i := 401) (by decide +kernel), List.forall_mem_cons.mpr ⟨List.mem_of_getElem? (i := 402) (by decide +kernel), List.forall_mem_cons.mpr ⟨List.mem_of_getElem? (i := 648) (by decide +kernel), List.forall_mem_cons.mpr ⟨List.mem_of_getElem? (i := 649) (by decide +kernel), List.forall_mem_cons.mpr ⟨List.mem_of_getElem? (i := 650) (by decide +kernel), List.forall_mem_cons.mpr ⟨List.mem_of_getElem? (i := 651) (by decide +kernel), List.forall_mem_cons.mpr ⟨List.mem_of_getElem? (i := 652) (by decide +kernel), List.forall_mem_cons.mpr ⟨List.mem_of_getElem? (i := 654) (by decide +kernel), List.forall_mem_cons.mpr ⟨List.mem_of_getElem? (i := 16) (by decide +kernel), List.forall_mem_cons.mpr ⟨List.mem_of_getElem? (i := 655) (by decide +kernel), List.forall_mem_cons.mpr ⟨List.mem_of_getElem? (i := 656) (by decide +kernel), List.forall_mem_cons.mpr ⟨List.mem_of_getElem? (i := 658) (by decide +kernel), List.forall_mem_cons.mpr ⟨List.mem_of_getElem? (i := 17) (by decide +kernel), fun _ h => absurd h List.not_mem_nil⟩⟩⟩⟩⟩⟩⟩⟩⟩⟩⟩⟩⟩⟩⟩⟩⟩⟩⟩⟩⟩⟩⟩⟩
set_option maxRecDepth 20000 in
theorem wsL_law_in18 : ∀ w ∈ wsL_law_r18, w ∈ lw_tbl := List.forall_mem_cons.mpr ⟨List.mem_of_getElem? (i := 659) (by decide +kernel), List.forall_mem_cons.mpr ⟨List.mem_of_getElem? (i := 660) (by decide +kernel), List.forall_mem_cons.mpr ⟨List.mem_of_getElem? (i := 662) (by decide +kernel), List.forall_mem_cons.mpr ⟨List.mem_of_getElem? (i := 18) (by decide +kernel), List.forall_mem_cons.mpr ⟨List.mem_of_getElem? (i := 663) (by decide +kernel), List.forall_mem_cons.mpr ⟨List.mem_of_getElem? (i := 664) (by decide +kernel), List.forall_mem_cons.mpr ⟨List.mem_of_getElem? (i := 666) (by decide +kernel), List.forall_mem_cons.mpr ⟨List.mem_of_getElem? (i := 19) (by decide +kernel), List.forall_mem_cons.mpr ⟨List.mem_of_getElem? (i := 667) (by decide +kernel), List.forall_mem_cons.mpr ⟨List.mem_of_getElem? (i := 668) (by decide +kernel), List.forall_mem_cons.mpr ⟨List.mem_of_getElem? (i := 670) (by decide +kernel), List.forall_mem_cons.mpr ⟨List.mem_of_getElem? (i := 20) (by decide +kernel), List.forall_mem_cons.mpr ⟨List.mem_of_getElem? (i := 671) (by decide +kernel), List.forall_mem_cons.mpr ⟨List.mem_of_getElem? (i := 403) (by decide +kernel), List.forall_mem_cons.mpr ⟨List.mem_of_getElem? (i := 404) (by decide +kernel), List.forall_mem_cons.mpr ⟨List.mem_of_getElem? (i := 405) (by decide +kernel), List.forall_mem_cons.mpr ⟨List.mem_of_getElem? (i := 406) (by decide +kernel), List.forall_mem_cons.mpr ⟨List.mem_of_getElem? (i := 407) (by decide +kernel), List.forall_mem_cons.mpr ⟨List.mem_of_getElem? (i := 408) (by decide +kernel), List.forall_mem_cons.mpr ⟨List.mem_of_getElem? (i := 409) (by decide +kernel), List.forall_mem_cons.mpr ⟨List.mem_of_getElem? (i := 410) (by decide +kernel), List.forall_mem_cons.mpr ⟨List.mem_of_getElem? (i := 411) (by decide +kernel), List.forall_mem_cons.mpr ⟨List.mem_of_getElem? (i := 412) (by decide +kernel), List.forall_mem_cons.mpr ⟨List.mem_of_getElem? (i := 413) (by decide +kernel), fun _ h => absurd h List.not_mem_nil⟩⟩⟩⟩⟩⟩⟩⟩⟩⟩⟩⟩⟩⟩⟩⟩⟩⟩⟩⟩⟩⟩⟩⟩
set_option maxRecDepth 20000 in
theorem wsL_law_in19 : ∀ w ∈ wsL_law_r19, w ∈ lw_tbl := List.forall_mem_cons.mpr ⟨List.mem_of_getElem? (i := 414) (by decide +kernel), List.forall_mem_cons.mpr ⟨List.mem_of_getElem? (i := 73) (by decide +kernel), List.forall_mem_cons.mpr ⟨List.mem_of_getElem? (i := 415) (by decide +kernel), List.forall_mem_cons.mpr ⟨List.mem_of_getElem? (i := 672) (by decide +kernel), List.forall_mem_cons.mpr ⟨List.mem_of_getElem? (i := 673) (by decide +kernel), List.forall_mem_cons.mpr ⟨List.mem_of_getElem? (i := 674) (by decide +kernel), List.forall_mem_cons.mpr ⟨List.mem_of_getElem? (i := 675) (by decide +kernel), List.forall_mem_cons.mpr ⟨List.mem_of_getElem? (i := 676) (by decide +kernel), List.forall_mem_cons.mpr ⟨List.mem_of_getElem? (i := 678) (by decide +kernel), List.forall_mem_cons.mpr ⟨List.mem_of_getElem? (i := 21) (by decide +kernel), List.forall_mem_cons.mpr ⟨List.mem_of_getElem? (i := 679) (by decide +kernel), List.forall_mem_cons.mpr ⟨List.mem_of_getElem? (i := 680) (by decide +kernel), List.forall_mem_cons.mpr ⟨List.mem_of_getElem? (i := 682) (by decide +kernel), List.forall_mem_cons.mpr ⟨List.mem_of_getElem? (i := 22) (by decide +kernel), List.forall_mem_cons.mpr ⟨List.mem_of_getElem? (i := 683) (by decide +kernel), List.forall_mem_cons.mpr ⟨List.mem_of_getElem? (i := 684) (by decide +kernel), List.forall_mem_cons.mpr ⟨List.mem_of_getElem? (i := 686) (by decide +kernel), List.forall_mem_cons.mpr ⟨List.mem_of_getElem? (i := 23) (by decide +kernel), List.forall_mem_cons.mpr ⟨List.mem_of_getElem? (i := 687) (by decide +kernel), List.forall_mem_cons.mpr ⟨List.mem_of_getElem? (i := 688) (by decide +kernel), List.forall_mem_cons.mpr ⟨List.mem_of_getElem? (i := 690) (by decide +kernel), List.forall_mem_cons.mpr ⟨List.mem_of_getElem? (i := 24) (by decide +kernel), List.forall_mem_cons.mpr ⟨List.mem_of_getElem? (i := 691) (by decide +kernel), List.forall_mem_cons.mpr ⟨List.mem_of_getElem? (i := 416) (by decide +kernel), fun _ h => absurd h List.not_mem_nil⟩⟩⟩⟩⟩⟩⟩⟩⟩⟩⟩⟩⟩⟩⟩⟩⟩⟩⟩⟩⟩⟩⟩⟩
set_option maxRecDepth 20000 in
theorem wsL_law_in20 : ∀ w ∈ wsL_law_r20, w ∈ lw_tbl := List.forall_mem_cons.mpr ⟨List.mem_of_getElem? (i := 417) (by decide +kernel), List.forall_mem_cons.mpr ⟨List.mem_of_getElem? (i := 418) (by decide +kernel), List.forall_mem_cons.mpr ⟨List.mem_of_getElem? (i := 419) (by decide +kernel), List.forall_mem_cons.mpr ⟨List.mem_of_getElem? (i := 62) (by decide +kernel), List.forall_mem_cons.mpr ⟨List.mem_of_getElem? (i := 64) (by decide +kernel), List.forall_mem_cons.mpr ⟨List.mem_of_getElem? (i := 66) (by decide +kernel), List.forall_mem_cons.mpr ⟨List.mem_of_getElem? (i := 420) (by decide +kernel), List.forall_mem_cons.mpr ⟨List.mem_of_getElem? (i := 421) (by decide +kernel), List.forall_mem_cons.mpr ⟨List.mem_of_getElem? (i := 422) (by decide +kernel), List.forall_mem_cons.mpr ⟨List.mem_of_getElem? (i := 423) (by decide +kernel), List.forall_mem_cons.mpr ⟨List.mem_of_getElem? (i := 424) (by decide +kernel), List.forall_mem_cons.mpr ⟨List.mem_of_getElem? (i := 692) (by decide +kernel), List.forall_mem_cons.mpr ⟨List.mem_of_getElem? (i := 693) (by decide +kernel), List.forall_mem_cons.mpr ⟨List.mem_of_getElem? (i := 694) (by decide +kernel), List.forall_mem_cons.mpr ⟨List.mem_of_getElem? (i := 695) (by decide +kernel), List.forall_mem_cons.mpr ⟨List.mem_of_getElem? (i := 696) (by decide +kernel), List.forall_mem_cons.mpr ⟨List.mem_of_getElem? (i := 698) (by decide +kernel), List.forall_mem_cons.mpr ⟨List.mem_of_getElem? (i := 25) (by decide +kernel), List.forall_mem_cons.mpr ⟨List.mem_of_getElem? (i := 699) (by decide +kernel), List.forall_mem_cons.mpr ⟨List.mem_of_getElem? (i := 425) (by decide +kernel), List.forall_mem_cons.mpr ⟨List.mem_of_getElem? (i := 426) (by decide +kernel), List.forall_mem_cons.mpr ⟨List.mem_of_getElem? (i := 427) (by decide +kernel), List.forall_mem_cons.mpr ⟨List.mem_of_getElem? (i := 428) (by decide +kernel), List.forall_mem_cons.mpr ⟨List.mem_of_getElem? (i := 700) (by decide +kernel), fun _ h => absurd h List.not_mem_nil⟩⟩⟩⟩⟩⟩⟩⟩⟩⟩⟩⟩⟩⟩⟩⟩⟩⟩⟩⟩⟩⟩⟩⟩
set_option maxRecDepth 20000 in
theorem wsL_law_in21 : ∀ w ∈ wsL_law_r21, w ∈ lw_tbl := List.forall_mem_cons.mpr ⟨List.mem_of_getElem? (i := 701) (by decide +kernel), List.forall_mem_cons.mpr ⟨List.mem_of_getElem? (i := 702) (by decide +kernel), List.forall_mem_cons.mpr ⟨List.mem_of_getElem? (i := 703) (by decide +kernel), List.forall_mem_cons.mpr ⟨List.mem_of_getElem? (i := 429) (by decide +kernel), List.forall_mem_cons.mpr ⟨List.mem_of_getElem? (i := 430) (by decide +kernel), List.forall_mem_cons.mpr ⟨List.mem_of_getElem? (i := 431) (by decide +kernel), List.forall_mem_cons.mpr ⟨List.mem_of_getElem? (i := 432) (by decide +kernel), List.forall_mem_cons.mpr ⟨List.mem_of_getElem? (i := 75) (by decide +kernel), List.forall_mem_cons.mpr ⟨List.mem_of_getElem? (i := 704) (by decide +kernel), List.forall_mem_cons.mpr ⟨List.mem_of_getElem? (i := 705) (by decide +kernel), List.forall_mem_cons.mpr ⟨List.mem_of_getElem? (i := 706) (by decide +kernel), List.forall_mem_cons.mpr ⟨List.mem_of_getElem? (i := 707) (by decide +kernel), List.forall_mem_cons.mpr ⟨List.mem_of_getElem? (i := 433) (by decide +kernel), List.forall_mem_cons.mpr ⟨List.mem_of_getElem? (i := 434) (by decide +kernel), List.forall_mem_cons.mpr ⟨List.mem_of_getElem? (i := 435) (by decide +kernel), List.forall_mem_cons.mpr ⟨List.mem_of_getElem? (i := 436) (by decide +kernel), List.forall_mem_cons.mpr ⟨List.mem_of_getElem? (i := 153) (by decide +kernel), List.forall_mem_cons.mpr ⟨List.mem_of_getElem? (i := 105) (by decide +kernel), List.forall_mem_cons.mpr ⟨List.mem_of_getElem? (i := 107) (by decide +kernel), List.forall_mem_cons.mpr ⟨List.mem_of_getElem? (i := 109) (by decide +kernel), List.forall_mem_cons.mpr ⟨List.mem_of_getElem? (i := 111) (by decide +kernel), List.forall_mem_cons.mpr ⟨List.mem_of_getElem? (i := 437) (by decide +kernel), List.forall_mem_cons.mpr ⟨List.mem_of_getElem? (i := 708) (by decide +kernel), List.forall_mem_cons.mpr ⟨List.mem_of_getElem? (i := 709) (by decide +kernel), fun _ h => absurd h List.not_mem_nil⟩⟩⟩⟩⟩⟩⟩⟩⟩⟩⟩⟩⟩⟩⟩⟩⟩⟩⟩⟩⟩⟩⟩⟩
set_option maxRecDepth 20000 in
theorem wsL_law_in22 : ∀ w ∈ wsL_law_r22, w ∈ lw_tbl := List.forall_mem_cons.mpr ⟨List.mem_of_getElem? (i := 710) (by decide +kernel), List.forall_mem_cons.mpr ⟨List.mem_of_getElem? (i := 711) (by decide +kernel), List.forall_mem_cons.mpr ⟨List.mem_of_getElem? (i := 438) (by decide +kernel), List.forall_mem_cons.mpr ⟨List.mem_of_getElem? (i := 439) (by decide +kernel), List.forall_mem_cons.mpr ⟨List.mem_of_getElem? (i := 440) (by decide +kernel), List.forall_mem_cons.mpr ⟨List.mem_of_getElem? (i := 441) (by decide +kernel), List.forall_mem_cons.mpr ⟨List.mem_of_getElem? (i := 157) (by decide +kernel), List.forall_mem_cons.mpr ⟨List.mem_of_getElem? (i := 159) (by decide +kernel), List.forall_mem_cons.mpr ⟨List.mem_of_getElem? (i := 101) (by decide +kernel), List.forall_mem_cons.mpr ⟨List.mem_of_getElem? (i := 103) (by decide +kernel), List.forall_mem_cons.mpr ⟨List.mem_of_getElem? (i := 163) (by decide +kernel), List.forall_mem_cons.mpr ⟨List.mem_of_getElem? (i := 213) (by decide +kernel), List.forall_mem_cons.mpr ⟨List.mem_of_getElem? (i := 195) (by decide +kernel), List.forall_mem_cons.mpr ⟨List.mem_of_getElem? (i := 712) (by decide +kernel), List.forall_mem_cons.mpr ⟨List.mem_of_getElem? (i := 713) (by decide +kernel), List.forall_mem_cons.mpr ⟨List.mem_of_getElem? (i := 714) (by decide +kernel), List.forall_mem_cons.mpr ⟨List.mem_of_getElem? (i := 715) (by decide +kernel), List.forall_mem_cons.mpr ⟨List.mem_of_getElem? (i := 442) (by decide +kernel), List.forall_mem_cons.mpr ⟨List.mem_of_getElem? (i := 443) (by decide +kernel), List.forall_mem_cons.mpr ⟨List.mem_of_getElem? (i := 444) (by decide +kernel), List.forall_mem_cons.mpr ⟨List.mem_of_getElem? (i := 445) (by decide +kernel), List.forall_mem_cons.mpr ⟨List.mem_of_getElem? (i := 446) (by decide +kernel), List.forall_mem_cons.mpr ⟨List.mem_of_getElem? (i := 447) (by decide +kernel), List.forall_mem_cons.mpr ⟨List.mem_of_getElem? (i := 448) (by decide +kernel), fun _ h => absurd h List.not_mem_nil⟩⟩⟩⟩⟩⟩⟩⟩⟩⟩⟩⟩⟩⟩⟩⟩⟩⟩⟩⟩⟩⟩⟩⟩
set_option maxRecDepth 20000 in
theorem wsL_law_in23 : ∀ w ∈ wsL_law_r23, w ∈ lw_tbl := List.forall_mem_cons.mpr ⟨List.mem_of_getElem? (i := 449) (by decide +kernel), List.forall_mem_cons.mpr ⟨List.mem_of_getElem? (i := 450) (by decide +kernel), List.forall_mem_cons.mpr ⟨List.mem_of_getElem? (i := 451) (by decide +kernel), List.forall_mem_cons.mpr ⟨List.mem_of_getElem? (i := 716) (by decide +kernel), List.forall_mem_cons.mpr ⟨List.mem_of_getElem? (i := 717) (by decide +kernel), List.forall_mem_cons.mpr ⟨List.mem_of_getElem? (i := 718) (by decide +kernel), List.forall_mem_cons.mpr ⟨List.mem_of_getElem? (i := 719) (by decide +kernel), List.forall_mem_cons.mpr ⟨List.mem_of_getElem? (i := 453) (by decide +kernel), List.forall_mem_cons.mpr ⟨List.mem_of_getElem? (i := 454) (by decide +kernel), List.forall_mem_cons.mpr ⟨List.mem_of_getElem? (i := 455) (by decide +kernel), List.forall_mem_cons.mpr ⟨List.mem_of_getElem? (i := 456) (by decide +kernel), List.forall_mem_cons.mpr ⟨List.mem_of_getElem? (i := 457) (by decide +kernel), List.forall_mem_cons.mpr ⟨List.mem_of_getElem? (i := 458) (by decide +kernel), List.forall_mem_cons.mpr ⟨List.mem_of_getElem? (i := 459) (by decide +kernel), List.forall_mem_cons.mpr ⟨List.mem_of_getElem? (i := 460) (by decide +kernel), List.forall_mem_cons.mpr ⟨List.mem_of_getElem? (i := 461) (by decide +kernel), List.forall_mem_cons.mpr ⟨List.mem_of_getElem? (i := 720) (by decide +kernel), List.forall_mem_cons.mpr ⟨List.mem_of_getElem? (i := 721) (by decide +kernel), List.forall_mem_cons.mpr ⟨List.mem_of_getElem? (i := 722) (by decide +kernel), List.forall_mem_cons.mpr ⟨List.mem_of_getElem? (i := 723) (by decide +kernel), List.forall_mem_cons.mpr ⟨List.mem_of_getElem? (i := 724) (by decide +kernel), List.forall_mem_cons.mpr ⟨List.mem_of_getElem? (i := 726) (by decide +kernel), List.forall_mem_cons.mpr ⟨List.mem_of_getElem? (i := 26) (by decide +kernel), List.forall_mem_cons.mpr ⟨List.mem_of_getElem? (i := 727) (by decide +kernel), fun _ h => absurd h List.not_mem_nil⟩⟩⟩⟩⟩⟩⟩⟩⟩⟩⟩⟩⟩⟩⟩⟩⟩⟩⟩⟩⟩⟩⟩⟩
set_option maxRecDepth 20000 in
theorem wsL_law_in24 : ∀ w ∈ wsL_law_r24, w ∈ lw_tbl := List.forall_mem_cons.mpr ⟨List.mem_of_getElem? (i := 462) (by decide +kernel), List.forall_mem_cons.mpr ⟨List.mem_of_getElem? (i := 463) (by decide +kernel), List.forall_mem_cons.mpr ⟨List.mem_of_getElem? (i := 464) (by decide +kernel), List.forall_mem_cons.mpr ⟨List.mem_of_getElem? (i := 465) (by decide +kernel), List.forall_mem_cons.mpr ⟨List.mem_of_getElem? (i := 728) (by decide +kernel), List.forall_mem_cons.mpr ⟨List.mem_of_getElem? (i := 729) (by decide +kernel), List.forall_mem_cons.mpr ⟨List.mem_of_getElem? (i := 730) (by decide +kernel), List.forall_mem_cons.mpr ⟨List.mem_of_getElem? (i := 731) (by decide +kernel), List.forall_mem_cons.mpr ⟨List.mem_of_getElem? (i := 466) (by decide +kernel), List.forall_mem_cons.mpr ⟨List.mem_of_getElem? (i := 467) (by decide +kernel), List.forall_mem_cons.mpr ⟨List.mem_of_getElem? (i := 468) (by decide +kernel), List.forall_mem_cons.mpr ⟨List.mem_of_getElem? (i := 469) (by decide +kernel), List.forall_mem_cons.mpr ⟨List.mem_of_getElem? (i := 470) (by decide +kernel), List.forall_mem_cons.mpr ⟨List.mem_of_getElem? (i := 732) (by decide +kernel), List.forall_mem_cons.mpr ⟨List.mem_of_getElem? (i := 733) (by decide +kernel), List.forall_mem_cons.mpr ⟨List.mem_of_getElem? (i := 734) (by decide +kernel), List.forall_mem_cons.mpr ⟨List.mem_of_getElem? (i := 735) (by decide +kernel), List.forall_mem_cons.mpr ⟨List.mem_of_getElem? (i := 471) (by decide +kernel), List.forall_mem_cons.mpr ⟨List.mem_of_getElem? (i := 472) (by decide +kernel), List.forall_mem_cons.mpr ⟨List.mem_of_getElem? (i := 473) (by decide +kernel), List.forall_mem_cons.mpr ⟨List.mem_of_getElem? (i := 474) (by decide +kernel), List.forall_mem_cons.mpr ⟨List.mem_of_getElem? (i := 736) (by decide +kernel), List.forall_mem_cons.mpr ⟨List.mem_of_getElem? (i := 737) (by decide +kernel), List.forall_mem_cons.mpr ⟨List.mem_of_getElem? (i := 738) (by decide +kernel), fun _ h => absurd h List.not_mem_nil⟩⟩⟩⟩⟩⟩⟩⟩⟩⟩⟩⟩⟩⟩⟩⟩⟩⟩⟩⟩⟩⟩⟩⟩
set_option maxRecDepth 20000 in
theorem wsL_law_in25 : ∀ w ∈ wsL_law_r25, w ∈ lw_tbl := List.forall_mem_cons.mpr ⟨List.mem_of_getElem? (i := 739) (by decide +kernel), List.forall_mem_cons.mpr ⟨List.mem_of_getElem? (i := 475) (by decide +kernel), List.forall_mem_cons.mpr ⟨List.mem_of_getElem? (i := 476) (by decide +kernel), List.forall_mem_cons.mpr ⟨List.mem_of_getElem? (i := 477) (by decide +kernel), List.forall_mem_cons.mpr ⟨List.mem_of_getElem? (i := 478) (by decide +kernel), List.forall_mem_cons.mpr ⟨List.mem_of_getElem? (i := 479) (by decide +kernel), List.forall_mem_cons.mpr ⟨List.mem_of_getElem? (i := 480) (by decide +kernel), List.forall_mem_cons.mpr ⟨List.mem_of_getElem? (i := 481) (by decide +kernel), List.forall_mem_cons.mpr ⟨List.mem_of_getElem? (i := 482) (by decide +kernel), List.forall_mem_cons.mpr ⟨List.mem_of_getElem? (i := 483) (by decide +kernel), List.forall_mem_cons.mpr ⟨List.mem_of_getElem? (i := 484) (by decide +kernel), List.forall_mem_cons.mpr ⟨List.mem_of_getElem? (i := 485) (by decide +kernel), List.forall_mem_cons.mpr ⟨List.mem_of_getElem? (i := 486) (by decide +kernel), List.forall_mem_cons.mpr ⟨List.mem_of_getElem? (i := 740) (by decide +kernel), List.forall_mem_cons.mpr ⟨List.mem_of_getElem? (i := 741) (by decide +kernel), List.forall_mem_cons.mpr ⟨List.mem_of_getElem? (i := 742) (by decide +kernel), List.forall_mem_cons.mpr ⟨List.mem_of_getElem? (i := 743) (by decide +kernel), List.forall_mem_cons.mpr ⟨List.mem_of_getElem? (i := 744) (by decide +kernel), List.forall_mem_cons.mpr ⟨List.mem_of_getElem? (i := 487) (by decide +kernel), List.forall_mem_cons.mpr ⟨List.mem_of_getElem? (i := 488) (by decide +kernel), List.forall_mem_cons.mpr ⟨List.mem_of_getElem? (i := 489) (by decide +kernel), List.forall_mem_cons.mpr ⟨List.mem_of_getElem? (i := 490) (by decide +kernel), List.forall_mem_cons.mpr ⟨List.mem_of_getElem? (i := 745) (by decide +kernel), List.forall_mem_cons.mpr ⟨List.mem_of_getElem? (i := 746) (by decide +kernel), fun _ h => absurd h List.not_mem_nil⟩⟩⟩⟩⟩⟩⟩⟩⟩⟩⟩⟩⟩⟩⟩⟩⟩⟩⟩⟩⟩⟩⟩⟩
set_option maxRecDepth 20000 in
theorem wsL_law_in26 : ∀ w ∈ wsL_law_r26, w ∈ lw_tbl := List.forall_mem_cons.mpr ⟨List.mem_of_getElem? (i := 747) (by decide +kernel), List.forall_mem_cons.mpr ⟨List.mem_of_getElem? (i := 748) (by decide +kernel), List.forall_mem_cons.mpr ⟨List.mem_of_getElem? (i := 491) (by decide +kernel), List.forall_mem_cons.mpr ⟨List.mem_of_getElem? (i := 492) (by decide +kernel), List.forall_mem_cons.mpr ⟨List.mem_of_getElem? (i := 493) (by decide +kernel), List.forall_mem_cons.mpr ⟨List.mem_of_getElem? (i := 494) (by decide +kernel), List.forall_mem_cons.mpr ⟨List.mem_of_getElem? (i := 749) (by decide +kernel), List.forall_mem_cons.mpr ⟨List.mem_of_getElem? (i := 750) (by decide +kernel), List.forall_mem_cons.mpr ⟨List.mem_of_getElem? (i := 751) (by decide +kernel), List.forall_mem_cons.mpr ⟨List.mem_of_getElem? (i := 752) (by decide +kernel), List.forall_mem_cons.mpr ⟨List.mem_of_getElem? (i := 495) (by decide +kernel), List.forall_mem_cons.mpr ⟨List.mem_of_getElem? (i := 496) (by decide +kernel), List.forall_mem_cons.mpr ⟨List.mem_of_getElem? (i := 497) (by decide +kernel), List.forall_mem_cons.mpr ⟨List.mem_of_getElem? (i := 498) (by decide +kernel), List.forall_mem_cons.mpr ⟨List.mem_of_getElem? (i := 499) (by decide +kernel), List.forall_mem_cons.mpr ⟨List.mem_of_getElem? (i := 500) (by decide +kernel), List.forall_mem_cons.mpr ⟨List.mem_of_getElem? (i := 501) (by decide +kernel), List.forall_mem_cons.mpr ⟨List.mem_of_getElem? (i := 502) (by decide +kernel), List.forall_mem_cons.mpr ⟨List.mem_of_getElem? (i := 753) (by decide +kernel), List.forall_mem_cons.mpr ⟨List.mem_of_getElem? (i := 754) (by decide +kernel), List.forall_mem_cons.mpr ⟨List.mem_of_getElem? (i := 755) (by decide +kernel), List.forall_mem_cons.mpr ⟨List.mem_of_getElem? (i := 756) (by decide +kernel), List.forall_mem_cons.mpr ⟨List.mem_of_getElem? (i := 503) (by decide +kernel), List.forall_mem_cons.mpr ⟨List.mem_of_getElem? (i := 504) (by decide +kernel), fun _ h => absurd h List.not_mem_nil⟩⟩⟩⟩⟩⟩⟩⟩⟩⟩⟩⟩⟩⟩⟩⟩⟩⟩⟩⟩⟩⟩⟩⟩
set_option maxRecDepth 20000 in
theorem wsL_law_in27 : ∀ w ∈ wsL_law_r27, w ∈ lw_tbl := List.forall_mem_cons.mpr ⟨List.mem_of_getElem? (i := 505) (by decide +kernel), List.forall_mem_cons.mpr ⟨List.mem_of_getElem? (i := 506) (by decide +kernel), List.forall_mem_cons.mpr ⟨List.mem_of_getElem? (i := 757) (by decide +kernel), List.forall_mem_cons.mpr ⟨List.mem_of_getElem? (i := 758) (by decide +kernel), List.forall_mem_cons.mpr ⟨List.mem_of_getElem? (i := 759) (by decide +kernel), List.forall_mem_cons.mpr ⟨List.mem_of_getElem? (i := 760) (by decide +kernel), List.forall_mem_cons.mpr ⟨List.mem_of_getElem? (i := 507) (by decide +kernel), List.forall_mem_cons.mpr ⟨List.mem_of_getElem? (i := 508) (by decide +kernel), List.forall_mem_cons.mpr ⟨List.mem_of_getElem? (i := 509) (by decide +kernel), List.forall_mem_cons.mpr ⟨List.mem_of_getElem? (i := 510) (by decide +kernel), List.forall_mem_cons.mpr ⟨List.mem_of_getElem? (i := 761) (by decide +kernel), List.forall_mem_cons.mpr ⟨List.mem_of_getElem? (i := 762) (by decide +kernel), List.forall_mem_cons.mpr ⟨List.mem_of_getElem? (i := 763) (by decide +kernel), List.forall_mem_cons.mpr ⟨List.mem_of_getElem? (i := 764) (by decide +kernel), fun _ h => absurd h List.not_mem_nil⟩⟩⟩⟩⟩⟩⟩⟩⟩⟩⟩⟩⟩⟩
set_option maxRecDepth 20000 in
theorem wsL_law_inX0 : ∀ w ∈ wsX00, w ∈ lw_tbl := List.forall_mem_cons.mpr ⟨List.mem_of_getElem? (i := 76) (by decide +kernel), List.forall_mem_cons.mpr ⟨List.mem_of_getElem? (i := 78) (by decide +kernel), List.forall_mem_cons.mpr ⟨List.mem_of_getElem? (i := 80) (by decide +kernel), List.forall_mem_cons.mpr ⟨List.mem_of_getElem? (i := 82) (by decide +kernel), List.forall_mem_cons.mpr ⟨List.mem_of_getElem? (i := 84) (by decide +kernel), List.forall_mem_cons.mpr ⟨List.mem_of_getElem? (i := 86) (by decide +kernel), List.forall_mem_cons.mpr ⟨List.mem_of_getElem? (i := 88) (by decide +kernel), List.forall_mem_cons.mpr ⟨List.mem_of_getElem? (i := 90) (by decide +kernel), fun _ h => absurd h List.not_mem_nil⟩⟩⟩⟩⟩⟩⟩⟩
set_option maxRecDepth 20000 in
theorem wsL_law_inX1 : ∀ w ∈ wsX10, w ∈ lw_tbl := List.forall_mem_cons.mpr ⟨List.mem_of_getElem? (i := 164) (by decide +kernel), List.forall_mem_cons.mpr ⟨List.mem_of_getElem? (i := 166) (by decide +kernel), List.forall_mem_cons.mpr ⟨List.mem_of_getElem? (i := 168) (by decide +kernel), List.forall_mem_cons.mpr ⟨List.mem_of_getElem? (i := 170) (by decide +kernel), List.forall_mem_cons.mpr ⟨List.mem_of_getElem? (i := 172) (by decide +kernel), List.forall_mem_cons.mpr ⟨List.mem_of_getElem? (i := 174) (by decide +kernel), List.forall_mem_cons.mpr ⟨List.mem_of_getElem? (i := 176) (by decide +kernel), List.forall_mem_cons.mpr ⟨List.mem_of_getElem? (i := 178) (by decide +kernel), List.forall_mem_cons.mpr ⟨List.mem_of_getElem? (i := 180) (by decide +kernel), List.forall_mem_cons.mpr ⟨List.mem_of_getElem? (i := 182) (by decide +kernel), fun _ h => absurd h List.not_mem_nil⟩⟩⟩⟩⟩⟩⟩⟩⟩⟩
set_option maxRecDepth 20000 in
theorem wsL_law_inX2 : ∀ w ∈ wsX20, w ∈ lw_tbl := List.forall_mem_cons.mpr ⟨List.mem_of_getElem? (i := 198) (by decide +kernel), List.forall_mem_cons.mpr ⟨List.mem_of_getElem? (i := 200) (by decide +kernel), List.forall_mem_cons.mpr ⟨List.mem_of_getElem? (i := 202) (by decide +kernel), fun _ h => absurd h List.not_mem_nil⟩⟩⟩
set_option maxRecDepth 20000 in
theorem wsL_law_inX3 : ∀ w ∈ wsX30, w ∈ lw_tbl := List.forall_mem_cons.mpr ⟨List.mem_of_getElem? (i := 215) (by decide +kernel), List.forall_mem_cons.mpr ⟨List.mem_of_getElem? (i := 217) (by decide +kernel), fun _ h => absurd h List.not_mem_nil⟩⟩
set_option maxRecDepth 20000 in
theorem wsL_law_inX4 : ∀ w ∈ wsX40, w ∈ lw_tbl := List.forall_mem_cons.mpr ⟨List.mem_of_getElem? (i := 112) (by decide +kernel), List.forall_mem_cons.mpr ⟨List.mem_of_getElem? (i := 114) (by decide +kernel), List.forall_mem_cons.mpr ⟨List.mem_of_getElem? (i := 116) (by decide +kernel), List.forall_mem_cons.mpr ⟨List.mem_of_getElem? (i := 118) (by decide +kernel), List.forall_mem_cons.mpr ⟨List.mem_of_getElem? (i := 120) (by decide +kernel), List.forall_mem_cons.mpr ⟨List.mem_of_getElem? (i := 122) (by decide +kernel), fun _ h => absurd h List.not_mem_nil⟩⟩⟩⟩⟩⟩
set_option maxRecDepth 20000 in
theorem wsL_law_inX5 : ∀ w ∈ wsX50, w ∈ lw_tbl := List.forall_mem_cons.mpr ⟨List.mem_of_getElem? (i := 226) (by decide +kernel), List.forall_mem_cons.mpr ⟨List.mem_of_getElem? (i := 228) (by decide +kernel), List.forall_mem_cons.mpr ⟨List.mem_of_getElem? (i := 230) (by decide +kernel), List.forall_mem_cons.mpr ⟨List.mem_of_getElem? (i := 232) (by decide +kernel), List.forall_mem_cons.mpr ⟨List.mem_of_getElem? (i := 234) (by decide +kernel), List.forall_mem_cons.mpr ⟨List.mem_of_getElem? (i := 236) (by decide +kernel), fun _ h => absurd h List.not_mem_nil⟩⟩⟩⟩⟩⟩
set_option maxRecDepth 20000 in
theorem wsL_law_inX6 : ∀ w ∈ wsX60, w ∈ lw_tbl := List.forall_mem_cons.mpr ⟨List.mem_of_getElem? (i := 529) (by decide +kernel), List.forall_mem_cons.mpr ⟨List.mem_of_getElem? (i := 531) (by decide +kernel), List.forall_mem_cons.mpr ⟨List.mem_of_getElem? (i := 533) (by decide +kernel), List.forall_mem_cons.mpr ⟨List.mem_of_getElem? (i := 535) (by decide +kernel), List.forall_mem_cons.mpr ⟨List.mem_of_getElem? (i := 537) (by decide +kernel), List.forall_mem_cons.mpr ⟨List.mem_of_getElem? (i := 539) (by decide +kernel), List.forall_mem_cons.mpr ⟨List.mem_of_getElem? (i := 541) (by decide +kernel), List.forall_mem_cons.mpr ⟨List.mem_of_getElem? (i := 543) (by decide +kernel), fun _ h => absurd h List.not_mem_nil⟩⟩⟩⟩⟩⟩⟩⟩
theorem wsL_law_in : ∀ w ∈ wsL_law, w ∈ lw_tbl := List.forall_mem_append.mpr ⟨List.forall_mem_append.mpr ⟨List.forall_mem_append.mpr ⟨List.forall_mem_append.mpr ⟨List.forall_mem_append.mpr ⟨List.forall_mem_append.mpr ⟨List.forall_mem_append.mpr ⟨List.forall_mem_append.mpr ⟨List.forall_mem_append.mpr ⟨wsL_law_in1, List.forall_mem_append.mpr ⟨wsL_law_in2, List.forall_mem_append.mpr ⟨wsL_law_in3, List.forall_mem_append.mpr ⟨wsL_law_in4, List.forall_mem_append.mpr ⟨wsL_law_in5, List.forall_mem_append.mpr ⟨wsL_law_in6, List.forall_mem_append.mpr ⟨wsL_law_in7, List.forall_mem_append.mpr ⟨wsL_law_in8, List.forall_mem_append.mpr ⟨wsL_law_in9, List.forall_mem_append.mpr ⟨wsL_law_in10, List.forall_mem_append.mpr ⟨wsL_law_in11, List.forall_mem_append.mpr ⟨wsL_law_in12, List.forall_mem_append.mpr ⟨wsL_law_in13, List.forall_mem_append.mpr ⟨wsL_law_in14, List.forall_mem_append.mpr ⟨wsL_law_in15, List.forall_mem_append.mpr ⟨wsL_law_in16, List.forall_mem_append.mpr ⟨wsL_law_in17, List.forall_mem_append.mpr ⟨wsL_law_in18, List.forall_mem_append.mpr ⟨wsL_law_in19, List.forall_mem_append.mpr ⟨wsL_law_in20, List.forall_mem_append.mpr ⟨wsL_law_in21, List.forall_mem_append.mpr ⟨wsL_law_in22, List.forall_mem_append.mpr ⟨wsL_law_in23, List.forall_mem_append.mpr ⟨wsL_law_in24, List.forall_mem_append.mpr ⟨wsL_law_in25, List.forall_mem_append.mpr ⟨wsL_law_in26, wsL_law_in27⟩⟩⟩⟩⟩⟩⟩⟩⟩⟩⟩⟩⟩⟩⟩⟩⟩⟩⟩⟩⟩⟩⟩⟩⟩⟩, wsL_law_inX5⟩, wsL_law_inX6⟩, wsL_law_inX1⟩, wsL_law_inX2⟩, wsL_law_inX3⟩, wsL_law_inX0⟩, wsL_law_inX4⟩, fun _ h => absurd h List.not_mem_nil⟩
theorem inlX0 : ∀ w ∈ wsX00, w ∈ wsL_law := fun _ h => List.mem_append_left _ (List.mem_append_left _ (List.mem_append_right _ h))
theorem inX0 : ∀ w ∈ wsX00, w ∈ lw_tbl := fun w h => wsL_law_in w (inlX0 w h)
theorem inlX1 : ∀ w ∈ wsX10, w ∈ wsL_law := fun _ h => List.mem_append_left _ (List.mem_append_left _ (List.mem_append_left _ (List.mem_append_left _ (List.mem_append_left _ (List.mem_append_right _ h)))))
theorem inX1 : ∀ w ∈ wsX10, w ∈ lw_tbl := fun w h => wsL_law_in w (inlX1 w h)
theorem inlX2 : ∀ w ∈ wsX20, w ∈ wsL_law := fun _ h => List.mem_append_left _ (List.mem_append_left _ (List.mem_append_left _ (List.mem_append_left _ (List.mem_append_right _ h))))
theorem inX2 : ∀ w ∈ wsX20, w ∈ lw_tbl := fun w h => wsL_law_in w (inlX2 w h)
theorem inlX3 : ∀ w ∈ wsX30, w ∈ wsL_law := fun _ h => List.mem_append_left _ (List.mem_append_left _ (List.mem_append_left _ (List.mem_append_right _ h)))
theorem inX3 : ∀ w ∈ wsX30, w ∈ lw_tbl := fun w h => wsL_law_in w (inlX3 w h)
theorem inlX4 : ∀ w ∈ wsX40, w ∈ wsL_law := fun _ h => List.mem_append_left _ (List.mem_append_right _ h)
theorem inX4 : ∀ w ∈ wsX40, w ∈ lw_tbl := fun w h => wsL_law_in w (inlX4 w h)
theorem inlX5 : ∀ w ∈ wsX50, w ∈ wsL_law := fun _ h => List.mem_append_left _ (List.mem_append_left _ (List.mem_append_left _ (List.mem_append_left _ (List.mem_append_left _ (List.mem_append_left _ (List.mem_append_left _ (List.mem_append_right _ h)))))))
theorem inX5 : ∀ w ∈ wsX50, w ∈ lw_tbl := fun w h => wsL_law_in w (inlX5 w h)
theorem inlX6 : ∀ w ∈ wsX60, w ∈ wsL_law := fun _ h => List.mem_append_left _ (List.mem_append_left _ (List.mem_append_left _ (List.mem_append_left _ (List.mem_append_left _ (List.mem_append_left _ (List.mem_append_right _ h))))))
theorem inX6 : ∀ w ∈ wsX60, w ∈ lw_tbl := fun w h => wsL_law_in w (inlX6 w h)
abbrev vwCl : List vw_C := [(RX0, TX0, 8), (RX1, TX1, 10), (RX2, TX2, 3), (RX3, TX3, 2), (RX4, TX4, 6), (RX5, TX5, 6), (RX6, TX6, 8)]
end
section
theorem dX0_init_0 : decode cX0_init 0 = .ok (.aload_n 0, 1) := by decide +kernel
theorem dX0_init_1 : decode cX0_init 1 = .ok (.invokespecial 3, 3) := by decide +kernel
theorem dX0_init_4 : decode cX0_init 4 = .ok (.aload_n 0, 1) := by decide +kernel
theorem dX0_init_5 : decode cX0_init 5 = .ok (.iconst 0, 1) := by decide +kernel
theorem dX0_init_6 : decode cX0_init 6 = .ok (.putfield 9, 3) := by decide +kernel
theorem dX0_init_9 : decode cX0_init 9 = .ok (.aload_n 0, 1) := by decide +kernel
theorem dX0_init_10 : decode cX0_init 10 = .ok (.bipush 32, 2) := by decide +kernel
theorem dX0_init_12 : decode cX0_init 12 = .ok (.newarray .int, 2) := by decide +kernel
theorem dX0_init_14 : decode cX0_init 14 = .ok (.putfield 15, 3) := by decide +kernel
theorem dX0_init_17 : decode cX0_init 17 = .ok (.aload_n 0, 1) := by decide +kernel
theorem dX0_init_18 : decode cX0_init 18 = .ok (.bipush 8, 2) := by decide +kernel
theorem dX0_init_20 : decode cX0_init 20 = .ok (.newarray .int, 2) := by decide +kernel
theorem dX0_init_22 : decode cX0_init 22 = .ok (.putfield 19, 3) := by decide +kernel
theorem dX0_init_25 : decode cX0_init 25 = .ok (.iconst 0, 1) := by decide +kernel
theorem dX0_init_26 : decode cX0_init 26 = .ok (.istore_n 1, 1) := by decide +kernel
theorem dX0_init_27 : decode cX0_init 27 = .ok (.iload_n 1, 1) := by decide +kernel
theorem dX0_init_28 : decode cX0_init 28 = .ok (.bipush 32, 2) := by decide +kernel
theorem dX0_init_30 : decode cX0_init 30 = .ok (.if_icmp .ge 18, 3) := by decide +kernel
theorem dX0_init_33 : decode cX0_init 33 = .ok (.aload_n 0, 1) := by decide +kernel
theorem dX0_init_34 : decode cX0_init 34 = .ok (.getfield 15, 3) := by decide +kernel
theorem dX0_init_37 : decode cX0_init 37 = .ok (.iload_n 1, 1) := by decide +kernel
theorem dX0_init_38 : decode cX0_init 38 = .ok (.sipush 255, 3) := by decide +kernel
theorem dX0_init_41 : decode cX0_init 41 = .ok (.iastore, 1) := by decide +kernel
theorem dX0_init_42 : decode cX0_init 42 = .ok (.iinc 1 1, 3) := by decide +kernel
theorem dX0_init_45 : decode cX0_init 45 = .ok (.goto (-18), 3) := by decide +kernel
theorem dX0_init_48 : decode cX0_init 48 = .ok (.return_, 1) := by decide +kernel
theorem dX0_copyFrom_0 : decode cX0_copyFrom 0 = .ok (.aload_n 0, 1) := by decide +kernel
theorem dX0_copyFrom_1 : decode cX0_copyFrom 1 = .ok (.aload_n 1, 1) := by decide +kernel
theorem dX0_copyFrom_2 : decode cX0_copyFrom 2 = .ok (.getfield 9, 3) := by decide +kernel
theorem dX0_copyFrom_5 : decode cX0_copyFrom 5 = .ok (.putfield 9, 3) := by decide +kernel
theorem dX0_copyFrom_8 : decode cX0_copyFrom 8 = .ok (.aload_n 0, 1) := by decide +kernel
theorem dX0_copyFrom_9 : decode cX0_copyFrom 9 = .ok (.aload_n 1, 1) := by decide +kernel
theorem dX0_copyFrom_10 : decode cX0_copyFrom 10 = .ok (.getfield 22, 3) := by decide +kernel
theorem dX0_copyFrom_13 : decode cX0_copyFrom 13 = .ok (.putfield 22, 3) := by decide +kernel
theorem dX0_copyFrom_16 : decode cX0_copyFrom 16 = .ok (.aload_n 0, 1) := by decide +kernel
theorem dX0_copyFrom_17 : decode cX0_copyFrom 17 = .ok (.aload_n 1, 1) := by decide +kernel
theorem dX0_copyFrom_18 : decode cX0_copyFrom 18 = .ok (.getfield 25, 3) := by decide +kernel
theorem dX0_copyFrom_21 : decode cX0_copyFrom 21 = .ok (.putfield 25, 3) := by decide +kernel
theorem dX0_copyFrom_24 : decode cX0_copyFrom 24 = .ok (.aload_n 0, 1) := by decide +kernel
theorem dX0_copyFrom_25 : decode cX0_copyFrom 25 = .ok (.aload_n 1, 1) := by decide +kernel
theorem dX0_copyFrom_26 : decode cX0_copyFrom 26 = .ok (.getfield 28, 3) := by decide +kernel
theorem dX0_copyFrom_29 : decode cX0_copyFrom 29 = .ok (.putfield 28, 3) := by decide +kernel
theorem dX0_copyFrom_32 : decode cX0_copyFrom 32 = .ok (.aload_n 0, 1) := by decide +kernel
theorem dX0_copyFrom_33 : decode cX0_copyFrom 33 = .ok (.aload_n 1, 1) := by decide +kernel
theorem dX0_copyFrom_34 : decode cX0_copyFrom 34 = .ok (.getfield 31, 3) := by decide +kernel
theorem dX0_copyFrom_37 : decode cX0_copyFrom 37 = .ok (.putfield 31, 3) := by decide +kernel
theorem dX0_copyFrom_40 : decode cX0_copyFrom 40 = .ok (.aload_n 0, 1) := by decide +kernel
theorem dX0_copyFrom_41 : decode cX0_copyFrom 41 = .ok (.aload_n 1, 1) := by decide +kernel
theorem dX0_copyFrom_42 : decode cX0_copyFrom 42 = .ok (.getfield 34, 3) := by decide +kernel
theorem dX0_copyFrom_45 : decode cX0_copyFrom 45 = .ok (.putfield 34, 3) := by decide +kernel
theorem dX0_copyFrom_48 : decode cX0_copyFrom 48 = .ok (.aload_n 1, 1) := by decide +kernel
theorem dX0_copyFrom_49 : decode cX0_copyFrom 49 = .ok (.getfield 15, 3) := by decide +kernel
theorem dX0_copyFrom_52 : decode cX0_copyFrom 52 = .ok (.iconst 0, 1) := by decide +kernel
theorem dX0_copyFrom_53 : decode cX0_copyFrom 53 = .ok (.aload_n 0, 1) := by decide +kernel
theorem dX0_copyFrom_54 : decode cX0_copyFrom 54 = .ok (.getfield 15, 3) := by decide +kernel
theorem dX0_copyFrom_57 : decode cX0_copyFrom 57 = .ok (.iconst 0, 1) := by decide +kernel
theorem dX0_copyFrom_58 : decode cX0_copyFrom 58 = .ok (.bipush 32, 2) := by decide +kernel
theorem dX0_copyFrom_60 : decode cX0_copyFrom 60 = .ok (.invokestatic 37, 3) := by decide +kernel
theorem dX0_copyFrom_63 : decode cX0_copyFrom 63 = .ok (.aload_n 1, 1) := by decide +kernel
theorem dX0_copyFrom_64 : decode cX0_copyFrom 64 = .ok (.getfield 19, 3) := by decide +kernel
theorem dX0_copyFrom_67 : decode cX0_copyFrom 67 = .ok (.iconst 0, 1) := by decide +kernel
theorem dX0_copyFrom_68 : decode cX0_copyFrom 68 = .ok (.aload_n 0, 1) := by decide +kernel
theorem dX0_copyFrom_69 : decode cX0_copyFrom 69 = .ok (.getfield 19, 3) := by decide +kernel
theorem dX0_copyFrom_72 : decode cX0_copyFrom 72 = .ok (.iconst 0, 1) := by decide +kernel
theorem dX0_copyFrom_73 : decode cX0_copyFrom 73 = .ok (.bipush 8, 2) := by decide +kernel
theorem dX0_copyFrom_75 : decode cX0_copyFrom 75 = .ok (.invokestatic 37, 3) := by decide +kernel
theorem dX0_copyFrom_78 : decode cX0_copyFrom 78 = .ok (.return_, 1) := by decide +kernel
theorem dX0_emptyPages_0 : decode cX0_emptyPages 0 = .ok (.iconst 0, 1) := by decide +kernel
theorem dX0_emptyPages_1 : decode cX0_emptyPages 1 = .ok (.istore_n 2, 1) := by decide +kernel
theorem dX0_emptyPages_2 : decode cX0_emptyPages 2 = .ok (.iload_n 2, 1) := by decide +kernel
theorem dX0_emptyPages_3 : decode cX0_emptyPages 3 = .ok (.iload_n 1, 1) := by decide +kernel
theorem dX0_emptyPages_4 : decode cX0_emptyPages 4 = .ok (.if_icmp .ge 25, 3) := by decide +kernel
theorem dX0_emptyPages_7 : decode cX0_emptyPages 7 = .ok (.iload_n 2, 1) := by decide +kernel
theorem dX0_emptyPages_8 : decode cX0_emptyPages 8 = .ok (.bipush 8, 2) := by decide +kernel
theorem dX0_emptyPages_10 : decode cX0_emptyPages 10 = .ok (.if_icmp .ge 19, 3) := by decide +kernel
theorem dX0_emptyPages_13 : decode cX0_emptyPages 13 = .ok (.aload_n 0, 1) := by decide +kernel
theorem dX0_emptyPages_14 : decode cX0_emptyPages 14 = .ok (.getfield 19, 3) := by decide +kernel
theorem dX0_emptyPages_17 : decode cX0_emptyPages 17 = .ok (.iload_n 2, 1) := by decide +kernel
theorem dX0_emptyPages_18 : decode cX0_emptyPages 18 = .ok (.dup2, 1) := by decide +kernel
theorem dX0_emptyPages_19 : decode cX0_emptyPages 19 = .ok (.iaload, 1) := by decide +kernel
theorem dX0_emptyPages_20 : decode cX0_emptyPages 20 = .ok (.iconst 1, 1) := by decide +kernel
theorem dX0_emptyPages_21 : decode cX0_emptyPages 21 = .ok (.iadd, 1) := by decide +kernel
theorem dX0_emptyPages_22 : decode cX0_emptyPages 22 = .ok (.iastore, 1) := by decide +kernel
theorem dX0_emptyPages_23 : decode cX0_emptyPages 23 = .ok (.iinc 2 1, 3) := by decide +kernel
theorem dX0_emptyPages_26 : decode cX0_emptyPages 26 = .ok (.goto (-24), 3) := by decide +kernel
theorem dX0_emptyPages_29 : decode cX0_emptyPages 29 = .ok (.iconst 0, 1) := by decide +kernel
theorem dX0_emptyPages_30 : decode cX0_emptyPages 30 = .ok (.istore_n 2, 1) := by decide +kernel
theorem dX0_emptyPages_31 : decode cX0_emptyPages 31 = .ok (.iload_n 2, 1) := by decide +kernel
theorem dX0_emptyPages_32 : decode cX0_emptyPages 32 = .ok (.iload_n 1, 1) := by decide +kernel
theorem dX0_emptyPages_33 : decode cX0_emptyPages 33 = .ok (.iconst 4, 1) := by decide +kernel
theorem dX0_emptyPages_34 : decode cX0_emptyPages 34 = .ok (.imul, 1) := by decide +kernel
theorem dX0_emptyPages_35 : decode cX0_emptyPages 35 = .ok (.if_icmp .ge 24, 3) := by decide +kernel
theorem dX0_emptyPages_38 : decode cX0_emptyPages 38 = .ok (.iload_n 2, 1) := by decide +kernel
theorem dX0_emptyPages_39 : decode cX0_emptyPages 39 = .ok (.bipush 32, 2) := by decide +kernel
theorem dX0_emptyPages_41 : decode cX0_emptyPages 41 = .ok (.if_icmp .ge 18, 3) := by decide +kernel
theorem dX0_emptyPages_44 : decode cX0_emptyPages 44 = .ok (.aload_n 0, 1) := by decide +kernel
theorem dX0_emptyPages_45 : decode cX0_emptyPages 45 = .ok (.getfield 15, 3) := by decide +kernel
theorem dX0_emptyPages_48 : decode cX0_emptyPages 48 = .ok (.iload_n 2, 1) := by decide +kernel
theorem dX0_emptyPages_49 : decode cX0_emptyPages 49 = .ok (.sipush 255, 3) := by decide +kernel
theorem dX0_emptyPages_52 : decode cX0_emptyPages 52 = .ok (.iastore, 1) := by decide +kernel
theorem dX0_emptyPages_53 : decode cX0_emptyPages 53 = .ok (.iinc 2 1, 3) := by decide +kernel
theorem dX0_emptyPages_56 : decode cX0_emptyPages 56 = .ok (.goto (-25), 3) := by decide +kernel
theorem dX0_emptyPages_59 : decode cX0_emptyPages 59 = .ok (.return_, 1) := by decide +kernel
theorem dX0_expectImage_0 : decode cX0_expectImage 0 = .ok (.aload_n 0, 1) := by decide +kernel
theorem dX0_expectImage_1 : decode cX0_expectImage 1 = .ok (.iconst 1, 1) := by decide +kernel
theorem dX0_expectImage_2 : decode cX0_expectImage 2 = .ok (.putfield 9, 3) := by decide +kernel
theorem dX0_expectImage_5 : decode cX0_expectImage 5 = .ok (.aload_n 0, 1) := by decide +kernel
theorem dX0_expectImage_6 : decode cX0_expectImage 6 = .ok (.iload_n 1, 1) := by decide +kernel
theorem dX0_expectImage_7 : decode cX0_expectImage 7 = .ok (.putfield 22, 3) := by decide +kernel
theorem dX0_expectImage_10 : decode cX0_expectImage 10 = .ok (.aload_n 0, 1) := by decide +kernel
theorem dX0_expectImage_11 : decode cX0_expectImage 11 = .ok (.iload_n 2, 1) := by decide +kernel
theorem dX0_expectImage_12 : decode cX0_expectImage 12 = .ok (.putfield 25, 3) := by decide +kernel
theorem dX0_expectImage_15 : decode cX0_expectImage 15 = .ok (.aload_n 0, 1) := by decide +kernel
theorem dX0_expectImage_16 : decode cX0_expectImage 16 = .ok (.iload_n 3, 1) := by decide +kernel
theorem dX0_expectImage_17 : decode cX0_expectImage 17 = .ok (.putfield 28, 3) := by decide +kernel
theorem dX0_expectImage_20 : decode cX0_expectImage 20 = .ok (.aload_n 0, 1) := by decide +kernel
theorem dX0_expectImage_21 : decode cX0_expectImage 21 = .ok (.iconst 0, 1) := by decide +kernel
theorem dX0_expectImage_22 : decode cX0_expectImage 22 = .ok (.putfield 31, 3) := by decide +kernel
theorem dX0_expectImage_25 : decode cX0_expectImage 25 = .ok (.aload_n 0, 1) := by decide +kernel
theorem dX0_expectImage_26 : decode cX0_expectImage 26 = .ok (.iconst 0, 1) := by decide +kernel
theorem dX0_expectImage_27 : decode cX0_expectImage 27 = .ok (.putfield 34, 3) := by decide +kernel
theorem dX0_expectImage_30 : decode cX0_expectImage 30 = .ok (.return_, 1) := by decide +kernel
theorem dX0_takeGoldenImage_0 : decode cX0_takeGoldenImage 0 = .ok (.aload_n 0, 1) := by decide +kernel
theorem dX0_takeGoldenImage_1 : decode cX0_takeGoldenImage 1 = .ok (.iconst 0, 1) := by decide +kernel
theorem dX0_takeGoldenImage_2 : decode cX0_takeGoldenImage 2 = .ok (.iconst 2, 1) := by decide +kernel
theorem dX0_takeGoldenImage_3 : decode cX0_takeGoldenImage 3 = .ok (.iconst 0, 1) := by decide +kernel
theorem dX0_takeGoldenImage_4 : decode cX0_takeGoldenImage 4 = .ok (.invokevirtual 43, 3) := by decide +kernel
theorem dX0_takeGoldenImage_7 : decode cX0_takeGoldenImage 7 = .ok (.aload_n 0, 1) := by decide +kernel
theorem dX0_takeGoldenImage_8 : decode cX0_takeGoldenImage 8 = .ok (.iconst 0, 1) := by decide +kernel
theorem dX0_takeGoldenImage_9 : decode cX0_takeGoldenImage 9 = .ok (.invokevirtual 47, 3) := by decide +kernel
theorem dX0_takeGoldenImage_12 : decode cX0_takeGoldenImage 12 = .ok (.aload_n 0, 1) := by decide +kernel
theorem dX0_takeGoldenImage_13 : decode cX0_takeGoldenImage 13 = .ok (.iconst 0, 1) := by decide +kernel
theorem dX0_takeGoldenImage_14 : decode cX0_takeGoldenImage 14 = .ok (.invokevirtual 47, 3) := by decide +kernel
theorem dX0_takeGoldenImage_17 : decode cX0_takeGoldenImage 17 = .ok (.aload_n 0, 1) := by decide +kernel
theorem dX0_takeGoldenImage_18 : decode cX0_takeGoldenImage 18 = .ok (.aload_n 0, 1) := by decide +kernel
theorem dX0_takeGoldenImage_19 : decode cX0_takeGoldenImage 19 = .ok (.invokevirtual 51, 3) := by decide +kernel
theorem dX0_takeGoldenImage_22 : decode cX0_takeGoldenImage 22 = .ok (.putfield 28, 3) := by decide +kernel
theorem dX0_takeGoldenImage_25 : decode cX0_takeGoldenImage 25 = .ok (.aload_n 0, 1) := by decide +kernel
theorem dX0_takeGoldenImage_26 : decode cX0_takeGoldenImage 26 = .ok (.iconst 3, 1) := by decide +kernel
theorem dX0_takeGoldenImage_27 : decode cX0_takeGoldenImage 27 = .ok (.putfield 9, 3) := by decide +kernel
theorem dX0_takeGoldenImage_30 : decode cX0_takeGoldenImage 30 = .ok (.return_, 1) := by decide +kernel
theorem dX0_lacking_0 : decode cX0_lacking 0 = .ok (.aload_n 0, 1) := by decide +kernel
theorem dX0_lacking_1 : decode cX0_lacking 1 = .ok (.getfield 25, 3) := by decide +kernel
theorem dX0_lacking_4 : decode cX0_lacking 4 = .ok (.aload_n 0, 1) := by decide +kernel
theorem dX0_lacking_5 : decode cX0_lacking 5 = .ok (.getfield 34, 3) := by decide +kernel
theorem dX0_lacking_8 : decode cX0_lacking 8 = .ok (.isub, 1) := by decide +kernel
theorem dX0_lacking_9 : decode cX0_lacking 9 = .ok (.ireturn, 1) := by decide +kernel
theorem dX0_addWord_0 : decode cX0_addWord 0 = .ok (.aload_n 0, 1) := by decide +kernel
theorem dX0_addWord_1 : decode cX0_addWord 1 = .ok (.getfield 34, 3) := by decide +kernel
theorem dX0_addWord_4 : decode cX0_addWord 4 = .ok (.iconst 0, 1) := by decide +kernel
theorem dX0_addWord_5 : decode cX0_addWord 5 = .ok (.bipush 31, 2) := by decide +kernel
theorem dX0_addWord_7 : decode cX0_addWord 7 = .ok (.invokestatic 55, 3) := by decide +kernel
theorem dX0_addWord_10 : decode cX0_addWord 10 = .ok (.ifCond .eq 23, 3) := by decide +kernel
theorem dX0_addWord_13 : decode cX0_addWord 13 = .ok (.aload_n 0, 1) := by decide +kernel
theorem dX0_addWord_14 : decode cX0_addWord 14 = .ok (.getfield 15, 3) := by decide +kernel
theorem dX0_addWord_17 : decode cX0_addWord 17 = .ok (.aload_n 0, 1) := by decide +kernel
theorem dX0_addWord_18 : decode cX0_addWord 18 = .ok (.getfield 34, 3) := by decide +kernel
theorem dX0_addWord_21 : decode cX0_addWord 21 = .ok (.iload_n 1, 1) := by decide +kernel
theorem dX0_addWord_22 : decode cX0_addWord 22 = .ok (.iastore, 1) := by decide +kernel
theorem dX0_addWord_23 : decode cX0_addWord 23 = .ok (.aload_n 0, 1) := by decide +kernel
theorem dX0_addWord_24 : decode cX0_addWord 24 = .ok (.dup, 1) := by decide +kernel
theorem dX0_addWord_25 : decode cX0_addWord 25 = .ok (.getfield 34, 3) := by decide +kernel
theorem dX0_addWord_28 : decode cX0_addWord 28 = .ok (.iconst 1, 1) := by decide +kernel
theorem dX0_addWord_29 : decode cX0_addWord 29 = .ok (.iadd, 1) := by decide +kernel
theorem dX0_addWord_30 : decode cX0_addWord 30 = .ok (.putfield 34, 3) := by decide +kernel
theorem dX0_addWord_33 : decode cX0_addWord 33 = .ok (.return_, 1) := by decide +kernel
theorem dX0_sumOfImage_0 : decode cX0_sumOfImage 0 = .ok (.iconst 1, 1) := by decide +kernel
theorem dX0_sumOfImage_1 : decode cX0_sumOfImage 1 = .ok (.istore_n 1, 1) := by decide +kernel
theorem dX0_sumOfImage_2 : decode cX0_sumOfImage 2 = .ok (.iconst 0, 1) := by decide +kernel
theorem dX0_sumOfImage_3 : decode cX0_sumOfImage 3 = .ok (.istore_n 2, 1) := by decide +kernel
theorem dX0_sumOfImage_4 : decode cX0_sumOfImage 4 = .ok (.iload_n 2, 1) := by decide +kernel
theorem dX0_sumOfImage_5 : decode cX0_sumOfImage 5 = .ok (.aload_n 0, 1) := by decide +kernel
theorem dX0_sumOfImage_6 : decode cX0_sumOfImage 6 = .ok (.getfield 25, 3) := by decide +kernel
theorem dX0_sumOfImage_9 : decode cX0_sumOfImage 9 = .ok (.if_icmp .ge 26, 3) := by decide +kernel
theorem dX0_sumOfImage_12 : decode cX0_sumOfImage 12 = .ok (.iload_n 2, 1) := by decide +kernel
theorem dX0_sumOfImage_13 : decode cX0_sumOfImage 13 = .ok (.bipush 32, 2) := by decide +kernel
theorem dX0_sumOfImage_15 : decode cX0_sumOfImage 15 = .ok (.if_icmp .ge 20, 3) := by decide +kernel
theorem dX0_sumOfImage_18 : decode cX0_sumOfImage 18 = .ok (.iload_n 1, 1) := by decide +kernel
theorem dX0_sumOfImage_19 : decode cX0_sumOfImage 19 = .ok (.aload_n 0, 1) := by decide +kernel
theorem dX0_sumOfImage_20 : decode cX0_sumOfImage 20 = .ok (.getfield 15, 3) := by decide +kernel
theorem dX0_sumOfImage_23 : decode cX0_sumOfImage 23 = .ok (.iload_n 2, 1) := by decide +kernel
theorem dX0_sumOfImage_24 : decode cX0_sumOfImage 24 = .ok (.iaload, 1) := by decide +kernel
theorem dX0_sumOfImage_25 : decode cX0_sumOfImage 25 = .ok (.invokestatic 59, 3) := by decide +kernel
theorem dX0_sumOfImage_28 : decode cX0_sumOfImage 28 = .ok (.istore_n 1, 1) := by decide +kernel
theorem dX0_sumOfImage_29 : decode cX0_sumOfImage 29 = .ok (.iinc 2 1, 3) := by decide +kernel
theorem dX0_sumOfImage_32 : decode cX0_sumOfImage 32 = .ok (.goto (-28), 3) := by decide +kernel
theorem dX0_sumOfImage_35 : decode cX0_sumOfImage 35 = .ok (.iload_n 1, 1) := by decide +kernel
theorem dX0_sumOfImage_36 : decode cX0_sumOfImage 36 = .ok (.ireturn, 1) := by decide +kernel
theorem dX0_isSound_0 : decode cX0_isSound 0 = .ok (.aload_n 0, 1) := by decide +kernel
theorem dX0_isSound_1 : decode cX0_isSound 1 = .ok (.invokevirtual 51, 3) := by decide +kernel
theorem dX0_isSound_4 : decode cX0_isSound 4 = .ok (.aload_n 0, 1) := by decide +kernel
theorem dX0_isSound_5 : decode cX0_isSound 5 = .ok (.getfield 28, 3) := by decide +kernel
theorem dX0_isSound_8 : decode cX0_isSound 8 = .ok (.if_icmp .ne 7, 3) := by decide +kernel
theorem dX0_isSound_11 : decode cX0_isSound 11 = .ok (.iconst 1, 1) := by decide +kernel
theorem dX0_isSound_12 : decode cX0_isSound 12 = .ok (.goto 4, 3) := by decide +kernel
theorem dX0_isSound_15 : decode cX0_isSound 15 = .ok (.iconst 0, 1) := by decide +kernel
theorem dX0_isSound_16 : decode cX0_isSound 16 = .ok (.ireturn, 1) := by decide +kernel
theorem dX0_greatestWear_0 : decode cX0_greatestWear 0 = .ok (.iconst 0, 1) := by decide +kernel
theorem dX0_greatestWear_1 : decode cX0_greatestWear 1 = .ok (.istore_n 2, 1) := by decide +kernel
theorem dX0_greatestWear_2 : decode cX0_greatestWear 2 = .ok (.iconst 0, 1) := by decide +kernel
theorem dX0_greatestWear_3 : decode cX0_greatestWear 3 = .ok (.istore_n 3, 1) := by decide +kernel
theorem dX0_greatestWear_4 : decode cX0_greatestWear 4 = .ok (.iload_n 3, 1) := by decide +kernel
theorem dX0_greatestWear_5 : decode cX0_greatestWear 5 = .ok (.iload_n 1, 1) := by decide +kernel
theorem dX0_greatestWear_6 : decode cX0_greatestWear 6 = .ok (.if_icmp .ge 26, 3) := by decide +kernel
theorem dX0_greatestWear_9 : decode cX0_greatestWear 9 = .ok (.iload_n 3, 1) := by decide +kernel
theorem dX0_greatestWear_10 : decode cX0_greatestWear 10 = .ok (.bipush 8, 2) := by decide +kernel
theorem dX0_greatestWear_12 : decode cX0_greatestWear 12 = .ok (.if_icmp .ge 20, 3) := by decide +kernel
theorem dX0_greatestWear_15 : decode cX0_greatestWear 15 = .ok (.iload_n 2, 1) := by decide +kernel
theorem dX0_greatestWear_16 : decode cX0_greatestWear 16 = .ok (.aload_n 0, 1) := by decide +kernel
theorem dX0_greatestWear_17 : decode cX0_greatestWear 17 = .ok (.getfield 19, 3) := by decide +kernel
theorem dX0_greatestWear_20 : decode cX0_greatestWear 20 = .ok (.iload_n 3, 1) := by decide +kernel
theorem dX0_greatestWear_21 : decode cX0_greatestWear 21 = .ok (.iaload, 1) := by decide +kernel
theorem dX0_greatestWear_22 : decode cX0_greatestWear 22 = .ok (.invokestatic 63, 3) := by decide +kernel
theorem dX0_greatestWear_25 : decode cX0_greatestWear 25 = .ok (.istore_n 2, 1) := by decide +kernel
theorem dX0_greatestWear_26 : decode cX0_greatestWear 26 = .ok (.iinc 3 1, 3) := by decide +kernel
theorem dX0_greatestWear_29 : decode cX0_greatestWear 29 = .ok (.goto (-25), 3) := by decide +kernel
theorem dX0_greatestWear_32 : decode cX0_greatestWear 32 = .ok (.iload_n 2, 1) := by decide +kernel
theorem dX0_greatestWear_33 : decode cX0_greatestWear 33 = .ok (.ireturn, 1) := by decide +kernel
theorem dX0_wornOutPages_0 : decode cX0_wornOutPages 0 = .ok (.iconst 0, 1) := by decide +kernel
theorem dX0_wornOutPages_1 : decode cX0_wornOutPages 1 = .ok (.istore_n 2, 1) := by decide +kernel
theorem dX0_wornOutPages_2 : decode cX0_wornOutPages 2 = .ok (.iconst 0, 1) := by decide +kernel
theorem dX0_wornOutPages_3 : decode cX0_wornOutPages 3 = .ok (.istore_n 3, 1) := by decide +kernel
theorem dX0_wornOutPages_4 : decode cX0_wornOutPages 4 = .ok (.iload_n 3, 1) := by decide +kernel
theorem dX0_wornOutPages_5 : decode cX0_wornOutPages 5 = .ok (.bipush 8, 2) := by decide +kernel
theorem dX0_wornOutPages_7 : decode cX0_wornOutPages 7 = .ok (.if_icmp .ge 22, 3) := by decide +kernel
theorem dX0_wornOutPages_10 : decode cX0_wornOutPages 10 = .ok (.aload_n 0, 1) := by decide +kernel
theorem dX0_wornOutPages_11 : decode cX0_wornOutPages 11 = .ok (.getfield 19, 3) := by decide +kernel
theorem dX0_wornOutPages_14 : decode cX0_wornOutPages 14 = .ok (.iload_n 3, 1) := by decide +kernel
theorem dX0_wornOutPages_15 : decode cX0_wornOutPages 15 = .ok (.iaload, 1) := by decide +kernel
theorem dX0_wornOutPages_16 : decode cX0_wornOutPages 16 = .ok (.iload_n 1, 1) := by decide +kernel
theorem dX0_wornOutPages_17 : decode cX0_wornOutPages 17 = .ok (.if_icmp .lt 6, 3) := by decide +kernel
theorem dX0_wornOutPages_20 : decode cX0_wornOutPages 20 = .ok (.iinc 2 1, 3) := by decide +kernel
theorem dX0_wornOutPages_23 : decode cX0_wornOutPages 23 = .ok (.iinc 3 1, 3) := by decide +kernel
theorem dX0_wornOutPages_26 : decode cX0_wornOutPages 26 = .ok (.goto (-22), 3) := by decide +kernel
theorem dX0_wornOutPages_29 : decode cX0_wornOutPages 29 = .ok (.iload_n 2, 1) := by decide +kernel
theorem dX0_wornOutPages_30 : decode cX0_wornOutPages 30 = .ok (.ireturn, 1) := by decide +kernel
theorem dX0_loseFilling_0 : decode cX0_loseFilling 0 = .ok (.aload_n 0, 1) := by decide +kernel
theorem dX0_loseFilling_1 : decode cX0_loseFilling 1 = .ok (.getfield 9, 3) := by decide +kernel
theorem dX0_loseFilling_4 : decode cX0_loseFilling 4 = .ok (.iconst 1, 1) := by decide +kernel
theorem dX0_loseFilling_5 : decode cX0_loseFilling 5 = .ok (.if_icmp .ne 8, 3) := by decide +kernel
theorem dX0_loseFilling_8 : decode cX0_loseFilling 8 = .ok (.aload_n 0, 1) := by decide +kernel
theorem dX0_loseFilling_9 : decode cX0_loseFilling 9 = .ok (.iconst 0, 1) := by decide +kernel
theorem dX0_loseFilling_10 : decode cX0_loseFilling 10 = .ok (.putfield 9, 3) := by decide +kernel
theorem dX0_loseFilling_13 : decode cX0_loseFilling 13 = .ok (.return_, 1) := by decide +kernel
theorem dX0_giveUpTrial_0 : decode cX0_giveUpTrial 0 = .ok (.aload_n 0, 1) := by decide +kernel
theorem dX0_giveUpTrial_1 : decode cX0_giveUpTrial 1 = .ok (.getfield 9, 3) := by decide +kernel
theorem dX0_giveUpTrial_4 : decode cX0_giveUpTrial 4 = .ok (.iconst 2, 1) := by decide +kernel
theorem dX0_giveUpTrial_5 : decode cX0_giveUpTrial 5 = .ok (.if_icmp .ne 15, 3) := by decide +kernel
theorem dX0_giveUpTrial_8 : decode cX0_giveUpTrial 8 = .ok (.aload_n 0, 1) := by decide +kernel
theorem dX0_giveUpTrial_9 : decode cX0_giveUpTrial 9 = .ok (.getfield 31, 3) := by decide +kernel
theorem dX0_giveUpTrial_12 : decode cX0_giveUpTrial 12 = .ok (.ifCond .ne 8, 3) := by decide +kernel
theorem dX0_giveUpTrial_15 : decode cX0_giveUpTrial 15 = .ok (.aload_n 0, 1) := by decide +kernel
theorem dX0_giveUpTrial_16 : decode cX0_giveUpTrial 16 = .ok (.iconst 4, 1) := by decide +kernel
theorem dX0_giveUpTrial_17 : decode cX0_giveUpTrial 17 = .ok (.putfield 9, 3) := by decide +kernel
theorem dX0_giveUpTrial_20 : decode cX0_giveUpTrial 20 = .ok (.return_, 1) := by decide +kernel
theorem dX0_useTry_0 : decode cX0_useTry 0 = .ok (.aload_n 0, 1) := by decide +kernel
theorem dX0_useTry_1 : decode cX0_useTry 1 = .ok (.getfield 9, 3) := by decide +kernel
theorem dX0_useTry_4 : decode cX0_useTry 4 = .ok (.iconst 2, 1) := by decide +kernel
theorem dX0_useTry_5 : decode cX0_useTry 5 = .ok (.if_icmp .ne 13, 3) := by decide +kernel
theorem dX0_useTry_8 : decode cX0_useTry 8 = .ok (.aload_n 0, 1) := by decide +kernel
theorem dX0_useTry_9 : decode cX0_useTry 9 = .ok (.dup, 1) := by decide +kernel
theorem dX0_useTry_10 : decode cX0_useTry 10 = .ok (.getfield 31, 3) := by decide +kernel
theorem dX0_useTry_13 : decode cX0_useTry 13 = .ok (.iconst 1, 1) := by decide +kernel
theorem dX0_useTry_14 : decode cX0_useTry 14 = .ok (.isub, 1) := by decide +kernel
theorem dX0_useTry_15 : decode cX0_useTry 15 = .ok (.putfield 31, 3) := by decide +kernel
theorem dX0_useTry_18 : decode cX0_useTry 18 = .ok (.return_, 1) := by decide +kernel
theorem dX1_init_0 : decode cX1_init 0 = .ok (.aload_n 0, 1) := by decide +kernel
theorem dX1_init_1 : decode cX1_init 1 = .ok (.invokespecial 3, 3) := by decide +kernel
theorem dX1_init_4 : decode cX1_init 4 = .ok (.aload_n 0, 1) := by decide +kernel
theorem dX1_init_5 : decode cX1_init 5 = .ok (.iconst 3, 1) := by decide +kernel
theorem dX1_init_6 : decode cX1_init 6 = .ok (.newarray .int, 2) := by decide +kernel
theorem dX1_init_8 : decode cX1_init 8 = .ok (.dup, 1) := by decide +kernel
theorem dX1_init_9 : decode cX1_init 9 = .ok (.iconst 0, 1) := by decide +kernel
theorem dX1_init_10 : decode cX1_init 10 = .ok (.iconst 3, 1) := by decide +kernel
theorem dX1_init_11 : decode cX1_init 11 = .ok (.iastore, 1) := by decide +kernel
theorem dX1_init_12 : decode cX1_init 12 = .ok (.dup, 1) := by decide +kernel
theorem dX1_init_13 : decode cX1_init 13 = .ok (.iconst 1, 1) := by decide +kernel
theorem dX1_init_14 : decode cX1_init 14 = .ok (.bipush 10, 2) := by decide +kernel
theorem dX1_init_16 : decode cX1_init 16 = .ok (.iastore, 1) := by decide +kernel
theorem dX1_init_17 : decode cX1_init 17 = .ok (.dup, 1) := by decide +kernel
theorem dX1_init_18 : decode cX1_init 18 = .ok (.iconst 2, 1) := by decide +kernel
theorem dX1_init_19 : decode cX1_init 19 = .ok (.bipush 20, 2) := by decide +kernel
theorem dX1_init_21 : decode cX1_init 21 = .ok (.iastore, 1) := by decide +kernel
theorem dX1_init_22 : decode cX1_init 22 = .ok (.putfield 9, 3) := by decide +kernel
theorem dX1_init_25 : decode cX1_init 25 = .ok (.aload_n 0, 1) := by decide +kernel
theorem dX1_init_26 : decode cX1_init 26 = .ok (.new 15, 3) := by decide +kernel
theorem dX1_init_29 : decode cX1_init 29 = .ok (.dup, 1) := by decide +kernel
theorem dX1_init_30 : decode cX1_init 30 = .ok (.invokespecial 17, 3) := by decide +kernel
theorem dX1_init_33 : decode cX1_init 33 = .ok (.putfield 18, 3) := by decide +kernel
theorem dX1_init_36 : decode cX1_init 36 = .ok (.aload_n 0, 1) := by decide +kernel
theorem dX1_init_37 : decode cX1_init 37 = .ok (.new 15, 3) := by decide +kernel
theorem dX1_init_40 : decode cX1_init 40 = .ok (.dup, 1) := by decide +kernel
theorem dX1_init_41 : decode cX1_init 41 = .ok (.invokespecial 17, 3) := by decide +kernel
theorem dX1_init_44 : decode cX1_init 44 = .ok (.putfield 22, 3) := by decide +kernel
theorem dX1_init_47 : decode cX1_init 47 = .ok (.aload_n 0, 1) := by decide +kernel
theorem dX1_init_48 : decode cX1_init 48 = .ok (.new 15, 3) := by decide +kernel
theorem dX1_init_51 : decode cX1_init 51 = .ok (.dup, 1) := by decide +kernel
theorem dX1_init_52 : decode cX1_init 52 = .ok (.invokespecial 17, 3) := by decide +kernel
theorem dX1_init_55 : decode cX1_init 55 = .ok (.putfield 25, 3) := by decide +kernel
theorem dX1_init_58 : decode cX1_init 58 = .ok (.aload_n 0, 1) := by decide +kernel
theorem dX1_init_59 : decode cX1_init 59 = .ok (.new 28, 3) := by decide +kernel
theorem dX1_init_62 : decode cX1_init 62 = .ok (.dup, 1) := by decide +kernel
theorem dX1_init_63 : decode cX1_init 63 = .ok (.invokespecial 30, 3) := by decide +kernel
theorem dX1_init_66 : decode cX1_init 66 = .ok (.putfield 31, 3) := by decide +kernel
theorem dX1_init_69 : decode cX1_init 69 = .ok (.aload_n 0, 1) := by decide +kernel
theorem dX1_init_70 : decode cX1_init 70 = .ok (.iconst 2, 1) := by decide +kernel
theorem dX1_init_71 : decode cX1_init 71 = .ok (.putfield 35, 3) := by decide +kernel
theorem dX1_init_74 : decode cX1_init 74 = .ok (.aload_n 0, 1) := by decide +kernel
theorem dX1_init_75 : decode cX1_init 75 = .ok (.getfield 25, 3) := by decide +kernel
theorem dX1_init_78 : decode cX1_init 78 = .ok (.invokevirtual 39, 3) := by decide +kernel
theorem dX1_init_81 : decode cX1_init 81 = .ok (.return_, 1) := by decide +kernel
theorem dX1_copyFrom_0 : decode cX1_copyFrom 0 = .ok (.aload_n 1, 1) := by decide +kernel
theorem dX1_copyFrom_1 : decode cX1_copyFrom 1 = .ok (.getfield 9, 3) := by decide +kernel
theorem dX1_copyFrom_4 : decode cX1_copyFrom 4 = .ok (.iconst 0, 1) := by decide +kernel
theorem dX1_copyFrom_5 : decode cX1_copyFrom 5 = .ok (.aload_n 0, 1) := by decide +kernel
theorem dX1_copyFrom_6 : decode cX1_copyFrom 6 = .ok (.getfield 9, 3) := by decide +kernel
theorem dX1_copyFrom_9 : decode cX1_copyFrom 9 = .ok (.iconst 0, 1) := by decide +kernel
theorem dX1_copyFrom_10 : decode cX1_copyFrom 10 = .ok (.iconst 3, 1) := by decide +kernel
theorem dX1_copyFrom_11 : decode cX1_copyFrom 11 = .ok (.invokestatic 42, 3) := by decide +kernel
theorem dX1_copyFrom_14 : decode cX1_copyFrom 14 = .ok (.aload_n 0, 1) := by decide +kernel
theorem dX1_copyFrom_15 : decode cX1_copyFrom 15 = .ok (.getfield 18, 3) := by decide +kernel
theorem dX1_copyFrom_18 : decode cX1_copyFrom 18 = .ok (.aload_n 1, 1) := by decide +kernel
theorem dX1_copyFrom_19 : decode cX1_copyFrom 19 = .ok (.getfield 18, 3) := by decide +kernel
theorem dX1_copyFrom_22 : decode cX1_copyFrom 22 = .ok (.invokevirtual 48, 3) := by decide +kernel
theorem dX1_copyFrom_25 : decode cX1_copyFrom 25 = .ok (.aload_n 0, 1) := by decide +kernel
theorem dX1_copyFrom_26 : decode cX1_copyFrom 26 = .ok (.getfield 22, 3) := by decide +kernel
theorem dX1_copyFrom_29 : decode cX1_copyFrom 29 = .ok (.aload_n 1, 1) := by decide +kernel
theorem dX1_copyFrom_30 : decode cX1_copyFrom 30 = .ok (.getfield 22, 3) := by decide +kernel
theorem dX1_copyFrom_33 : decode cX1_copyFrom 33 = .ok (.invokevirtual 48, 3) := by decide +kernel
theorem dX1_copyFrom_36 : decode cX1_copyFrom 36 = .ok (.aload_n 0, 1) := by decide +kernel
theorem dX1_copyFrom_37 : decode cX1_copyFrom 37 = .ok (.getfield 31, 3) := by decide +kernel
theorem dX1_copyFrom_40 : decode cX1_copyFrom 40 = .ok (.aload_n 1, 1) := by decide +kernel
theorem dX1_copyFrom_41 : decode cX1_copyFrom 41 = .ok (.getfield 31, 3) := by decide +kernel
theorem dX1_copyFrom_44 : decode cX1_copyFrom 44 = .ok (.invokevirtual 52, 3) := by decide +kernel
theorem dX1_copyFrom_47 : decode cX1_copyFrom 47 = .ok (.aload_n 0, 1) := by decide +kernel
theorem dX1_copyFrom_48 : decode cX1_copyFrom 48 = .ok (.aload_n 1, 1) := by decide +kernel
theorem dX1_copyFrom_49 : decode cX1_copyFrom 49 = .ok (.getfield 35, 3) := by decide +kernel
theorem dX1_copyFrom_52 : decode cX1_copyFrom 52 = .ok (.putfield 35, 3) := by decide +kernel
theorem dX1_copyFrom_55 : decode cX1_copyFrom 55 = .ok (.aload_n 0, 1) := by decide +kernel
theorem dX1_copyFrom_56 : decode cX1_copyFrom 56 = .ok (.aload_n 1, 1) := by decide +kernel
theorem dX1_copyFrom_57 : decode cX1_copyFrom 57 = .ok (.getfield 55, 3) := by decide +kernel
theorem dX1_copyFrom_60 : decode cX1_copyFrom 60 = .ok (.putfield 55, 3) := by decide +kernel
theorem dX1_copyFrom_63 : decode cX1_copyFrom 63 = .ok (.aload_n 0, 1) := by decide +kernel
theorem dX1_copyFrom_64 : decode cX1_copyFrom 64 = .ok (.aload_n 1, 1) := by decide +kernel
theorem dX1_copyFrom_65 : decode cX1_copyFrom 65 = .ok (.getfield 58, 3) := by decide +kernel
theorem dX1_copyFrom_68 : decode cX1_copyFrom 68 = .ok (.putfield 58, 3) := by decide +kernel
theorem dX1_copyFrom_71 : decode cX1_copyFrom 71 = .ok (.aload_n 0, 1) := by decide +kernel
theorem dX1_copyFrom_72 : decode cX1_copyFrom 72 = .ok (.aload_n 1, 1) := by decide +kernel
theorem dX1_copyFrom_73 : decode cX1_copyFrom 73 = .ok (.getfield 61, 3) := by decide +kernel
theorem dX1_copyFrom_76 : decode cX1_copyFrom 76 = .ok (.putfield 61, 3) := by decide +kernel
theorem dX1_copyFrom_79 : decode cX1_copyFrom 79 = .ok (.aload_n 0, 1) := by decide +kernel
theorem dX1_copyFrom_80 : decode cX1_copyFrom 80 = .ok (.aload_n 1, 1) := by decide +kernel
theorem dX1_copyFrom_81 : decode cX1_copyFrom 81 = .ok (.getfield 64, 3) := by decide +kernel
theorem dX1_copyFrom_84 : decode cX1_copyFrom 84 = .ok (.putfield 64, 3) := by decide +kernel
theorem dX1_copyFrom_87 : decode cX1_copyFrom 87 = .ok (.return_, 1) := by decide +kernel
theorem dX1_areaAt_0 : decode cX1_areaAt 0 = .ok (.iload_n 1, 1) := by decide +kernel
theorem dX1_areaAt_1 : decode cX1_areaAt 1 = .ok (.ifCond .ne 8, 3) := by decide +kernel
theorem dX1_areaAt_4 : decode cX1_areaAt 4 = .ok (.aload_n 0, 1) := by decide +kernel
theorem dX1_areaAt_5 : decode cX1_areaAt 5 = .ok (.getfield 18, 3) := by decide +kernel
theorem dX1_areaAt_8 : decode cX1_areaAt 8 = .ok (.areturn, 1) := by decide +kernel
theorem dX1_areaAt_9 : decode cX1_areaAt 9 = .ok (.iload_n 1, 1) := by decide +kernel
theorem dX1_areaAt_10 : decode cX1_areaAt 10 = .ok (.iconst 1, 1) := by decide +kernel
theorem dX1_areaAt_11 : decode cX1_areaAt 11 = .ok (.if_icmp .ne 10, 3) := by decide +kernel
theorem dX1_areaAt_14 : decode cX1_areaAt 14 = .ok (.aload_n 0, 1) := by decide +kernel
theorem dX1_areaAt_15 : decode cX1_areaAt 15 = .ok (.getfield 22, 3) := by decide +kernel
theorem dX1_areaAt_18 : decode cX1_areaAt 18 = .ok (.goto 7, 3) := by decide +kernel
theorem dX1_areaAt_21 : decode cX1_areaAt 21 = .ok (.aload_n 0, 1) := by decide +kernel
theorem dX1_areaAt_22 : decode cX1_areaAt 22 = .ok (.getfield 25, 3) := by decide +kernel
theorem dX1_areaAt_25 : decode cX1_areaAt 25 = .ok (.areturn, 1) := by decide +kernel
theorem dX1_badSlots_0 : decode cX1_badSlots 0 = .ok (.aload_n 0, 1) := by decide +kernel
theorem dX1_badSlots_1 : decode cX1_badSlots 1 = .ok (.getfield 18, 3) := by decide +kernel
theorem dX1_badSlots_4 : decode cX1_badSlots 4 = .ok (.getfield 67, 3) := by decide +kernel
theorem dX1_badSlots_7 : decode cX1_badSlots 7 = .ok (.iconst 4, 1) := by decide +kernel
theorem dX1_badSlots_8 : decode cX1_badSlots 8 = .ok (.if_icmp .ne 7, 3) := by decide +kernel
theorem dX1_badSlots_11 : decode cX1_badSlots 11 = .ok (.iconst 1, 1) := by decide +kernel
theorem dX1_badSlots_12 : decode cX1_badSlots 12 = .ok (.goto 4, 3) := by decide +kernel
theorem dX1_badSlots_15 : decode cX1_badSlots 15 = .ok (.iconst 0, 1) := by decide +kernel
theorem dX1_badSlots_16 : decode cX1_badSlots 16 = .ok (.aload_n 0, 1) := by decide +kernel
theorem dX1_badSlots_17 : decode cX1_badSlots 17 = .ok (.getfield 22, 3) := by decide +kernel
theorem dX1_badSlots_20 : decode cX1_badSlots 20 = .ok (.getfield 67, 3) := by decide +kernel
theorem dX1_badSlots_23 : decode cX1_badSlots 23 = .ok (.iconst 4, 1) := by decide +kernel
theorem dX1_badSlots_24 : decode cX1_badSlots 24 = .ok (.if_icmp .ne 7, 3) := by decide +kernel
theorem dX1_badSlots_27 : decode cX1_badSlots 27 = .ok (.iconst 1, 1) := by decide +kernel
theorem dX1_badSlots_28 : decode cX1_badSlots 28 = .ok (.goto 4, 3) := by decide +kernel
theorem dX1_badSlots_31 : decode cX1_badSlots 31 = .ok (.iconst 0, 1) := by decide +kernel
theorem dX1_badSlots_32 : decode cX1_badSlots 32 = .ok (.iadd, 1) := by decide +kernel
theorem dX1_badSlots_33 : decode cX1_badSlots 33 = .ok (.ireturn, 1) := by decide +kernel
theorem dX1_beginsLeft_0 : decode cX1_beginsLeft 0 = .ok (.iconst 0, 1) := by decide +kernel
theorem dX1_beginsLeft_1 : decode cX1_beginsLeft 1 = .ok (.aload_n 0, 1) := by decide +kernel
theorem dX1_beginsLeft_2 : decode cX1_beginsLeft 2 = .ok (.getfield 9, 3) := by decide +kernel
theorem dX1_beginsLeft_5 : decode cX1_beginsLeft 5 = .ok (.iconst 2, 1) := by decide +kernel
theorem dX1_beginsLeft_6 : decode cX1_beginsLeft 6 = .ok (.iaload, 1) := by decide +kernel
theorem dX1_beginsLeft_7 : decode cX1_beginsLeft 7 = .ok (.aload_n 0, 1) := by decide +kernel
theorem dX1_beginsLeft_8 : decode cX1_beginsLeft 8 = .ok (.iload_n 1, 1) := by decide +kernel
theorem dX1_beginsLeft_9 : decode cX1_beginsLeft 9 = .ok (.invokevirtual 70, 3) := by decide +kernel
theorem dX1_beginsLeft_12 : decode cX1_beginsLeft 12 = .ok (.iload_n 2, 1) := by decide +kernel
theorem dX1_beginsLeft_13 : decode cX1_beginsLeft 13 = .ok (.invokevirtual 74, 3) := by decide +kernel
theorem dX1_beginsLeft_16 : decode cX1_beginsLeft 16 = .ok (.isub, 1) := by decide +kernel
theorem dX1_beginsLeft_17 : decode cX1_beginsLeft 17 = .ok (.invokestatic 78, 3) := by decide +kernel
theorem dX1_beginsLeft_20 : decode cX1_beginsLeft 20 = .ok (.ireturn, 1) := by decide +kernel
theorem dX1_startBy_0 : decode cX1_startBy 0 = .ok (.iload_n 1, 1) := by decide +kernel
theorem dX1_startBy_1 : decode cX1_startBy 1 = .ok (.iconst 2, 1) := by decide +kernel
theorem dX1_startBy_2 : decode cX1_startBy 2 = .ok (.if_icmp .ne 17, 3) := by decide +kernel
theorem dX1_startBy_5 : decode cX1_startBy 5 = .ok (.aload_n 0, 1) := by decide +kernel
theorem dX1_startBy_6 : decode cX1_startBy 6 = .ok (.getfield 18, 3) := by decide +kernel
theorem dX1_startBy_9 : decode cX1_startBy 9 = .ok (.invokevirtual 84, 3) := by decide +kernel
theorem dX1_startBy_12 : decode cX1_startBy 12 = .ok (.aload_n 0, 1) := by decide +kernel
theorem dX1_startBy_13 : decode cX1_startBy 13 = .ok (.getfield 22, 3) := by decide +kernel
theorem dX1_startBy_16 : decode cX1_startBy 16 = .ok (.invokevirtual 84, 3) := by decide +kernel
theorem dX1_startBy_19 : decode cX1_startBy 19 = .ok (.aload_n 0, 1) := by decide +kernel
theorem dX1_startBy_20 : decode cX1_startBy 20 = .ok (.getfield 18, 3) := by decide +kernel
theorem dX1_startBy_23 : decode cX1_startBy 23 = .ok (.invokevirtual 87, 3) := by decide +kernel
theorem dX1_startBy_26 : decode cX1_startBy 26 = .ok (.aload_n 0, 1) := by decide +kernel
theorem dX1_startBy_27 : decode cX1_startBy 27 = .ok (.getfield 22, 3) := by decide +kernel
theorem dX1_startBy_30 : decode cX1_startBy 30 = .ok (.invokevirtual 87, 3) := by decide +kernel
theorem dX1_startBy_33 : decode cX1_startBy 33 = .ok (.aload_n 0, 1) := by decide +kernel
theorem dX1_startBy_34 : decode cX1_startBy 34 = .ok (.aload_n 0, 1) := by decide +kernel
theorem dX1_startBy_35 : decode cX1_startBy 35 = .ok (.invokevirtual 90, 3) := by decide +kernel
theorem dX1_startBy_38 : decode cX1_startBy 38 = .ok (.putfield 35, 3) := by decide +kernel
theorem dX1_startBy_41 : decode cX1_startBy 41 = .ok (.aload_n 0, 1) := by decide +kernel
theorem dX1_startBy_42 : decode cX1_startBy 42 = .ok (.aload_n 0, 1) := by decide +kernel
theorem dX1_startBy_43 : decode cX1_startBy 43 = .ok (.getfield 35, 3) := by decide +kernel
theorem dX1_startBy_46 : decode cX1_startBy 46 = .ok (.invokevirtual 70, 3) := by decide +kernel
theorem dX1_startBy_49 : decode cX1_startBy 49 = .ok (.invokevirtual 94, 3) := by decide +kernel
theorem dX1_startBy_52 : decode cX1_startBy 52 = .ok (.aload_n 0, 1) := by decide +kernel
theorem dX1_startBy_53 : decode cX1_startBy 53 = .ok (.iconst 0, 1) := by decide +kernel
theorem dX1_startBy_54 : decode cX1_startBy 54 = .ok (.putfield 55, 3) := by decide +kernel
theorem dX1_startBy_57 : decode cX1_startBy 57 = .ok (.aload_n 0, 1) := by decide +kernel
theorem dX1_startBy_58 : decode cX1_startBy 58 = .ok (.iconst 0, 1) := by decide +kernel
theorem dX1_startBy_59 : decode cX1_startBy 59 = .ok (.putfield 58, 3) := by decide +kernel
theorem dX1_startBy_62 : decode cX1_startBy 62 = .ok (.aload_n 0, 1) := by decide +kernel
theorem dX1_startBy_63 : decode cX1_startBy 63 = .ok (.getfield 31, 3) := by decide +kernel
theorem dX1_startBy_66 : decode cX1_startBy 66 = .ok (.aload_n 0, 1) := by decide +kernel
theorem dX1_startBy_67 : decode cX1_startBy 67 = .ok (.getfield 35, 3) := by decide +kernel
theorem dX1_startBy_70 : decode cX1_startBy 70 = .ok (.iload_n 1, 1) := by decide +kernel
theorem dX1_startBy_71 : decode cX1_startBy 71 = .ok (.aload_n 0, 1) := by decide +kernel
theorem dX1_startBy_72 : decode cX1_startBy 72 = .ok (.getfield 64, 3) := by decide +kernel
theorem dX1_startBy_75 : decode cX1_startBy 75 = .ok (.invokevirtual 97, 3) := by decide +kernel
theorem dX1_startBy_78 : decode cX1_startBy 78 = .ok (.return_, 1) := by decide +kernel
theorem dX1_soundArea_0 : decode cX1_soundArea 0 = .ok (.iconst 0, 1) := by decide +kernel
theorem dX1_soundArea_1 : decode cX1_soundArea 1 = .ok (.istore_n 1, 1) := by decide +kernel
theorem dX1_soundArea_2 : decode cX1_soundArea 2 = .ok (.iload_n 1, 1) := by decide +kernel
theorem dX1_soundArea_3 : decode cX1_soundArea 3 = .ok (.iconst 2, 1) := by decide +kernel
theorem dX1_soundArea_4 : decode cX1_soundArea 4 = .ok (.if_icmp .ge 36, 3) := by decide +kernel
theorem dX1_soundArea_7 : decode cX1_soundArea 7 = .ok (.aload_n 0, 1) := by decide +kernel
theorem dX1_soundArea_8 : decode cX1_soundArea 8 = .ok (.invokevirtual 101, 3) := by decide +kernel
theorem dX1_soundArea_11 : decode cX1_soundArea 11 = .ok (.istore_n 2, 1) := by decide +kernel
theorem dX1_soundArea_12 : decode cX1_soundArea 12 = .ok (.aload_n 0, 1) := by decide +kernel
theorem dX1_soundArea_13 : decode cX1_soundArea 13 = .ok (.iload_n 2, 1) := by decide +kernel
theorem dX1_soundArea_14 : decode cX1_soundArea 14 = .ok (.invokevirtual 70, 3) := by decide +kernel
theorem dX1_soundArea_17 : decode cX1_soundArea 17 = .ok (.invokevirtual 104, 3) := by decide +kernel
theorem dX1_soundArea_20 : decode cX1_soundArea 20 = .ok (.ifCond .eq 5, 3) := by decide +kernel
theorem dX1_soundArea_23 : decode cX1_soundArea 23 = .ok (.iload_n 2, 1) := by decide +kernel
theorem dX1_soundArea_24 : decode cX1_soundArea 24 = .ok (.ireturn, 1) := by decide +kernel
theorem dX1_soundArea_25 : decode cX1_soundArea 25 = .ok (.aload_n 0, 1) := by decide +kernel
theorem dX1_soundArea_26 : decode cX1_soundArea 26 = .ok (.iload_n 2, 1) := by decide +kernel
theorem dX1_soundArea_27 : decode cX1_soundArea 27 = .ok (.invokevirtual 70, 3) := by decide +kernel
theorem dX1_soundArea_30 : decode cX1_soundArea 30 = .ok (.iconst 4, 1) := by decide +kernel
theorem dX1_soundArea_31 : decode cX1_soundArea 31 = .ok (.putfield 67, 3) := by decide +kernel
theorem dX1_soundArea_34 : decode cX1_soundArea 34 = .ok (.iinc 1 1, 3) := by decide +kernel
theorem dX1_soundArea_37 : decode cX1_soundArea 37 = .ok (.goto (-35), 3) := by decide +kernel
theorem dX1_soundArea_40 : decode cX1_soundArea 40 = .ok (.iconst 2, 1) := by decide +kernel
theorem dX1_soundArea_41 : decode cX1_soundArea 41 = .ok (.ireturn, 1) := by decide +kernel
theorem dX1_bestArea_0 : decode cX1_bestArea 0 = .ok (.aload_n 0, 1) := by decide +kernel
theorem dX1_bestArea_1 : decode cX1_bestArea 1 = .ok (.iconst 2, 1) := by decide +kernel
theorem dX1_bestArea_2 : decode cX1_bestArea 2 = .ok (.invokevirtual 108, 3) := by decide +kernel
theorem dX1_bestArea_5 : decode cX1_bestArea 5 = .ok (.istore_n 1, 1) := by decide +kernel
theorem dX1_bestArea_6 : decode cX1_bestArea 6 = .ok (.iload_n 1, 1) := by decide +kernel
theorem dX1_bestArea_7 : decode cX1_bestArea 7 = .ok (.iconst 2, 1) := by decide +kernel
theorem dX1_bestArea_8 : decode cX1_bestArea 8 = .ok (.if_icmp .eq 7, 3) := by decide +kernel
theorem dX1_bestArea_11 : decode cX1_bestArea 11 = .ok (.iload_n 1, 1) := by decide +kernel
theorem dX1_bestArea_12 : decode cX1_bestArea 12 = .ok (.goto 8, 3) := by decide +kernel
theorem dX1_bestArea_15 : decode cX1_bestArea 15 = .ok (.aload_n 0, 1) := by decide +kernel
theorem dX1_bestArea_16 : decode cX1_bestArea 16 = .ok (.iconst 3, 1) := by decide +kernel
theorem dX1_bestArea_17 : decode cX1_bestArea 17 = .ok (.invokevirtual 108, 3) := by decide +kernel
theorem dX1_bestArea_20 : decode cX1_bestArea 20 = .ok (.ireturn, 1) := by decide +kernel
theorem dX1_newestThatIs_0 : decode cX1_newestThatIs 0 = .ok (.aload_n 0, 1) := by decide +kernel
theorem dX1_newestThatIs_1 : decode cX1_newestThatIs 1 = .ok (.getfield 22, 3) := by decide +kernel
theorem dX1_newestThatIs_4 : decode cX1_newestThatIs 4 = .ok (.getfield 67, 3) := by decide +kernel
theorem dX1_newestThatIs_7 : decode cX1_newestThatIs 7 = .ok (.iload_n 1, 1) := by decide +kernel
theorem dX1_newestThatIs_8 : decode cX1_newestThatIs 8 = .ok (.if_icmp .ne 33, 3) := by decide +kernel
theorem dX1_newestThatIs_11 : decode cX1_newestThatIs 11 = .ok (.aload_n 0, 1) := by decide +kernel
theorem dX1_newestThatIs_12 : decode cX1_newestThatIs 12 = .ok (.getfield 18, 3) := by decide +kernel
theorem dX1_newestThatIs_15 : decode cX1_newestThatIs 15 = .ok (.getfield 67, 3) := by decide +kernel
theorem dX1_newestThatIs_18 : decode cX1_newestThatIs 18 = .ok (.iload_n 1, 1) := by decide +kernel
theorem dX1_newestThatIs_19 : decode cX1_newestThatIs 19 = .ok (.if_icmp .ne 20, 3) := by decide +kernel
theorem dX1_newestThatIs_22 : decode cX1_newestThatIs 22 = .ok (.aload_n 0, 1) := by decide +kernel
theorem dX1_newestThatIs_23 : decode cX1_newestThatIs 23 = .ok (.getfield 22, 3) := by decide +kernel
theorem dX1_newestThatIs_26 : decode cX1_newestThatIs 26 = .ok (.getfield 111, 3) := by decide +kernel
theorem dX1_newestThatIs_29 : decode cX1_newestThatIs 29 = .ok (.aload_n 0, 1) := by decide +kernel
theorem dX1_newestThatIs_30 : decode cX1_newestThatIs 30 = .ok (.getfield 18, 3) := by decide +kernel
theorem dX1_newestThatIs_33 : decode cX1_newestThatIs 33 = .ok (.getfield 111, 3) := by decide +kernel
theorem dX1_newestThatIs_36 : decode cX1_newestThatIs 36 = .ok (.if_icmp .le 5, 3) := by decide +kernel
theorem dX1_newestThatIs_39 : decode cX1_newestThatIs 39 = .ok (.iconst 1, 1) := by decide +kernel
theorem dX1_newestThatIs_40 : decode cX1_newestThatIs 40 = .ok (.ireturn, 1) := by decide +kernel
theorem dX1_newestThatIs_41 : decode cX1_newestThatIs 41 = .ok (.aload_n 0, 1) := by decide +kernel
theorem dX1_newestThatIs_42 : decode cX1_newestThatIs 42 = .ok (.getfield 18, 3) := by decide +kernel
theorem dX1_newestThatIs_45 : decode cX1_newestThatIs 45 = .ok (.getfield 67, 3) := by decide +kernel
theorem dX1_newestThatIs_48 : decode cX1_newestThatIs 48 = .ok (.iload_n 1, 1) := by decide +kernel
theorem dX1_newestThatIs_49 : decode cX1_newestThatIs 49 = .ok (.if_icmp .ne 7, 3) := by decide +kernel
theorem dX1_newestThatIs_52 : decode cX1_newestThatIs 52 = .ok (.iconst 0, 1) := by decide +kernel
theorem dX1_newestThatIs_53 : decode cX1_newestThatIs 53 = .ok (.goto 4, 3) := by decide +kernel
theorem dX1_newestThatIs_56 : decode cX1_newestThatIs 56 = .ok (.iconst 2, 1) := by decide +kernel
theorem dX1_newestThatIs_57 : decode cX1_newestThatIs 57 = .ok (.ireturn, 1) := by decide +kernel
theorem dX1_letPass_0 : decode cX1_letPass 0 = .ok (.iconst 0, 1) := by decide +kernel
theorem dX1_letPass_1 : decode cX1_letPass 1 = .ok (.istore_n 2, 1) := by decide +kernel
theorem dX1_letPass_2 : decode cX1_letPass 2 = .ok (.iconst 0, 1) := by decide +kernel
theorem dX1_letPass_3 : decode cX1_letPass 3 = .ok (.istore_n 3, 1) := by decide +kernel
theorem dX1_letPass_4 : decode cX1_letPass 4 = .ok (.iload_n 3, 1) := by decide +kernel
theorem dX1_letPass_5 : decode cX1_letPass 5 = .ok (.iload_n 1, 1) := by decide +kernel
theorem dX1_letPass_6 : decode cX1_letPass 6 = .ok (.if_icmp .ge 19, 3) := by decide +kernel
theorem dX1_letPass_9 : decode cX1_letPass 9 = .ok (.aload_n 0, 1) := by decide +kernel
theorem dX1_letPass_10 : decode cX1_letPass 10 = .ok (.invokevirtual 114, 3) := by decide +kernel
theorem dX1_letPass_13 : decode cX1_letPass 13 = .ok (.ifCond .eq 6, 3) := by decide +kernel
theorem dX1_letPass_16 : decode cX1_letPass 16 = .ok (.iinc 2 1, 3) := by decide +kernel
theorem dX1_letPass_19 : decode cX1_letPass 19 = .ok (.iinc 3 1, 3) := by decide +kernel
theorem dX1_letPass_22 : decode cX1_letPass 22 = .ok (.goto (-18), 3) := by decide +kernel
theorem dX1_letPass_25 : decode cX1_letPass 25 = .ok (.iload_n 2, 1) := by decide +kernel
theorem dX1_letPass_26 : decode cX1_letPass 26 = .ok (.ireturn, 1) := by decide +kernel
theorem dX1_startsInTick_0 : decode cX1_startsInTick 0 = .ok (.aload_n 0, 1) := by decide +kernel
theorem dX1_startsInTick_1 : decode cX1_startsInTick 1 = .ok (.aload_n 0, 1) := by decide +kernel
theorem dX1_startsInTick_2 : decode cX1_startsInTick 2 = .ok (.getfield 35, 3) := by decide +kernel
theorem dX1_startsInTick_5 : decode cX1_startsInTick 5 = .ok (.invokevirtual 70, 3) := by decide +kernel
theorem dX1_startsInTick_8 : decode cX1_startsInTick 8 = .ok (.astore_n 1, 1) := by decide +kernel
theorem dX1_startsInTick_9 : decode cX1_startsInTick 9 = .ok (.aload_n 0, 1) := by decide +kernel
theorem dX1_startsInTick_10 : decode cX1_startsInTick 10 = .ok (.dup, 1) := by decide +kernel
theorem dX1_startsInTick_11 : decode cX1_startsInTick 11 = .ok (.getfield 55, 3) := by decide +kernel
theorem dX1_startsInTick_14 : decode cX1_startsInTick 14 = .ok (.iconst 1, 1) := by decide +kernel
theorem dX1_startsInTick_15 : decode cX1_startsInTick 15 = .ok (.iadd, 1) := by decide +kernel
theorem dX1_startsInTick_16 : decode cX1_startsInTick 16 = .ok (.putfield 55, 3) := by decide +kernel
theorem dX1_startsInTick_19 : decode cX1_startsInTick 19 = .ok (.aload_n 0, 1) := by decide +kernel
theorem dX1_startsInTick_20 : decode cX1_startsInTick 20 = .ok (.dup, 1) := by decide +kernel
theorem dX1_startsInTick_21 : decode cX1_startsInTick 21 = .ok (.getfield 64, 3) := by decide +kernel
theorem dX1_startsInTick_24 : decode cX1_startsInTick 24 = .ok (.iconst 1, 1) := by decide +kernel
theorem dX1_startsInTick_25 : decode cX1_startsInTick 25 = .ok (.iadd, 1) := by decide +kernel
theorem dX1_startsInTick_26 : decode cX1_startsInTick 26 = .ok (.putfield 64, 3) := by decide +kernel
theorem dX1_startsInTick_29 : decode cX1_startsInTick 29 = .ok (.aload_n 0, 1) := by decide +kernel
theorem dX1_startsInTick_30 : decode cX1_startsInTick 30 = .ok (.getfield 58, 3) := by decide +kernel
theorem dX1_startsInTick_33 : decode cX1_startsInTick 33 = .ok (.ifCond .gt 16, 3) := by decide +kernel
theorem dX1_startsInTick_36 : decode cX1_startsInTick 36 = .ok (.aload_n 1, 1) := by decide +kernel
theorem dX1_startsInTick_37 : decode cX1_startsInTick 37 = .ok (.getfield 117, 3) := by decide +kernel
theorem dX1_startsInTick_40 : decode cX1_startsInTick 40 = .ok (.iconst 0, 1) := by decide +kernel
theorem dX1_startsInTick_41 : decode cX1_startsInTick 41 = .ok (.iaload, 1) := by decide +kernel
theorem dX1_startsInTick_42 : decode cX1_startsInTick 42 = .ok (.aload_n 0, 1) := by decide +kernel
theorem dX1_startsInTick_43 : decode cX1_startsInTick 43 = .ok (.getfield 55, 3) := by decide +kernel
theorem dX1_startsInTick_46 : decode cX1_startsInTick 46 = .ok (.if_icmp .ne 13, 3) := by decide +kernel
theorem dX1_startsInTick_49 : decode cX1_startsInTick 49 = .ok (.aload_n 0, 1) := by decide +kernel
theorem dX1_startsInTick_50 : decode cX1_startsInTick 50 = .ok (.dup, 1) := by decide +kernel
theorem dX1_startsInTick_51 : decode cX1_startsInTick 51 = .ok (.getfield 58, 3) := by decide +kernel
theorem dX1_startsInTick_54 : decode cX1_startsInTick 54 = .ok (.iconst 1, 1) := by decide +kernel
theorem dX1_startsInTick_55 : decode cX1_startsInTick 55 = .ok (.iadd, 1) := by decide +kernel
theorem dX1_startsInTick_56 : decode cX1_startsInTick 56 = .ok (.putfield 58, 3) := by decide +kernel
theorem dX1_startsInTick_59 : decode cX1_startsInTick 59 = .ok (.aload_n 0, 1) := by decide +kernel
theorem dX1_startsInTick_60 : decode cX1_startsInTick 60 = .ok (.getfield 58, 3) := by decide +kernel
theorem dX1_startsInTick_63 : decode cX1_startsInTick 63 = .ok (.ifCond .ne 44, 3) := by decide +kernel
theorem dX1_startsInTick_66 : decode cX1_startsInTick 66 = .ok (.aload_n 1, 1) := by decide +kernel
theorem dX1_startsInTick_67 : decode cX1_startsInTick 67 = .ok (.getfield 117, 3) := by decide +kernel
theorem dX1_startsInTick_70 : decode cX1_startsInTick 70 = .ok (.iconst 1, 1) := by decide +kernel
theorem dX1_startsInTick_71 : decode cX1_startsInTick 71 = .ok (.iaload, 1) := by decide +kernel
theorem dX1_startsInTick_72 : decode cX1_startsInTick 72 = .ok (.aload_n 0, 1) := by decide +kernel
theorem dX1_startsInTick_73 : decode cX1_startsInTick 73 = .ok (.getfield 55, 3) := by decide +kernel
theorem dX1_startsInTick_76 : decode cX1_startsInTick 76 = .ok (.if_icmp .ne 31, 3) := by decide +kernel
theorem dX1_startsInTick_79 : decode cX1_startsInTick 79 = .ok (.aload_n 1, 1) := by decide +kernel
theorem dX1_startsInTick_80 : decode cX1_startsInTick 80 = .ok (.getfield 67, 3) := by decide +kernel
theorem dX1_startsInTick_83 : decode cX1_startsInTick 83 = .ok (.iconst 2, 1) := by decide +kernel
theorem dX1_startsInTick_84 : decode cX1_startsInTick 84 = .ok (.if_icmp .ne 23, 3) := by decide +kernel
theorem dX1_startsInTick_87 : decode cX1_startsInTick 87 = .ok (.aload_n 1, 1) := by decide +kernel
theorem dX1_startsInTick_88 : decode cX1_startsInTick 88 = .ok (.iconst 3, 1) := by decide +kernel
theorem dX1_startsInTick_89 : decode cX1_startsInTick 89 = .ok (.putfield 67, 3) := by decide +kernel
theorem dX1_startsInTick_92 : decode cX1_startsInTick 92 = .ok (.aload_n 0, 1) := by decide +kernel
theorem dX1_startsInTick_93 : decode cX1_startsInTick 93 = .ok (.aload_n 0, 1) := by decide +kernel
theorem dX1_startsInTick_94 : decode cX1_startsInTick 94 = .ok (.getfield 61, 3) := by decide +kernel
theorem dX1_startsInTick_97 : decode cX1_startsInTick 97 = .ok (.aload_n 1, 1) := by decide +kernel
theorem dX1_startsInTick_98 : decode cX1_startsInTick 98 = .ok (.getfield 111, 3) := by decide +kernel
theorem dX1_startsInTick_101 : decode cX1_startsInTick 101 = .ok (.invokestatic 78, 3) := by decide +kernel
theorem dX1_startsInTick_104 : decode cX1_startsInTick 104 = .ok (.putfield 61, 3) := by decide +kernel
theorem dX1_startsInTick_107 : decode cX1_startsInTick 107 = .ok (.aload_n 0, 1) := by decide +kernel
theorem dX1_startsInTick_108 : decode cX1_startsInTick 108 = .ok (.getfield 58, 3) := by decide +kernel
theorem dX1_startsInTick_111 : decode cX1_startsInTick 111 = .ok (.aload_n 0, 1) := by decide +kernel
theorem dX1_startsInTick_112 : decode cX1_startsInTick 112 = .ok (.getfield 9, 3) := by decide +kernel
theorem dX1_startsInTick_115 : decode cX1_startsInTick 115 = .ok (.iconst 1, 1) := by decide +kernel
theorem dX1_startsInTick_116 : decode cX1_startsInTick 116 = .ok (.iaload, 1) := by decide +kernel
theorem dX1_startsInTick_117 : decode cX1_startsInTick 117 = .ok (.if_icmp .lt 7, 3) := by decide +kernel
theorem dX1_startsInTick_120 : decode cX1_startsInTick 120 = .ok (.iconst 1, 1) := by decide +kernel
theorem dX1_startsInTick_121 : decode cX1_startsInTick 121 = .ok (.goto 4, 3) := by decide +kernel
theorem dX1_startsInTick_124 : decode cX1_startsInTick 124 = .ok (.iconst 0, 1) := by decide +kernel
theorem dX1_startsInTick_125 : decode cX1_startsInTick 125 = .ok (.istore_n 2, 1) := by decide +kernel
theorem dX1_startsInTick_126 : decode cX1_startsInTick 126 = .ok (.aload_n 1, 1) := by decide +kernel
theorem dX1_startsInTick_127 : decode cX1_startsInTick 127 = .ok (.getfield 67, 3) := by decide +kernel
theorem dX1_startsInTick_130 : decode cX1_startsInTick 130 = .ok (.iconst 2, 1) := by decide +kernel
theorem dX1_startsInTick_131 : decode cX1_startsInTick 131 = .ok (.if_icmp .ne 23, 3) := by decide +kernel
theorem dX1_startsInTick_134 : decode cX1_startsInTick 134 = .ok (.aload_n 0, 1) := by decide +kernel
theorem dX1_startsInTick_135 : decode cX1_startsInTick 135 = .ok (.getfield 55, 3) := by decide +kernel
theorem dX1_startsInTick_138 : decode cX1_startsInTick 138 = .ok (.bipush 10, 2) := by decide +kernel
theorem dX1_startsInTick_140 : decode cX1_startsInTick 140 = .ok (.aload_n 0, 1) := by decide +kernel
theorem dX1_startsInTick_141 : decode cX1_startsInTick 141 = .ok (.getfield 9, 3) := by decide +kernel
theorem dX1_startsInTick_144 : decode cX1_startsInTick 144 = .ok (.iconst 1, 1) := by decide +kernel
theorem dX1_startsInTick_145 : decode cX1_startsInTick 145 = .ok (.iaload, 1) := by decide +kernel
theorem dX1_startsInTick_146 : decode cX1_startsInTick 146 = .ok (.imul, 1) := by decide +kernel
theorem dX1_startsInTick_147 : decode cX1_startsInTick 147 = .ok (.if_icmp .lt 7, 3) := by decide +kernel
theorem dX1_startsInTick_150 : decode cX1_startsInTick 150 = .ok (.iconst 1, 1) := by decide +kernel
theorem dX1_startsInTick_151 : decode cX1_startsInTick 151 = .ok (.goto 4, 3) := by decide +kernel
theorem dX1_startsInTick_154 : decode cX1_startsInTick 154 = .ok (.iconst 0, 1) := by decide +kernel
theorem dX1_startsInTick_155 : decode cX1_startsInTick 155 = .ok (.istore_n 3, 1) := by decide +kernel
theorem dX1_startsInTick_156 : decode cX1_startsInTick 156 = .ok (.iload_n 2, 1) := by decide +kernel
theorem dX1_startsInTick_157 : decode cX1_startsInTick 157 = .ok (.ifCond .ne 9, 3) := by decide +kernel
theorem dX1_startsInTick_160 : decode cX1_startsInTick 160 = .ok (.iload_n 3, 1) := by decide +kernel
theorem dX1_startsInTick_161 : decode cX1_startsInTick 161 = .ok (.ifCond .ne 5, 3) := by decide +kernel
theorem dX1_startsInTick_164 : decode cX1_startsInTick 164 = .ok (.iconst 0, 1) := by decide +kernel
theorem dX1_startsInTick_165 : decode cX1_startsInTick 165 = .ok (.ireturn, 1) := by decide +kernel
theorem dX1_startsInTick_166 : decode cX1_startsInTick 166 = .ok (.aload_n 0, 1) := by decide +kernel
theorem dX1_startsInTick_167 : decode cX1_startsInTick 167 = .ok (.iconst 1, 1) := by decide +kernel
theorem dX1_startsInTick_168 : decode cX1_startsInTick 168 = .ok (.invokevirtual 120, 3) := by decide +kernel
theorem dX1_startsInTick_171 : decode cX1_startsInTick 171 = .ok (.iconst 1, 1) := by decide +kernel
theorem dX1_startsInTick_172 : decode cX1_startsInTick 172 = .ok (.ireturn, 1) := by decide +kernel
theorem dX2_init_0 : decode cX2_init 0 = .ok (.aload_n 0, 1) := by decide +kernel
theorem dX2_init_1 : decode cX2_init 1 = .ok (.invokespecial 3, 3) := by decide +kernel
theorem dX2_init_4 : decode cX2_init 4 = .ok (.aload_n 0, 1) := by decide +kernel
theorem dX2_init_5 : decode cX2_init 5 = .ok (.bipush 6, 2) := by decide +kernel
theorem dX2_init_7 : decode cX2_init 7 = .ok (.anewarray 9, 3) := by decide +kernel
theorem dX2_init_10 : decode cX2_init 10 = .ok (.putfield 11, 3) := by decide +kernel
theorem dX2_init_13 : decode cX2_init 13 = .ok (.iconst 0, 1) := by decide +kernel
theorem dX2_init_14 : decode cX2_init 14 = .ok (.istore_n 1, 1) := by decide +kernel
theorem dX2_init_15 : decode cX2_init 15 = .ok (.iload_n 1, 1) := by decide +kernel
theorem dX2_init_16 : decode cX2_init 16 = .ok (.bipush 6, 2) := by decide +kernel
theorem dX2_init_18 : decode cX2_init 18 = .ok (.if_icmp .ge 22, 3) := by decide +kernel
theorem dX2_init_21 : decode cX2_init 21 = .ok (.aload_n 0, 1) := by decide +kernel
theorem dX2_init_22 : decode cX2_init 22 = .ok (.getfield 11, 3) := by decide +kernel
theorem dX2_init_25 : decode cX2_init 25 = .ok (.iload_n 1, 1) := by decide +kernel
theorem dX2_init_26 : decode cX2_init 26 = .ok (.new 9, 3) := by decide +kernel
theorem dX2_init_29 : decode cX2_init 29 = .ok (.dup, 1) := by decide +kernel
theorem dX2_init_30 : decode cX2_init 30 = .ok (.invokespecial 17, 3) := by decide +kernel
theorem dX2_init_33 : decode cX2_init 33 = .ok (.aastore, 1) := by decide +kernel
theorem dX2_init_34 : decode cX2_init 34 = .ok (.iinc 1 1, 3) := by decide +kernel
theorem dX2_init_37 : decode cX2_init 37 = .ok (.goto (-22), 3) := by decide +kernel
theorem dX2_init_40 : decode cX2_init 40 = .ok (.return_, 1) := by decide +kernel
theorem dX2_record_0 : decode cX2_record 0 = .ok (.aload_n 0, 1) := by decide +kernel
theorem dX2_record_1 : decode cX2_record 1 = .ok (.getfield 11, 3) := by decide +kernel
theorem dX2_record_4 : decode cX2_record 4 = .ok (.aload_n 0, 1) := by decide +kernel
theorem dX2_record_5 : decode cX2_record 5 = .ok (.getfield 18, 3) := by decide +kernel
theorem dX2_record_8 : decode cX2_record 8 = .ok (.bipush 6, 2) := by decide +kernel
theorem dX2_record_10 : decode cX2_record 10 = .ok (.invokestatic 22, 3) := by decide +kernel
theorem dX2_record_13 : decode cX2_record 13 = .ok (.aaload, 1) := by decide +kernel
theorem dX2_record_14 : decode cX2_record 14 = .ok (.aload_n 1, 1) := by decide +kernel
theorem dX2_record_15 : decode cX2_record 15 = .ok (.invokevirtual 28, 3) := by decide +kernel
theorem dX2_record_18 : decode cX2_record 18 = .ok (.aload_n 0, 1) := by decide +kernel
theorem dX2_record_19 : decode cX2_record 19 = .ok (.dup, 1) := by decide +kernel
theorem dX2_record_20 : decode cX2_record 20 = .ok (.getfield 18, 3) := by decide +kernel
theorem dX2_record_23 : decode cX2_record 23 = .ok (.iconst 1, 1) := by decide +kernel
theorem dX2_record_24 : decode cX2_record 24 = .ok (.iadd, 1) := by decide +kernel
theorem dX2_record_25 : decode cX2_record 25 = .ok (.putfield 18, 3) := by decide +kernel
theorem dX2_record_28 : decode cX2_record 28 = .ok (.aload_n 0, 1) := by decide +kernel
theorem dX2_record_29 : decode cX2_record 29 = .ok (.aload_n 0, 1) := by decide +kernel
theorem dX2_record_30 : decode cX2_record 30 = .ok (.getfield 32, 3) := by decide +kernel
theorem dX2_record_33 : decode cX2_record 33 = .ok (.iconst 1, 1) := by decide +kernel
theorem dX2_record_34 : decode cX2_record 34 = .ok (.iadd, 1) := by decide +kernel
theorem dX2_record_35 : decode cX2_record 35 = .ok (.bipush 6, 2) := by decide +kernel
theorem dX2_record_37 : decode cX2_record 37 = .ok (.invokestatic 35, 3) := by decide +kernel
theorem dX2_record_40 : decode cX2_record 40 = .ok (.putfield 32, 3) := by decide +kernel
theorem dX2_record_43 : decode cX2_record 43 = .ok (.return_, 1) := by decide +kernel
theorem dX2_takeBack_0 : decode cX2_takeBack 0 = .ok (.aload_n 0, 1) := by decide +kernel
theorem dX2_takeBack_1 : decode cX2_takeBack 1 = .ok (.dup, 1) := by decide +kernel
theorem dX2_takeBack_2 : decode cX2_takeBack 2 = .ok (.getfield 18, 3) := by decide +kernel
theorem dX2_takeBack_5 : decode cX2_takeBack 5 = .ok (.iconst 1, 1) := by decide +kernel
theorem dX2_takeBack_6 : decode cX2_takeBack 6 = .ok (.isub, 1) := by decide +kernel
theorem dX2_takeBack_7 : decode cX2_takeBack 7 = .ok (.putfield 18, 3) := by decide +kernel
theorem dX2_takeBack_10 : decode cX2_takeBack 10 = .ok (.aload_n 1, 1) := by decide +kernel
theorem dX2_takeBack_11 : decode cX2_takeBack 11 = .ok (.aload_n 0, 1) := by decide +kernel
theorem dX2_takeBack_12 : decode cX2_takeBack 12 = .ok (.getfield 11, 3) := by decide +kernel
theorem dX2_takeBack_15 : decode cX2_takeBack 15 = .ok (.aload_n 0, 1) := by decide +kernel
theorem dX2_takeBack_16 : decode cX2_takeBack 16 = .ok (.getfield 18, 3) := by decide +kernel
theorem dX2_takeBack_19 : decode cX2_takeBack 19 = .ok (.bipush 6, 2) := by decide +kernel
theorem dX2_takeBack_21 : decode cX2_takeBack 21 = .ok (.invokestatic 22, 3) := by decide +kernel
theorem dX2_takeBack_24 : decode cX2_takeBack 24 = .ok (.aaload, 1) := by decide +kernel
theorem dX2_takeBack_25 : decode cX2_takeBack 25 = .ok (.invokevirtual 28, 3) := by decide +kernel
theorem dX2_takeBack_28 : decode cX2_takeBack 28 = .ok (.aload_n 0, 1) := by decide +kernel
theorem dX2_takeBack_29 : decode cX2_takeBack 29 = .ok (.dup, 1) := by decide +kernel
theorem dX2_takeBack_30 : decode cX2_takeBack 30 = .ok (.getfield 32, 3) := by decide +kernel
theorem dX2_takeBack_33 : decode cX2_takeBack 33 = .ok (.iconst 1, 1) := by decide +kernel
theorem dX2_takeBack_34 : decode cX2_takeBack 34 = .ok (.isub, 1) := by decide +kernel
theorem dX2_takeBack_35 : decode cX2_takeBack 35 = .ok (.putfield 32, 3) := by decide +kernel
theorem dX2_takeBack_38 : decode cX2_takeBack 38 = .ok (.return_, 1) := by decide +kernel
theorem dX3_init_0 : decode cX3_init 0 = .ok (.aload_n 0, 1) := by decide +kernel
theorem dX3_init_1 : decode cX3_init 1 = .ok (.invokespecial 3, 3) := by decide +kernel
theorem dX3_init_4 : decode cX3_init 4 = .ok (.aload_n 0, 1) := by decide +kernel
theorem dX3_init_5 : decode cX3_init 5 = .ok (.bipush 64, 2) := by decide +kernel
theorem dX3_init_7 : decode cX3_init 7 = .ok (.newarray .int, 2) := by decide +kernel
theorem dX3_init_9 : decode cX3_init 9 = .ok (.putfield 9, 3) := by decide +kernel
theorem dX3_init_12 : decode cX3_init 12 = .ok (.return_, 1) := by decide +kernel
theorem dX3_charactersIn_0 : decode cX3_charactersIn 0 = .ok (.lload_n 0, 1) := by decide +kernel
theorem dX3_charactersIn_1 : decode cX3_charactersIn 1 = .ok (.lstore_n 2, 1) := by decide +kernel
theorem dX3_charactersIn_2 : decode cX3_charactersIn 2 = .ok (.iconst 0, 1) := by decide +kernel
theorem dX3_charactersIn_3 : decode cX3_charactersIn 3 = .ok (.istore 4, 2) := by decide +kernel
theorem dX3_charactersIn_5 : decode cX3_charactersIn 5 = .ok (.iload 4, 2) := by decide +kernel
theorem dX3_charactersIn_7 : decode cX3_charactersIn 7 = .ok (.bipush 8, 2) := by decide +kernel
theorem dX3_charactersIn_9 : decode cX3_charactersIn 9 = .ok (.if_icmp .ge 30, 3) := by decide +kernel
theorem dX3_charactersIn_12 : decode cX3_charactersIn 12 = .ok (.lload_n 2, 1) := by decide +kernel
theorem dX3_charactersIn_13 : decode cX3_charactersIn 13 = .ok (.ldc2_w 15, 3) := by decide +kernel
theorem dX3_charactersIn_16 : decode cX3_charactersIn 16 = .ok (.land, 1) := by decide +kernel
theorem dX3_charactersIn_17 : decode cX3_charactersIn 17 = .ok (.l2i, 1) := by decide +kernel
theorem dX3_charactersIn_18 : decode cX3_charactersIn 18 = .ok (.bipush 33, 2) := by decide +kernel
theorem dX3_charactersIn_20 : decode cX3_charactersIn 20 = .ok (.bipush 126, 2) := by decide +kernel
theorem dX3_charactersIn_22 : decode cX3_charactersIn 22 = .ok (.invokestatic 17, 3) := by decide +kernel
theorem dX3_charactersIn_25 : decode cX3_charactersIn 25 = .ok (.ifCond .eq 14, 3) := by decide +kernel
theorem dX3_charactersIn_28 : decode cX3_charactersIn 28 = .ok (.lload_n 2, 1) := by decide +kernel
theorem dX3_charactersIn_29 : decode cX3_charactersIn 29 = .ok (.bipush 8, 2) := by decide +kernel
theorem dX3_charactersIn_31 : decode cX3_charactersIn 31 = .ok (.lushr, 1) := by decide +kernel
theorem dX3_charactersIn_32 : decode cX3_charactersIn 32 = .ok (.lstore_n 2, 1) := by decide +kernel
theorem dX3_charactersIn_33 : decode cX3_charactersIn 33 = .ok (.iinc 4 1, 3) := by decide +kernel
theorem dX3_charactersIn_36 : decode cX3_charactersIn 36 = .ok (.goto (-31), 3) := by decide +kernel
theorem dX3_charactersIn_39 : decode cX3_charactersIn 39 = .ok (.lload_n 2, 1) := by decide +kernel
theorem dX3_charactersIn_40 : decode cX3_charactersIn 40 = .ok (.lconst 0, 1) := by decide +kernel
theorem dX3_charactersIn_41 : decode cX3_charactersIn 41 = .ok (.lcmp, 1) := by decide +kernel
theorem dX3_charactersIn_42 : decode cX3_charactersIn 42 = .ok (.ifCond .ne 8, 3) := by decide +kernel
theorem dX3_charactersIn_45 : decode cX3_charactersIn 45 = .ok (.iload 4, 2) := by decide +kernel
theorem dX3_charactersIn_47 : decode cX3_charactersIn 47 = .ok (.goto 4, 3) := by decide +kernel
theorem dX3_charactersIn_50 : decode cX3_charactersIn 50 = .ok (.iconst 0, 1) := by decide +kernel
theorem dX3_charactersIn_51 : decode cX3_charactersIn 51 = .ok (.ireturn, 1) := by decide +kernel
theorem dX3_append_0 : decode cX3_append 0 = .ok (.iload_n 3, 1) := by decide +kernel
theorem dX3_append_1 : decode cX3_append 1 = .ok (.iconst 1, 1) := by decide +kernel
theorem dX3_append_2 : decode cX3_append 2 = .ok (.isub, 1) := by decide +kernel
theorem dX3_append_3 : decode cX3_append 3 = .ok (.istore 4, 2) := by decide +kernel
theorem dX3_append_5 : decode cX3_append 5 = .ok (.iload 4, 2) := by decide +kernel
theorem dX3_append_7 : decode cX3_append 7 = .ok (.ifCond .lt 49, 3) := by decide +kernel
theorem dX3_append_10 : decode cX3_append 10 = .ok (.aload_n 0, 1) := by decide +kernel
theorem dX3_append_11 : decode cX3_append 11 = .ok (.getfield 21, 3) := by decide +kernel
theorem dX3_append_14 : decode cX3_append 14 = .ok (.bipush 64, 2) := by decide +kernel
theorem dX3_append_16 : decode cX3_append 16 = .ok (.if_icmp .ge 40, 3) := by decide +kernel
theorem dX3_append_19 : decode cX3_append 19 = .ok (.aload_n 0, 1) := by decide +kernel
theorem dX3_append_20 : decode cX3_append 20 = .ok (.getfield 9, 3) := by decide +kernel
theorem dX3_append_23 : decode cX3_append 23 = .ok (.aload_n 0, 1) := by decide +kernel
theorem dX3_append_24 : decode cX3_append 24 = .ok (.getfield 21, 3) := by decide +kernel
theorem dX3_append_27 : decode cX3_append 27 = .ok (.lload_n 1, 1) := by decide +kernel
theorem dX3_append_28 : decode cX3_append 28 = .ok (.bipush 8, 2) := by decide +kernel
theorem dX3_append_30 : decode cX3_append 30 = .ok (.iload 4, 2) := by decide +kernel
theorem dX3_append_32 : decode cX3_append 32 = .ok (.imul, 1) := by decide +kernel
theorem dX3_append_33 : decode cX3_append 33 = .ok (.lushr, 1) := by decide +kernel
theorem dX3_append_34 : decode cX3_append 34 = .ok (.ldc2_w 15, 3) := by decide +kernel
theorem dX3_append_37 : decode cX3_append 37 = .ok (.land, 1) := by decide +kernel
theorem dX3_append_38 : decode cX3_append 38 = .ok (.l2i, 1) := by decide +kernel
theorem dX3_append_39 : decode cX3_append 39 = .ok (.iastore, 1) := by decide +kernel
theorem dX3_append_40 : decode cX3_append 40 = .ok (.aload_n 0, 1) := by decide +kernel
theorem dX3_append_41 : decode cX3_append 41 = .ok (.dup, 1) := by decide +kernel
theorem dX3_append_42 : decode cX3_append 42 = .ok (.getfield 21, 3) := by decide +kernel
theorem dX3_append_45 : decode cX3_append 45 = .ok (.iconst 1, 1) := by decide +kernel
theorem dX3_append_46 : decode cX3_append 46 = .ok (.iadd, 1) := by decide +kernel
theorem dX3_append_47 : decode cX3_append 47 = .ok (.putfield 21, 3) := by decide +kernel
theorem dX3_append_50 : decode cX3_append 50 = .ok (.iinc 4 (-1), 3) := by decide +kernel
theorem dX3_append_53 : decode cX3_append 53 = .ok (.goto (-48), 3) := by decide +kernel
theorem dX3_append_56 : decode cX3_append 56 = .ok (.return_, 1) := by decide +kernel
theorem dX3_clear_0 : decode cX3_clear 0 = .ok (.aload_n 0, 1) := by decide +kernel
theorem dX3_clear_1 : decode cX3_clear 1 = .ok (.iconst 0, 1) := by decide +kernel
theorem dX3_clear_2 : decode cX3_clear 2 = .ok (.putfield 21, 3) := by decide +kernel
theorem dX3_clear_5 : decode cX3_clear 5 = .ok (.return_, 1) := by decide +kernel
theorem dX3_firstFault_0 : decode cX3_firstFault 0 = .ok (.iconst 0, 1) := by decide +kernel
theorem dX3_firstFault_1 : decode cX3_firstFault 1 = .ok (.istore_n 1, 1) := by decide +kernel
theorem dX3_firstFault_2 : decode cX3_firstFault 2 = .ok (.iload_n 1, 1) := by decide +kernel
theorem dX3_firstFault_3 : decode cX3_firstFault 3 = .ok (.aload_n 0, 1) := by decide +kernel
theorem dX3_firstFault_4 : decode cX3_firstFault 4 = .ok (.getfield 21, 3) := by decide +kernel
theorem dX3_firstFault_7 : decode cX3_firstFault 7 = .ok (.if_icmp .ge 25, 3) := by decide +kernel
theorem dX3_firstFault_10 : decode cX3_firstFault 10 = .ok (.iload_n 1, 1) := by decide +kernel
theorem dX3_firstFault_11 : decode cX3_firstFault 11 = .ok (.bipush 64, 2) := by decide +kernel
theorem dX3_firstFault_13 : decode cX3_firstFault 13 = .ok (.if_icmp .ge 19, 3) := by decide +kernel
theorem dX3_firstFault_16 : decode cX3_firstFault 16 = .ok (.aload_n 0, 1) := by decide +kernel
theorem dX3_firstFault_17 : decode cX3_firstFault 17 = .ok (.iload_n 1, 1) := by decide +kernel
theorem dX3_firstFault_18 : decode cX3_firstFault 18 = .ok (.invokevirtual 25, 3) := by decide +kernel
theorem dX3_firstFault_21 : decode cX3_firstFault 21 = .ok (.ifCond .ge 5, 3) := by decide +kernel
theorem dX3_firstFault_24 : decode cX3_firstFault 24 = .ok (.iload_n 1, 1) := by decide +kernel
theorem dX3_firstFault_25 : decode cX3_firstFault 25 = .ok (.ireturn, 1) := by decide +kernel
theorem dX3_firstFault_26 : decode cX3_firstFault 26 = .ok (.iinc 1 1, 3) := by decide +kernel
theorem dX3_firstFault_29 : decode cX3_firstFault 29 = .ok (.goto (-27), 3) := by decide +kernel
theorem dX3_firstFault_32 : decode cX3_firstFault 32 = .ok (.aload_n 0, 1) := by decide +kernel
theorem dX3_firstFault_33 : decode cX3_firstFault 33 = .ok (.getfield 21, 3) := by decide +kernel
theorem dX3_firstFault_36 : decode cX3_firstFault 36 = .ok (.ifCond .eq 13, 3) := by decide +kernel
theorem dX3_firstFault_39 : decode cX3_firstFault 39 = .ok (.aload_n 0, 1) := by decide +kernel
theorem dX3_firstFault_40 : decode cX3_firstFault 40 = .ok (.getfield 21, 3) := by decide +kernel
theorem dX3_firstFault_43 : decode cX3_firstFault 43 = .ok (.iconst 2, 1) := by decide +kernel
theorem dX3_firstFault_44 : decode cX3_firstFault 44 = .ok (.irem, 1) := by decide +kernel
theorem dX3_firstFault_45 : decode cX3_firstFault 45 = .ok (.iconst 1, 1) := by decide +kernel
theorem dX3_firstFault_46 : decode cX3_firstFault 46 = .ok (.if_icmp .ne 10, 3) := by decide +kernel
theorem dX3_firstFault_49 : decode cX3_firstFault 49 = .ok (.aload_n 0, 1) := by decide +kernel
theorem dX3_firstFault_50 : decode cX3_firstFault 50 = .ok (.getfield 21, 3) := by decide +kernel
theorem dX3_firstFault_53 : decode cX3_firstFault 53 = .ok (.goto 5, 3) := by decide +kernel
theorem dX3_firstFault_56 : decode cX3_firstFault 56 = .ok (.bipush (-6), 2) := by decide +kernel
theorem dX3_firstFault_58 : decode cX3_firstFault 58 = .ok (.ireturn, 1) := by decide +kernel
theorem dX3_words_0 : decode cX3_words 0 = .ok (.aload_n 0, 1) := by decide +kernel
theorem dX3_words_1 : decode cX3_words 1 = .ok (.getfield 21, 3) := by decide +kernel
theorem dX3_words_4 : decode cX3_words 4 = .ok (.iconst 2, 1) := by decide +kernel
theorem dX3_words_5 : decode cX3_words 5 = .ok (.idiv, 1) := by decide +kernel
theorem dX3_words_6 : decode cX3_words 6 = .ok (.ireturn, 1) := by decide +kernel
theorem dX3_wordAt_0 : decode cX3_wordAt 0 = .ok (.bipush 16, 2) := by decide +kernel
theorem dX3_wordAt_2 : decode cX3_wordAt 2 = .ok (.aload_n 0, 1) := by decide +kernel
theorem dX3_wordAt_3 : decode cX3_wordAt 3 = .ok (.iconst 2, 1) := by decide +kernel
theorem dX3_wordAt_4 : decode cX3_wordAt 4 = .ok (.iload_n 1, 1) := by decide +kernel
theorem dX3_wordAt_5 : decode cX3_wordAt 5 = .ok (.imul, 1) := by decide +kernel
theorem dX3_wordAt_6 : decode cX3_wordAt 6 = .ok (.invokevirtual 25, 3) := by decide +kernel
theorem dX3_wordAt_9 : decode cX3_wordAt 9 = .ok (.imul, 1) := by decide +kernel
theorem dX3_wordAt_10 : decode cX3_wordAt 10 = .ok (.aload_n 0, 1) := by decide +kernel
theorem dX3_wordAt_11 : decode cX3_wordAt 11 = .ok (.iconst 2, 1) := by decide +kernel
theorem dX3_wordAt_12 : decode cX3_wordAt 12 = .ok (.iload_n 1, 1) := by decide +kernel
theorem dX3_wordAt_13 : decode cX3_wordAt 13 = .ok (.imul, 1) := by decide +kernel
theorem dX3_wordAt_14 : decode cX3_wordAt 14 = .ok (.iconst 1, 1) := by decide +kernel
theorem dX3_wordAt_15 : decode cX3_wordAt 15 = .ok (.iadd, 1) := by decide +kernel
theorem dX3_wordAt_16 : decode cX3_wordAt 16 = .ok (.invokevirtual 25, 3) := by decide +kernel
theorem dX3_wordAt_19 : decode cX3_wordAt 19 = .ok (.iadd, 1) := by decide +kernel
theorem dX3_wordAt_20 : decode cX3_wordAt 20 = .ok (.ireturn, 1) := by decide +kernel
theorem dX3_sumOfWords_0 : decode cX3_sumOfWords 0 = .ok (.iconst 1, 1) := by decide +kernel
theorem dX3_sumOfWords_1 : decode cX3_sumOfWords 1 = .ok (.istore_n 1, 1) := by decide +kernel
theorem dX3_sumOfWords_2 : decode cX3_sumOfWords 2 = .ok (.iconst 0, 1) := by decide +kernel
theorem dX3_sumOfWords_3 : decode cX3_sumOfWords 3 = .ok (.istore_n 2, 1) := by decide +kernel
theorem dX3_sumOfWords_4 : decode cX3_sumOfWords 4 = .ok (.iload_n 2, 1) := by decide +kernel
theorem dX3_sumOfWords_5 : decode cX3_sumOfWords 5 = .ok (.aload_n 0, 1) := by decide +kernel
theorem dX3_sumOfWords_6 : decode cX3_sumOfWords 6 = .ok (.invokevirtual 29, 3) := by decide +kernel
theorem dX3_sumOfWords_9 : decode cX3_sumOfWords 9 = .ok (.if_icmp .ge 19, 3) := by decide +kernel
theorem dX3_sumOfWords_12 : decode cX3_sumOfWords 12 = .ok (.iload_n 1, 1) := by decide +kernel
theorem dX3_sumOfWords_13 : decode cX3_sumOfWords 13 = .ok (.aload_n 0, 1) := by decide +kernel
theorem dX3_sumOfWords_14 : decode cX3_sumOfWords 14 = .ok (.iload_n 2, 1) := by decide +kernel
theorem dX3_sumOfWords_15 : decode cX3_sumOfWords 15 = .ok (.invokevirtual 33, 3) := by decide +kernel
theorem dX3_sumOfWords_18 : decode cX3_sumOfWords 18 = .ok (.invokestatic 36, 3) := by decide +kernel
theorem dX3_sumOfWords_21 : decode cX3_sumOfWords 21 = .ok (.istore_n 1, 1) := by decide +kernel
theorem dX3_sumOfWords_22 : decode cX3_sumOfWords 22 = .ok (.iinc 2 1, 3) := by decide +kernel
theorem dX3_sumOfWords_25 : decode cX3_sumOfWords 25 = .ok (.goto (-21), 3) := by decide +kernel
theorem dX3_sumOfWords_28 : decode cX3_sumOfWords 28 = .ok (.iload_n 1, 1) := by decide +kernel
theorem dX3_sumOfWords_29 : decode cX3_sumOfWords 29 = .ok (.ireturn, 1) := by decide +kernel
theorem dX3_digitAt_0 : decode cX3_digitAt 0 = .ok (.iload_n 1, 1) := by decide +kernel
theorem dX3_digitAt_1 : decode cX3_digitAt 1 = .ok (.iconst 0, 1) := by decide +kernel
theorem dX3_digitAt_2 : decode cX3_digitAt 2 = .ok (.bipush 63, 2) := by decide +kernel
theorem dX3_digitAt_4 : decode cX3_digitAt 4 = .ok (.invokestatic 17, 3) := by decide +kernel
theorem dX3_digitAt_7 : decode cX3_digitAt 7 = .ok (.ifCond .eq 12, 3) := by decide +kernel
theorem dX3_digitAt_10 : decode cX3_digitAt 10 = .ok (.aload_n 0, 1) := by decide +kernel
theorem dX3_digitAt_11 : decode cX3_digitAt 11 = .ok (.getfield 9, 3) := by decide +kernel
theorem dX3_digitAt_14 : decode cX3_digitAt 14 = .ok (.iload_n 1, 1) := by decide +kernel
theorem dX3_digitAt_15 : decode cX3_digitAt 15 = .ok (.iaload, 1) := by decide +kernel
theorem dX3_digitAt_16 : decode cX3_digitAt 16 = .ok (.goto 4, 3) := by decide +kernel
theorem dX3_digitAt_19 : decode cX3_digitAt 19 = .ok (.iconst 0, 1) := by decide +kernel
theorem dX3_digitAt_20 : decode cX3_digitAt 20 = .ok (.istore_n 2, 1) := by decide +kernel
theorem dX3_digitAt_21 : decode cX3_digitAt 21 = .ok (.iload_n 2, 1) := by decide +kernel
theorem dX3_digitAt_22 : decode cX3_digitAt 22 = .ok (.bipush 48, 2) := by decide +kernel
theorem dX3_digitAt_24 : decode cX3_digitAt 24 = .ok (.bipush 57, 2) := by decide +kernel
theorem dX3_digitAt_26 : decode cX3_digitAt 26 = .ok (.invokestatic 17, 3) := by decide +kernel
theorem dX3_digitAt_29 : decode cX3_digitAt 29 = .ok (.ifCond .eq 8, 3) := by decide +kernel
theorem dX3_digitAt_32 : decode cX3_digitAt 32 = .ok (.iload_n 2, 1) := by decide +kernel
theorem dX3_digitAt_33 : decode cX3_digitAt 33 = .ok (.bipush 48, 2) := by decide +kernel
theorem dX3_digitAt_35 : decode cX3_digitAt 35 = .ok (.isub, 1) := by decide +kernel
theorem dX3_digitAt_36 : decode cX3_digitAt 36 = .ok (.ireturn, 1) := by decide +kernel
theorem dX3_digitAt_37 : decode cX3_digitAt 37 = .ok (.iload_n 2, 1) := by decide +kernel
theorem dX3_digitAt_38 : decode cX3_digitAt 38 = .ok (.bipush 97, 2) := by decide +kernel
theorem dX3_digitAt_40 : decode cX3_digitAt 40 = .ok (.bipush 102, 2) := by decide +kernel
theorem dX3_digitAt_42 : decode cX3_digitAt 42 = .ok (.invokestatic 17, 3) := by decide +kernel
theorem dX3_digitAt_45 : decode cX3_digitAt 45 = .ok (.ifCond .eq 13, 3) := by decide +kernel
theorem dX3_digitAt_48 : decode cX3_digitAt 48 = .ok (.iload_n 2, 1) := by decide +kernel
theorem dX3_digitAt_49 : decode cX3_digitAt 49 = .ok (.bipush 97, 2) := by decide +kernel
theorem dX3_digitAt_51 : decode cX3_digitAt 51 = .ok (.isub, 1) := by decide +kernel
theorem dX3_digitAt_52 : decode cX3_digitAt 52 = .ok (.bipush 10, 2) := by decide +kernel
theorem dX3_digitAt_54 : decode cX3_digitAt 54 = .ok (.iadd, 1) := by decide +kernel
theorem dX3_digitAt_55 : decode cX3_digitAt 55 = .ok (.goto 4, 3) := by decide +kernel
theorem dX3_digitAt_58 : decode cX3_digitAt 58 = .ok (.iconst (-1), 1) := by decide +kernel
theorem dX3_digitAt_59 : decode cX3_digitAt 59 = .ok (.ireturn, 1) := by decide +kernel
theorem dX4_init_0 : decode cX4_init 0 = .ok (.aload_n 0, 1) := by decide +kernel
theorem dX4_init_1 : decode cX4_init 1 = .ok (.invokespecial 3, 3) := by decide +kernel
theorem dX4_init_4 : decode cX4_init 4 = .ok (.aload_n 0, 1) := by decide +kernel
theorem dX4_init_5 : decode cX4_init 5 = .ok (.bipush 12, 2) := by decide +kernel
theorem dX4_init_7 : decode cX4_init 7 = .ok (.newarray .int, 2) := by decide +kernel
theorem dX4_init_9 : decode cX4_init 9 = .ok (.putfield 9, 3) := by decide +kernel
theorem dX4_init_12 : decode cX4_init 12 = .ok (.aload_n 0, 1) := by decide +kernel
theorem dX4_init_13 : decode cX4_init 13 = .ok (.bipush 12, 2) := by decide +kernel
theorem dX4_init_15 : decode cX4_init 15 = .ok (.newarray .int, 2) := by decide +kernel
theorem dX4_init_17 : decode cX4_init 17 = .ok (.putfield 15, 3) := by decide +kernel
theorem dX4_init_20 : decode cX4_init 20 = .ok (.aload_n 0, 1) := by decide +kernel
theorem dX4_init_21 : decode cX4_init 21 = .ok (.bipush 12, 2) := by decide +kernel
theorem dX4_init_23 : decode cX4_init 23 = .ok (.newarray .int, 2) := by decide +kernel
theorem dX4_init_25 : decode cX4_init 25 = .ok (.putfield 18, 3) := by decide +kernel
theorem dX4_init_28 : decode cX4_init 28 = .ok (.return_, 1) := by decide +kernel
theorem dX4_copyFrom_0 : decode cX4_copyFrom 0 = .ok (.aload_n 0, 1) := by decide +kernel
theorem dX4_copyFrom_1 : decode cX4_copyFrom 1 = .ok (.aload_n 1, 1) := by decide +kernel
theorem dX4_copyFrom_2 : decode cX4_copyFrom 2 = .ok (.getfield 21, 3) := by decide +kernel
theorem dX4_copyFrom_5 : decode cX4_copyFrom 5 = .ok (.putfield 21, 3) := by decide +kernel
theorem dX4_copyFrom_8 : decode cX4_copyFrom 8 = .ok (.aload_n 0, 1) := by decide +kernel
theorem dX4_copyFrom_9 : decode cX4_copyFrom 9 = .ok (.aload_n 1, 1) := by decide +kernel
theorem dX4_copyFrom_10 : decode cX4_copyFrom 10 = .ok (.getfield 25, 3) := by decide +kernel
theorem dX4_copyFrom_13 : decode cX4_copyFrom 13 = .ok (.putfield 25, 3) := by decide +kernel
theorem dX4_copyFrom_16 : decode cX4_copyFrom 16 = .ok (.aload_n 0, 1) := by decide +kernel
theorem dX4_copyFrom_17 : decode cX4_copyFrom 17 = .ok (.aload_n 1, 1) := by decide +kernel
theorem dX4_copyFrom_18 : decode cX4_copyFrom 18 = .ok (.getfield 28, 3) := by decide +kernel
theorem dX4_copyFrom_21 : decode cX4_copyFrom 21 = .ok (.putfield 28, 3) := by decide +kernel
theorem dX4_copyFrom_24 : decode cX4_copyFrom 24 = .ok (.aload_n 1, 1) := by decide +kernel
theorem dX4_copyFrom_25 : decode cX4_copyFrom 25 = .ok (.getfield 9, 3) := by decide +kernel
theorem dX4_copyFrom_28 : decode cX4_copyFrom 28 = .ok (.iconst 0, 1) := by decide +kernel
theorem dX4_copyFrom_29 : decode cX4_copyFrom 29 = .ok (.aload_n 0, 1) := by decide +kernel
theorem dX4_copyFrom_30 : decode cX4_copyFrom 30 = .ok (.getfield 9, 3) := by decide +kernel
theorem dX4_copyFrom_33 : decode cX4_copyFrom 33 = .ok (.iconst 0, 1) := by decide +kernel
theorem dX4_copyFrom_34 : decode cX4_copyFrom 34 = .ok (.bipush 12, 2) := by decide +kernel
theorem dX4_copyFrom_36 : decode cX4_copyFrom 36 = .ok (.invokestatic 31, 3) := by decide +kernel
theorem dX4_copyFrom_39 : decode cX4_copyFrom 39 = .ok (.aload_n 1, 1) := by decide +kernel
theorem dX4_copyFrom_40 : decode cX4_copyFrom 40 = .ok (.getfield 15, 3) := by decide +kernel
theorem dX4_copyFrom_43 : decode cX4_copyFrom 43 = .ok (.iconst 0, 1) := by decide +kernel
theorem dX4_copyFrom_44 : decode cX4_copyFrom 44 = .ok (.aload_n 0, 1) := by decide +kernel
theorem dX4_copyFrom_45 : decode cX4_copyFrom 45 = .ok (.getfield 15, 3) := by decide +kernel
theorem dX4_copyFrom_48 : decode cX4_copyFrom 48 = .ok (.iconst 0, 1) := by decide +kernel
theorem dX4_copyFrom_49 : decode cX4_copyFrom 49 = .ok (.bipush 12, 2) := by decide +kernel
theorem dX4_copyFrom_51 : decode cX4_copyFrom 51 = .ok (.invokestatic 31, 3) := by decide +kernel
theorem dX4_copyFrom_54 : decode cX4_copyFrom 54 = .ok (.aload_n 1, 1) := by decide +kernel
theorem dX4_copyFrom_55 : decode cX4_copyFrom 55 = .ok (.getfield 18, 3) := by decide +kernel
theorem dX4_copyFrom_58 : decode cX4_copyFrom 58 = .ok (.iconst 0, 1) := by decide +kernel
theorem dX4_copyFrom_59 : decode cX4_copyFrom 59 = .ok (.aload_n 0, 1) := by decide +kernel
theorem dX4_copyFrom_60 : decode cX4_copyFrom 60 = .ok (.getfield 18, 3) := by decide +kernel
theorem dX4_copyFrom_63 : decode cX4_copyFrom 63 = .ok (.iconst 0, 1) := by decide +kernel
theorem dX4_copyFrom_64 : decode cX4_copyFrom 64 = .ok (.bipush 12, 2) := by decide +kernel
theorem dX4_copyFrom_66 : decode cX4_copyFrom 66 = .ok (.invokestatic 31, 3) := by decide +kernel
theorem dX4_copyFrom_69 : decode cX4_copyFrom 69 = .ok (.return_, 1) := by decide +kernel
theorem dX4_add_0 : decode cX4_add 0 = .ok (.aload_n 0, 1) := by decide +kernel
theorem dX4_add_1 : decode cX4_add 1 = .ok (.dup, 1) := by decide +kernel
theorem dX4_add_2 : decode cX4_add 2 = .ok (.getfield 21, 3) := by decide +kernel
theorem dX4_add_5 : decode cX4_add 5 = .ok (.iconst 1, 1) := by decide +kernel
theorem dX4_add_6 : decode cX4_add 6 = .ok (.iadd, 1) := by decide +kernel
theorem dX4_add_7 : decode cX4_add 7 = .ok (.putfield 21, 3) := by decide +kernel
theorem dX4_add_10 : decode cX4_add 10 = .ok (.aload_n 0, 1) := by decide +kernel
theorem dX4_add_11 : decode cX4_add 11 = .ok (.aload_n 0, 1) := by decide +kernel
theorem dX4_add_12 : decode cX4_add 12 = .ok (.getfield 28, 3) := by decide +kernel
theorem dX4_add_15 : decode cX4_add 15 = .ok (.iconst 1, 1) := by decide +kernel
theorem dX4_add_16 : decode cX4_add 16 = .ok (.iadd, 1) := by decide +kernel
theorem dX4_add_17 : decode cX4_add 17 = .ok (.bipush 12, 2) := by decide +kernel
theorem dX4_add_19 : decode cX4_add 19 = .ok (.invokestatic 37, 3) := by decide +kernel
theorem dX4_add_22 : decode cX4_add 22 = .ok (.putfield 28, 3) := by decide +kernel
theorem dX4_add_25 : decode cX4_add 25 = .ok (.aload_n 0, 1) := by decide +kernel
theorem dX4_add_26 : decode cX4_add 26 = .ok (.iconst 0, 1) := by decide +kernel
theorem dX4_add_27 : decode cX4_add 27 = .ok (.invokevirtual 43, 3) := by decide +kernel
theorem dX4_add_30 : decode cX4_add 30 = .ok (.istore 4, 2) := by decide +kernel
theorem dX4_add_32 : decode cX4_add 32 = .ok (.aload_n 0, 1) := by decide +kernel
theorem dX4_add_33 : decode cX4_add 33 = .ok (.getfield 9, 3) := by decide +kernel
theorem dX4_add_36 : decode cX4_add 36 = .ok (.iload 4, 2) := by decide +kernel
theorem dX4_add_38 : decode cX4_add 38 = .ok (.iload_n 1, 1) := by decide +kernel
theorem dX4_add_39 : decode cX4_add 39 = .ok (.iastore, 1) := by decide +kernel
theorem dX4_add_40 : decode cX4_add 40 = .ok (.aload_n 0, 1) := by decide +kernel
theorem dX4_add_41 : decode cX4_add 41 = .ok (.getfield 15, 3) := by decide +kernel
theorem dX4_add_44 : decode cX4_add 44 = .ok (.iload 4, 2) := by decide +kernel
theorem dX4_add_46 : decode cX4_add 46 = .ok (.iload_n 2, 1) := by decide +kernel
theorem dX4_add_47 : decode cX4_add 47 = .ok (.iastore, 1) := by decide +kernel
theorem dX4_add_48 : decode cX4_add 48 = .ok (.aload_n 0, 1) := by decide +kernel
theorem dX4_add_49 : decode cX4_add 49 = .ok (.getfield 18, 3) := by decide +kernel
theorem dX4_add_52 : decode cX4_add 52 = .ok (.iload 4, 2) := by decide +kernel
theorem dX4_add_54 : decode cX4_add 54 = .ok (.iload_n 3, 1) := by decide +kernel
theorem dX4_add_55 : decode cX4_add 55 = .ok (.iastore, 1) := by decide +kernel
theorem dX4_add_56 : decode cX4_add 56 = .ok (.iload_n 2, 1) := by decide +kernel
theorem dX4_add_57 : decode cX4_add 57 = .ok (.iconst 1, 1) := by decide +kernel
theorem dX4_add_58 : decode cX4_add 58 = .ok (.if_icmp .ne 13, 3) := by decide +kernel
theorem dX4_add_61 : decode cX4_add 61 = .ok (.aload_n 0, 1) := by decide +kernel
theorem dX4_add_62 : decode cX4_add 62 = .ok (.dup, 1) := by decide +kernel
theorem dX4_add_63 : decode cX4_add 63 = .ok (.getfield 25, 3) := by decide +kernel
theorem dX4_add_66 : decode cX4_add 66 = .ok (.iconst 1, 1) := by decide +kernel
theorem dX4_add_67 : decode cX4_add 67 = .ok (.iadd, 1) := by decide +kernel
theorem dX4_add_68 : decode cX4_add 68 = .ok (.putfield 25, 3) := by decide +kernel
theorem dX4_add_71 : decode cX4_add 71 = .ok (.return_, 1) := by decide +kernel
theorem dX4_indexOf_0 : decode cX4_indexOf 0 = .ok (.aload_n 0, 1) := by decide +kernel
theorem dX4_indexOf_1 : decode cX4_indexOf 1 = .ok (.getfield 21, 3) := by decide +kernel
theorem dX4_indexOf_4 : decode cX4_indexOf 4 = .ok (.iconst 1, 1) := by decide +kernel
theorem dX4_indexOf_5 : decode cX4_indexOf 5 = .ok (.isub, 1) := by decide +kernel
theorem dX4_indexOf_6 : decode cX4_indexOf 6 = .ok (.iload_n 1, 1) := by decide +kernel
theorem dX4_indexOf_7 : decode cX4_indexOf 7 = .ok (.isub, 1) := by decide +kernel
theorem dX4_indexOf_8 : decode cX4_indexOf 8 = .ok (.bipush 12, 2) := by decide +kernel
theorem dX4_indexOf_10 : decode cX4_indexOf 10 = .ok (.invokestatic 47, 3) := by decide +kernel
theorem dX4_indexOf_13 : decode cX4_indexOf 13 = .ok (.ireturn, 1) := by decide +kernel
theorem dX5_init_0 : decode cX5_init 0 = .ok (.aload_n 0, 1) := by decide +kernel
theorem dX5_init_1 : decode cX5_init 1 = .ok (.invokespecial 1, 3) := by decide +kernel
theorem dX5_init_4 : decode cX5_init 4 = .ok (.aload_n 0, 1) := by decide +kernel
theorem dX5_init_5 : decode cX5_init 5 = .ok (.new 7, 3) := by decide +kernel
theorem dX5_init_8 : decode cX5_init 8 = .ok (.dup, 1) := by decide +kernel
theorem dX5_init_9 : decode cX5_init 9 = .ok (.invokespecial 9, 3) := by decide +kernel
theorem dX5_init_12 : decode cX5_init 12 = .ok (.putfield 10, 3) := by decide +kernel
theorem dX5_init_15 : decode cX5_init 15 = .ok (.aload_n 0, 1) := by decide +kernel
theorem dX5_init_16 : decode cX5_init 16 = .ok (.new 7, 3) := by decide +kernel
theorem dX5_init_19 : decode cX5_init 19 = .ok (.dup, 1) := by decide +kernel
theorem dX5_init_20 : decode cX5_init 20 = .ok (.invokespecial 9, 3) := by decide +kernel
theorem dX5_init_23 : decode cX5_init 23 = .ok (.putfield 16, 3) := by decide +kernel
theorem dX5_init_26 : decode cX5_init 26 = .ok (.aload_n 0, 1) := by decide +kernel
theorem dX5_init_27 : decode cX5_init 27 = .ok (.iconst 2, 1) := by decide +kernel
theorem dX5_init_28 : decode cX5_init 28 = .ok (.anewarray 7, 3) := by decide +kernel
theorem dX5_init_31 : decode cX5_init 31 = .ok (.dup, 1) := by decide +kernel
theorem dX5_init_32 : decode cX5_init 32 = .ok (.iconst 0, 1) := by decide +kernel
theorem dX5_init_33 : decode cX5_init 33 = .ok (.new 7, 3) := by decide +kernel
theorem dX5_init_36 : decode cX5_init 36 = .ok (.dup, 1) := by decide +kernel
theorem dX5_init_37 : decode cX5_init 37 = .ok (.invokespecial 9, 3) := by decide +kernel
theorem dX5_init_40 : decode cX5_init 40 = .ok (.aastore, 1) := by decide +kernel
theorem dX5_init_41 : decode cX5_init 41 = .ok (.dup, 1) := by decide +kernel
theorem dX5_init_42 : decode cX5_init 42 = .ok (.iconst 1, 1) := by decide +kernel
theorem dX5_init_43 : decode cX5_init 43 = .ok (.new 7, 3) := by decide +kernel
theorem dX5_init_46 : decode cX5_init 46 = .ok (.dup, 1) := by decide +kernel
theorem dX5_init_47 : decode cX5_init 47 = .ok (.invokespecial 9, 3) := by decide +kernel
theorem dX5_init_50 : decode cX5_init 50 = .ok (.aastore, 1) := by decide +kernel
theorem dX5_init_51 : decode cX5_init 51 = .ok (.putfield 19, 3) := by decide +kernel
theorem dX5_init_54 : decode cX5_init 54 = .ok (.aload_n 0, 1) := by decide +kernel
theorem dX5_init_55 : decode cX5_init 55 = .ok (.iconst 2, 1) := by decide +kernel
theorem dX5_init_56 : decode cX5_init 56 = .ok (.newarray .boolean, 2) := by decide +kernel
theorem dX5_init_58 : decode cX5_init 58 = .ok (.putfield 23, 3) := by decide +kernel
theorem dX5_init_61 : decode cX5_init 61 = .ok (.aload_n 0, 1) := by decide +kernel
theorem dX5_init_62 : decode cX5_init 62 = .ok (.new 27, 3) := by decide +kernel
theorem dX5_init_65 : decode cX5_init 65 = .ok (.dup, 1) := by decide +kernel
theorem dX5_init_66 : decode cX5_init 66 = .ok (.invokespecial 29, 3) := by decide +kernel
theorem dX5_init_69 : decode cX5_init 69 = .ok (.putfield 30, 3) := by decide +kernel
theorem dX5_init_72 : decode cX5_init 72 = .ok (.aload_n 0, 1) := by decide +kernel
theorem dX5_init_73 : decode cX5_init 73 = .ok (.new 34, 3) := by decide +kernel
theorem dX5_init_76 : decode cX5_init 76 = .ok (.dup, 1) := by decide +kernel
theorem dX5_init_77 : decode cX5_init 77 = .ok (.invokespecial 36, 3) := by decide +kernel
theorem dX5_init_80 : decode cX5_init 80 = .ok (.putfield 37, 3) := by decide +kernel
theorem dX5_init_83 : decode cX5_init 83 = .ok (.return_, 1) := by decide +kernel
theorem dX5_set_0 : decode cX5_set 0 = .ok (.iload_n 1, 1) := by decide +kernel
theorem dX5_set_1 : decode cX5_set 1 = .ok (.iconst 0, 1) := by decide +kernel
theorem dX5_set_2 : decode cX5_set 2 = .ok (.iconst 2, 1) := by decide +kernel
theorem dX5_set_3 : decode cX5_set 3 = .ok (.invokestatic 41, 3) := by decide +kernel
theorem dX5_set_6 : decode cX5_set 6 = .ok (.ifCond .eq 16, 3) := by decide +kernel
theorem dX5_set_9 : decode cX5_set 9 = .ok (.iload_n 2, 1) := by decide +kernel
theorem dX5_set_10 : decode cX5_set 10 = .ok (.iconst 1, 1) := by decide +kernel
theorem dX5_set_11 : decode cX5_set 11 = .ok (.getstatic 45, 3) := by decide +kernel
theorem dX5_set_14 : decode cX5_set 14 = .ok (.iload_n 1, 1) := by decide +kernel
theorem dX5_set_15 : decode cX5_set 15 = .ok (.iaload, 1) := by decide +kernel
theorem dX5_set_16 : decode cX5_set 16 = .ok (.invokestatic 41, 3) := by decide +kernel
theorem dX5_set_19 : decode cX5_set 19 = .ok (.ifCond .ne 6, 3) := by decide +kernel
theorem dX5_set_22 : decode cX5_set 22 = .ok (.bipush (-2), 2) := by decide +kernel
theorem dX5_set_24 : decode cX5_set 24 = .ok (.ireturn, 1) := by decide +kernel
theorem dX5_set_25 : decode cX5_set 25 = .ok (.aload_n 0, 1) := by decide +kernel
theorem dX5_set_26 : decode cX5_set 26 = .ok (.getfield 30, 3) := by decide +kernel
theorem dX5_set_29 : decode cX5_set 29 = .ok (.aload_n 0, 1) := by decide +kernel
theorem dX5_set_30 : decode cX5_set 30 = .ok (.getfield 10, 3) := by decide +kernel
theorem dX5_set_33 : decode cX5_set 33 = .ok (.invokevirtual 49, 3) := by decide +kernel
theorem dX5_set_36 : decode cX5_set 36 = .ok (.aload_n 0, 1) := by decide +kernel
theorem dX5_set_37 : decode cX5_set 37 = .ok (.getfield 10, 3) := by decide +kernel
theorem dX5_set_40 : decode cX5_set 40 = .ok (.getfield 53, 3) := by decide +kernel
theorem dX5_set_43 : decode cX5_set 43 = .ok (.iload_n 1, 1) := by decide +kernel
theorem dX5_set_44 : decode cX5_set 44 = .ok (.iaload, 1) := by decide +kernel
theorem dX5_set_45 : decode cX5_set 45 = .ok (.istore_n 3, 1) := by decide +kernel
theorem dX5_set_46 : decode cX5_set 46 = .ok (.aload_n 0, 1) := by decide +kernel
theorem dX5_set_47 : decode cX5_set 47 = .ok (.getfield 10, 3) := by decide +kernel
theorem dX5_set_50 : decode cX5_set 50 = .ok (.getfield 53, 3) := by decide +kernel
theorem dX5_set_53 : decode cX5_set 53 = .ok (.iload_n 1, 1) := by decide +kernel
theorem dX5_set_54 : decode cX5_set 54 = .ok (.iload_n 2, 1) := by decide +kernel
theorem dX5_set_55 : decode cX5_set 55 = .ok (.iastore, 1) := by decide +kernel
theorem dX5_set_56 : decode cX5_set 56 = .ok (.iload_n 3, 1) := by decide +kernel
theorem dX5_set_57 : decode cX5_set 57 = .ok (.ireturn, 1) := by decide +kernel
theorem dX5_begin_0 : decode cX5_begin 0 = .ok (.iload_n 1, 1) := by decide +kernel
theorem dX5_begin_1 : decode cX5_begin 1 = .ok (.invokestatic 56, 3) := by decide +kernel
theorem dX5_begin_4 : decode cX5_begin 4 = .ok (.ifCond .ne 5, 3) := by decide +kernel
theorem dX5_begin_7 : decode cX5_begin 7 = .ok (.iconst (-1), 1) := by decide +kernel
theorem dX5_begin_8 : decode cX5_begin 8 = .ok (.ireturn, 1) := by decide +kernel
theorem dX5_begin_9 : decode cX5_begin 9 = .ok (.iload_n 2, 1) := by decide +kernel
theorem dX5_begin_10 : decode cX5_begin 10 = .ok (.iconst 0, 1) := by decide +kernel
theorem dX5_begin_11 : decode cX5_begin 11 = .ok (.bipush 99, 2) := by decide +kernel
theorem dX5_begin_13 : decode cX5_begin 13 = .ok (.invokestatic 41, 3) := by decide +kernel
theorem dX5_begin_16 : decode cX5_begin 16 = .ok (.ifCond .eq 22, 3) := by decide +kernel
theorem dX5_begin_19 : decode cX5_begin 19 = .ok (.iload_n 3, 1) := by decide +kernel
theorem dX5_begin_20 : decode cX5_begin 20 = .ok (.invokestatic 60, 3) := by decide +kernel
theorem dX5_begin_23 : decode cX5_begin 23 = .ok (.ifCond .eq 15, 3) := by decide +kernel
theorem dX5_begin_26 : decode cX5_begin 26 = .ok (.iload 4, 2) := by decide +kernel
theorem dX5_begin_28 : decode cX5_begin 28 = .ok (.iconst 0, 1) := by decide +kernel
theorem dX5_begin_29 : decode cX5_begin 29 = .ok (.sipush 250, 3) := by decide +kernel
theorem dX5_begin_32 : decode cX5_begin 32 = .ok (.invokestatic 41, 3) := by decide +kernel
theorem dX5_begin_35 : decode cX5_begin 35 = .ok (.ifCond .ne 6, 3) := by decide +kernel
theorem dX5_begin_38 : decode cX5_begin 38 = .ok (.bipush (-2), 2) := by decide +kernel
theorem dX5_begin_40 : decode cX5_begin 40 = .ok (.ireturn, 1) := by decide +kernel
theorem dX5_begin_41 : decode cX5_begin 41 = .ok (.iload_n 3, 1) := by decide +kernel
theorem dX5_begin_42 : decode cX5_begin 42 = .ok (.invokestatic 63, 3) := by decide +kernel
theorem dX5_begin_45 : decode cX5_begin 45 = .ok (.istore 5, 2) := by decide +kernel
theorem dX5_begin_47 : decode cX5_begin 47 = .ok (.aload_n 0, 1) := by decide +kernel
theorem dX5_begin_48 : decode cX5_begin 48 = .ok (.getfield 10, 3) := by decide +kernel
theorem dX5_begin_51 : decode cX5_begin 51 = .ok (.getfield 67, 3) := by decide +kernel
theorem dX5_begin_54 : decode cX5_begin 54 = .ok (.iload_n 1, 1) := by decide +kernel
theorem dX5_begin_55 : decode cX5_begin 55 = .ok (.if_icmp .eq 27, 3) := by decide +kernel
theorem dX5_begin_58 : decode cX5_begin 58 = .ok (.iload_n 2, 1) := by decide +kernel
theorem dX5_begin_59 : decode cX5_begin 59 = .ok (.aload_n 0, 1) := by decide +kernel
theorem dX5_begin_60 : decode cX5_begin 60 = .ok (.getfield 10, 3) := by decide +kernel
theorem dX5_begin_63 : decode cX5_begin 63 = .ok (.getfield 71, 3) := by decide +kernel
theorem dX5_begin_66 : decode cX5_begin 66 = .ok (.if_icmp .lt 16, 3) := by decide +kernel
theorem dX5_begin_69 : decode cX5_begin 69 = .ok (.aload_n 0, 1) := by decide +kernel
theorem dX5_begin_70 : decode cX5_begin 70 = .ok (.getfield 10, 3) := by decide +kernel
theorem dX5_begin_73 : decode cX5_begin 73 = .ok (.iload_n 1, 1) := by decide +kernel
theorem dX5_begin_74 : decode cX5_begin 74 = .ok (.iload 5, 2) := by decide +kernel
theorem dX5_begin_76 : decode cX5_begin 76 = .ok (.invokevirtual 74, 3) := by decide +kernel
theorem dX5_begin_79 : decode cX5_begin 79 = .ok (.ifCond .ne 6, 3) := by decide +kernel
theorem dX5_begin_82 : decode cX5_begin 82 = .ok (.bipush (-5), 2) := by decide +kernel
theorem dX5_begin_84 : decode cX5_begin 84 = .ok (.ireturn, 1) := by decide +kernel
theorem dX5_begin_85 : decode cX5_begin 85 = .ok (.aload_n 0, 1) := by decide +kernel
theorem dX5_begin_86 : decode cX5_begin 86 = .ok (.getfield 30, 3) := by decide +kernel
theorem dX5_begin_89 : decode cX5_begin 89 = .ok (.aload_n 0, 1) := by decide +kernel
theorem dX5_begin_90 : decode cX5_begin 90 = .ok (.getfield 10, 3) := by decide +kernel
theorem dX5_begin_93 : decode cX5_begin 93 = .ok (.invokevirtual 49, 3) := by decide +kernel
theorem dX5_begin_96 : decode cX5_begin 96 = .ok (.aload_n 0, 1) := by decide +kernel
theorem dX5_begin_97 : decode cX5_begin 97 = .ok (.getfield 10, 3) := by decide +kernel
theorem dX5_begin_100 : decode cX5_begin 100 = .ok (.iload_n 1, 1) := by decide +kernel
theorem dX5_begin_101 : decode cX5_begin 101 = .ok (.invokevirtual 78, 3) := by decide +kernel
theorem dX5_begin_104 : decode cX5_begin 104 = .ok (.astore 6, 2) := by decide +kernel
theorem dX5_begin_106 : decode cX5_begin 106 = .ok (.aload 6, 2) := by decide +kernel
theorem dX5_begin_108 : decode cX5_begin 108 = .ok (.iload 5, 2) := by decide +kernel
theorem dX5_begin_110 : decode cX5_begin 110 = .ok (.invokevirtual 82, 3) := by decide +kernel
theorem dX5_begin_113 : decode cX5_begin 113 = .ok (.aload 6, 2) := by decide +kernel
theorem dX5_begin_115 : decode cX5_begin 115 = .ok (.iload_n 2, 1) := by decide +kernel
theorem dX5_begin_116 : decode cX5_begin 116 = .ok (.iload_n 3, 1) := by decide +kernel
theorem dX5_begin_117 : decode cX5_begin 117 = .ok (.iload 4, 2) := by decide +kernel
theorem dX5_begin_119 : decode cX5_begin 119 = .ok (.invokevirtual 88, 3) := by decide +kernel
theorem dX5_begin_122 : decode cX5_begin 122 = .ok (.aload 6, 2) := by decide +kernel
theorem dX5_begin_124 : decode cX5_begin 124 = .ok (.iload 5, 2) := by decide +kernel
theorem dX5_begin_126 : decode cX5_begin 126 = .ok (.invokevirtual 92, 3) := by decide +kernel
theorem dX5_begin_129 : decode cX5_begin 129 = .ok (.ireturn, 1) := by decide +kernel
theorem dX5_fill_0 : decode cX5_fill 0 = .ok (.iload_n 1, 1) := by decide +kernel
theorem dX5_fill_1 : decode cX5_fill 1 = .ok (.invokestatic 56, 3) := by decide +kernel
theorem dX5_fill_4 : decode cX5_fill 4 = .ok (.ifCond .ne 5, 3) := by decide +kernel
theorem dX5_fill_7 : decode cX5_fill 7 = .ok (.iconst (-1), 1) := by decide +kernel
theorem dX5_fill_8 : decode cX5_fill 8 = .ok (.ireturn, 1) := by decide +kernel
theorem dX5_fill_9 : decode cX5_fill 9 = .ok (.iload_n 2, 1) := by decide +kernel
theorem dX5_fill_10 : decode cX5_fill 10 = .ok (.iconst 0, 1) := by decide +kernel
theorem dX5_fill_11 : decode cX5_fill 11 = .ok (.sipush 255, 3) := by decide +kernel
theorem dX5_fill_14 : decode cX5_fill 14 = .ok (.invokestatic 41, 3) := by decide +kernel
theorem dX5_fill_17 : decode cX5_fill 17 = .ok (.ifCond .ne 6, 3) := by decide +kernel
theorem dX5_fill_20 : decode cX5_fill 20 = .ok (.bipush (-2), 2) := by decide +kernel
theorem dX5_fill_22 : decode cX5_fill 22 = .ok (.ireturn, 1) := by decide +kernel
theorem dX5_fill_23 : decode cX5_fill 23 = .ok (.aload_n 0, 1) := by decide +kernel
theorem dX5_fill_24 : decode cX5_fill 24 = .ok (.getfield 10, 3) := by decide +kernel
theorem dX5_fill_27 : decode cX5_fill 27 = .ok (.iload_n 1, 1) := by decide +kernel
theorem dX5_fill_28 : decode cX5_fill 28 = .ok (.invokevirtual 78, 3) := by decide +kernel
theorem dX5_fill_31 : decode cX5_fill 31 = .ok (.astore_n 3, 1) := by decide +kernel
theorem dX5_fill_32 : decode cX5_fill 32 = .ok (.aload_n 3, 1) := by decide +kernel
theorem dX5_fill_33 : decode cX5_fill 33 = .ok (.getfield 95, 3) := by decide +kernel
theorem dX5_fill_36 : decode cX5_fill 36 = .ok (.iconst 1, 1) := by decide +kernel
theorem dX5_fill_37 : decode cX5_fill 37 = .ok (.if_icmp .ne 10, 3) := by decide +kernel
theorem dX5_fill_40 : decode cX5_fill 40 = .ok (.aload_n 3, 1) := by decide +kernel
theorem dX5_fill_41 : decode cX5_fill 41 = .ok (.invokevirtual 98, 3) := by decide +kernel
theorem dX5_fill_44 : decode cX5_fill 44 = .ok (.ifCond .ne 6, 3) := by decide +kernel
theorem dX5_fill_47 : decode cX5_fill 47 = .ok (.bipush (-5), 2) := by decide +kernel
theorem dX5_fill_49 : decode cX5_fill 49 = .ok (.ireturn, 1) := by decide +kernel
theorem dX5_fill_50 : decode cX5_fill 50 = .ok (.aload_n 0, 1) := by decide +kernel
theorem dX5_fill_51 : decode cX5_fill 51 = .ok (.getfield 30, 3) := by decide +kernel
theorem dX5_fill_54 : decode cX5_fill 54 = .ok (.aload_n 0, 1) := by decide +kernel
theorem dX5_fill_55 : decode cX5_fill 55 = .ok (.getfield 10, 3) := by decide +kernel
theorem dX5_fill_58 : decode cX5_fill 58 = .ok (.invokevirtual 49, 3) := by decide +kernel
theorem dX5_fill_61 : decode cX5_fill 61 = .ok (.aload_n 3, 1) := by decide +kernel
theorem dX5_fill_62 : decode cX5_fill 62 = .ok (.iload_n 2, 1) := by decide +kernel
theorem dX5_fill_63 : decode cX5_fill 63 = .ok (.invokevirtual 102, 3) := by decide +kernel
theorem dX5_fill_66 : decode cX5_fill 66 = .ok (.aload_n 3, 1) := by decide +kernel
theorem dX5_fill_67 : decode cX5_fill 67 = .ok (.getfield 105, 3) := by decide +kernel
theorem dX5_fill_70 : decode cX5_fill 70 = .ok (.ireturn, 1) := by decide +kernel
theorem dX5_fillAll_0 : decode cX5_fillAll 0 = .ok (.iload_n 1, 1) := by decide +kernel
theorem dX5_fillAll_1 : decode cX5_fillAll 1 = .ok (.invokestatic 56, 3) := by decide +kernel
theorem dX5_fillAll_4 : decode cX5_fillAll 4 = .ok (.ifCond .ne 5, 3) := by decide +kernel
theorem dX5_fillAll_7 : decode cX5_fillAll 7 = .ok (.iconst (-1), 1) := by decide +kernel
theorem dX5_fillAll_8 : decode cX5_fillAll 8 = .ok (.ireturn, 1) := by decide +kernel
theorem dX5_fillAll_9 : decode cX5_fillAll 9 = .ok (.aload_n 0, 1) := by decide +kernel
theorem dX5_fillAll_10 : decode cX5_fillAll 10 = .ok (.getfield 37, 3) := by decide +kernel
theorem dX5_fillAll_13 : decode cX5_fillAll 13 = .ok (.invokevirtual 108, 3) := by decide +kernel
theorem dX5_fillAll_16 : decode cX5_fillAll 16 = .ok (.bipush (-6), 2) := by decide +kernel
theorem dX5_fillAll_18 : decode cX5_fillAll 18 = .ok (.if_icmp .eq 6, 3) := by decide +kernel
theorem dX5_fillAll_21 : decode cX5_fillAll 21 = .ok (.bipush (-3), 2) := by decide +kernel
theorem dX5_fillAll_23 : decode cX5_fillAll 23 = .ok (.ireturn, 1) := by decide +kernel
theorem dX5_fillAll_24 : decode cX5_fillAll 24 = .ok (.aload_n 0, 1) := by decide +kernel
theorem dX5_fillAll_25 : decode cX5_fillAll 25 = .ok (.getfield 10, 3) := by decide +kernel
theorem dX5_fillAll_28 : decode cX5_fillAll 28 = .ok (.iload_n 1, 1) := by decide +kernel
theorem dX5_fillAll_29 : decode cX5_fillAll 29 = .ok (.invokevirtual 78, 3) := by decide +kernel
theorem dX5_fillAll_32 : decode cX5_fillAll 32 = .ok (.astore_n 2, 1) := by decide +kernel
theorem dX5_fillAll_33 : decode cX5_fillAll 33 = .ok (.aload_n 2, 1) := by decide +kernel
theorem dX5_fillAll_34 : decode cX5_fillAll 34 = .ok (.getfield 95, 3) := by decide +kernel
theorem dX5_fillAll_37 : decode cX5_fillAll 37 = .ok (.iconst 1, 1) := by decide +kernel
theorem dX5_fillAll_38 : decode cX5_fillAll 38 = .ok (.if_icmp .eq 6, 3) := by decide +kernel
theorem dX5_fillAll_41 : decode cX5_fillAll 41 = .ok (.bipush (-5), 2) := by decide +kernel
theorem dX5_fillAll_43 : decode cX5_fillAll 43 = .ok (.ireturn, 1) := by decide +kernel
theorem dX5_fillAll_44 : decode cX5_fillAll 44 = .ok (.aload_n 0, 1) := by decide +kernel
theorem dX5_fillAll_45 : decode cX5_fillAll 45 = .ok (.getfield 37, 3) := by decide +kernel
theorem dX5_fillAll_48 : decode cX5_fillAll 48 = .ok (.invokevirtual 111, 3) := by decide +kernel
theorem dX5_fillAll_51 : decode cX5_fillAll 51 = .ok (.istore_n 3, 1) := by decide +kernel
theorem dX5_fillAll_52 : decode cX5_fillAll 52 = .ok (.iload_n 3, 1) := by decide +kernel
theorem dX5_fillAll_53 : decode cX5_fillAll 53 = .ok (.aload_n 2, 1) := by decide +kernel
theorem dX5_fillAll_54 : decode cX5_fillAll 54 = .ok (.invokevirtual 98, 3) := by decide +kernel
theorem dX5_fillAll_57 : decode cX5_fillAll 57 = .ok (.if_icmp .le 6, 3) := by decide +kernel
theorem dX5_fillAll_60 : decode cX5_fillAll 60 = .ok (.bipush (-4), 2) := by decide +kernel
theorem dX5_fillAll_62 : decode cX5_fillAll 62 = .ok (.ireturn, 1) := by decide +kernel
theorem dX5_fillAll_63 : decode cX5_fillAll 63 = .ok (.aload_n 0, 1) := by decide +kernel
theorem dX5_fillAll_64 : decode cX5_fillAll 64 = .ok (.getfield 30, 3) := by decide +kernel
theorem dX5_fillAll_67 : decode cX5_fillAll 67 = .ok (.aload_n 0, 1) := by decide +kernel
theorem dX5_fillAll_68 : decode cX5_fillAll 68 = .ok (.getfield 10, 3) := by decide +kernel
theorem dX5_fillAll_71 : decode cX5_fillAll 71 = .ok (.invokevirtual 49, 3) := by decide +kernel
theorem dX5_fillAll_74 : decode cX5_fillAll 74 = .ok (.iconst 0, 1) := by decide +kernel
theorem dX5_fillAll_75 : decode cX5_fillAll 75 = .ok (.istore 4, 2) := by decide +kernel
theorem dX5_fillAll_77 : decode cX5_fillAll 77 = .ok (.iload 4, 2) := by decide +kernel
theorem dX5_fillAll_79 : decode cX5_fillAll 79 = .ok (.iload_n 3, 1) := by decide +kernel
theorem dX5_fillAll_80 : decode cX5_fillAll 80 = .ok (.if_icmp .ge 22, 3) := by decide +kernel
theorem dX5_fillAll_83 : decode cX5_fillAll 83 = .ok (.aload_n 2, 1) := by decide +kernel
theorem dX5_fillAll_84 : decode cX5_fillAll 84 = .ok (.aload_n 0, 1) := by decide +kernel
theorem dX5_fillAll_85 : decode cX5_fillAll 85 = .ok (.getfield 37, 3) := by decide +kernel
theorem dX5_fillAll_88 : decode cX5_fillAll 88 = .ok (.iload 4, 2) := by decide +kernel
theorem dX5_fillAll_90 : decode cX5_fillAll 90 = .ok (.invokevirtual 114, 3) := by decide +kernel
theorem dX5_fillAll_93 : decode cX5_fillAll 93 = .ok (.invokevirtual 102, 3) := by decide +kernel
theorem dX5_fillAll_96 : decode cX5_fillAll 96 = .ok (.iinc 4 1, 3) := by decide +kernel
theorem dX5_fillAll_99 : decode cX5_fillAll 99 = .ok (.goto (-22), 3) := by decide +kernel
theorem dX5_fillAll_102 : decode cX5_fillAll 102 = .ok (.aload_n 0, 1) := by decide +kernel
theorem dX5_fillAll_103 : decode cX5_fillAll 103 = .ok (.getfield 37, 3) := by decide +kernel
theorem dX5_fillAll_106 : decode cX5_fillAll 106 = .ok (.invokevirtual 117, 3) := by decide +kernel
theorem dX5_fillAll_109 : decode cX5_fillAll 109 = .ok (.aload_n 2, 1) := by decide +kernel
theorem dX5_fillAll_110 : decode cX5_fillAll 110 = .ok (.getfield 105, 3) := by decide +kernel
theorem dX5_fillAll_113 : decode cX5_fillAll 113 = .ok (.ireturn, 1) := by decide +kernel
theorem dX5_finish_0 : decode cX5_finish 0 = .ok (.iload_n 1, 1) := by decide +kernel
theorem dX5_finish_1 : decode cX5_finish 1 = .ok (.invokestatic 56, 3) := by decide +kernel
theorem dX5_finish_4 : decode cX5_finish 4 = .ok (.ifCond .ne 5, 3) := by decide +kernel
theorem dX5_finish_7 : decode cX5_finish 7 = .ok (.iconst (-1), 1) := by decide +kernel
theorem dX5_finish_8 : decode cX5_finish 8 = .ok (.ireturn, 1) := by decide +kernel
theorem dX5_finish_9 : decode cX5_finish 9 = .ok (.aload_n 0, 1) := by decide +kernel
theorem dX5_finish_10 : decode cX5_finish 10 = .ok (.getfield 10, 3) := by decide +kernel
theorem dX5_finish_13 : decode cX5_finish 13 = .ok (.iload_n 1, 1) := by decide +kernel
theorem dX5_finish_14 : decode cX5_finish 14 = .ok (.invokevirtual 78, 3) := by decide +kernel
theorem dX5_finish_17 : decode cX5_finish 17 = .ok (.astore_n 2, 1) := by decide +kernel
theorem dX5_finish_18 : decode cX5_finish 18 = .ok (.aload_n 2, 1) := by decide +kernel
theorem dX5_finish_19 : decode cX5_finish 19 = .ok (.getfield 95, 3) := by decide +kernel
theorem dX5_finish_22 : decode cX5_finish 22 = .ok (.iconst 1, 1) := by decide +kernel
theorem dX5_finish_23 : decode cX5_finish 23 = .ok (.if_icmp .ne 10, 3) := by decide +kernel
theorem dX5_finish_26 : decode cX5_finish 26 = .ok (.aload_n 2, 1) := by decide +kernel
theorem dX5_finish_27 : decode cX5_finish 27 = .ok (.invokevirtual 98, 3) := by decide +kernel
theorem dX5_finish_30 : decode cX5_finish 30 = .ok (.ifCond .le 6, 3) := by decide +kernel
theorem dX5_finish_33 : decode cX5_finish 33 = .ok (.bipush (-5), 2) := by decide +kernel
theorem dX5_finish_35 : decode cX5_finish 35 = .ok (.ireturn, 1) := by decide +kernel
theorem dX5_finish_36 : decode cX5_finish 36 = .ok (.aload_n 0, 1) := by decide +kernel
theorem dX5_finish_37 : decode cX5_finish 37 = .ok (.getfield 30, 3) := by decide +kernel
theorem dX5_finish_40 : decode cX5_finish 40 = .ok (.aload_n 0, 1) := by decide +kernel
theorem dX5_finish_41 : decode cX5_finish 41 = .ok (.getfield 10, 3) := by decide +kernel
theorem dX5_finish_44 : decode cX5_finish 44 = .ok (.invokevirtual 49, 3) := by decide +kernel
theorem dX5_finish_47 : decode cX5_finish 47 = .ok (.aload_n 2, 1) := by decide +kernel
theorem dX5_finish_48 : decode cX5_finish 48 = .ok (.invokevirtual 120, 3) := by decide +kernel
theorem dX5_finish_51 : decode cX5_finish 51 = .ok (.ifCond .ne 10, 3) := by decide +kernel
theorem dX5_finish_54 : decode cX5_finish 54 = .ok (.aload_n 2, 1) := by decide +kernel
theorem dX5_finish_55 : decode cX5_finish 55 = .ok (.iconst 4, 1) := by decide +kernel
theorem dX5_finish_56 : decode cX5_finish 56 = .ok (.putfield 95, 3) := by decide +kernel
theorem dX5_finish_59 : decode cX5_finish 59 = .ok (.iconst 0, 1) := by decide +kernel
theorem dX5_finish_60 : decode cX5_finish 60 = .ok (.ireturn, 1) := by decide +kernel
theorem dX5_finish_61 : decode cX5_finish 61 = .ok (.aload_n 2, 1) := by decide +kernel
theorem dX5_finish_62 : decode cX5_finish 62 = .ok (.iconst 2, 1) := by decide +kernel
theorem dX5_finish_63 : decode cX5_finish 63 = .ok (.putfield 95, 3) := by decide +kernel
theorem dX5_finish_66 : decode cX5_finish 66 = .ok (.aload_n 2, 1) := by decide +kernel
theorem dX5_finish_67 : decode cX5_finish 67 = .ok (.aload_n 0, 1) := by decide +kernel
theorem dX5_finish_68 : decode cX5_finish 68 = .ok (.getfield 10, 3) := by decide +kernel
theorem dX5_finish_71 : decode cX5_finish 71 = .ok (.getfield 53, 3) := by decide +kernel
theorem dX5_finish_74 : decode cX5_finish 74 = .ok (.iconst 0, 1) := by decide +kernel
theorem dX5_finish_75 : decode cX5_finish 75 = .ok (.iaload, 1) := by decide +kernel
theorem dX5_finish_76 : decode cX5_finish 76 = .ok (.putfield 124, 3) := by decide +kernel
theorem dX5_finish_79 : decode cX5_finish 79 = .ok (.iconst 1, 1) := by decide +kernel
theorem dX5_finish_80 : decode cX5_finish 80 = .ok (.ireturn, 1) := by decide +kernel
theorem dX5_damage_0 : decode cX5_damage 0 = .ok (.iload_n 1, 1) := by decide +kernel
theorem dX5_damage_1 : decode cX5_damage 1 = .ok (.invokestatic 56, 3) := by decide +kernel
theorem dX5_damage_4 : decode cX5_damage 4 = .ok (.ifCond .eq 13, 3) := by decide +kernel
theorem dX5_damage_7 : decode cX5_damage 7 = .ok (.iload_n 2, 1) := by decide +kernel
theorem dX5_damage_8 : decode cX5_damage 8 = .ok (.iconst 0, 1) := by decide +kernel
theorem dX5_damage_9 : decode cX5_damage 9 = .ok (.bipush 31, 2) := by decide +kernel
theorem dX5_damage_11 : decode cX5_damage 11 = .ok (.invokestatic 41, 3) := by decide +kernel
theorem dX5_damage_14 : decode cX5_damage 14 = .ok (.ifCond .ne 5, 3) := by decide +kernel
theorem dX5_damage_17 : decode cX5_damage 17 = .ok (.iconst (-1), 1) := by decide +kernel
theorem dX5_damage_18 : decode cX5_damage 18 = .ok (.ireturn, 1) := by decide +kernel
theorem dX5_damage_19 : decode cX5_damage 19 = .ok (.iload_n 3, 1) := by decide +kernel
theorem dX5_damage_20 : decode cX5_damage 20 = .ok (.iconst 1, 1) := by decide +kernel
theorem dX5_damage_21 : decode cX5_damage 21 = .ok (.sipush 255, 3) := by decide +kernel
theorem dX5_damage_24 : decode cX5_damage 24 = .ok (.invokestatic 41, 3) := by decide +kernel
theorem dX5_damage_27 : decode cX5_damage 27 = .ok (.ifCond .ne 6, 3) := by decide +kernel
theorem dX5_damage_30 : decode cX5_damage 30 = .ok (.bipush (-2), 2) := by decide +kernel
theorem dX5_damage_32 : decode cX5_damage 32 = .ok (.ireturn, 1) := by decide +kernel
theorem dX5_damage_33 : decode cX5_damage 33 = .ok (.aload_n 0, 1) := by decide +kernel
theorem dX5_damage_34 : decode cX5_damage 34 = .ok (.getfield 30, 3) := by decide +kernel
theorem dX5_damage_37 : decode cX5_damage 37 = .ok (.aload_n 0, 1) := by decide +kernel
theorem dX5_damage_38 : decode cX5_damage 38 = .ok (.getfield 10, 3) := by decide +kernel
theorem dX5_damage_41 : decode cX5_damage 41 = .ok (.invokevirtual 49, 3) := by decide +kernel
theorem dX5_damage_44 : decode cX5_damage 44 = .ok (.aload_n 0, 1) := by decide +kernel
theorem dX5_damage_45 : decode cX5_damage 45 = .ok (.getfield 10, 3) := by decide +kernel
theorem dX5_damage_48 : decode cX5_damage 48 = .ok (.iload_n 1, 1) := by decide +kernel
theorem dX5_damage_49 : decode cX5_damage 49 = .ok (.invokevirtual 78, 3) := by decide +kernel
theorem dX5_damage_52 : decode cX5_damage 52 = .ok (.astore 4, 2) := by decide +kernel
theorem dX5_damage_54 : decode cX5_damage 54 = .ok (.aload 4, 2) := by decide +kernel
theorem dX5_damage_56 : decode cX5_damage 56 = .ok (.getfield 127, 3) := by decide +kernel
theorem dX5_damage_59 : decode cX5_damage 59 = .ok (.iload_n 2, 1) := by decide +kernel
theorem dX5_damage_60 : decode cX5_damage 60 = .ok (.dup2, 1) := by decide +kernel
theorem dX5_damage_61 : decode cX5_damage 61 = .ok (.iaload, 1) := by decide +kernel
theorem dX5_damage_62 : decode cX5_damage 62 = .ok (.iload_n 3, 1) := by decide +kernel
theorem dX5_damage_63 : decode cX5_damage 63 = .ok (.ixor, 1) := by decide +kernel
theorem dX5_damage_64 : decode cX5_damage 64 = .ok (.iastore, 1) := by decide +kernel
theorem dX5_damage_65 : decode cX5_damage 65 = .ok (.aload 4, 2) := by decide +kernel
theorem dX5_damage_67 : decode cX5_damage 67 = .ok (.getfield 127, 3) := by decide +kernel
theorem dX5_damage_70 : decode cX5_damage 70 = .ok (.iload_n 2, 1) := by decide +kernel
theorem dX5_damage_71 : decode cX5_damage 71 = .ok (.iaload, 1) := by decide +kernel
theorem dX5_damage_72 : decode cX5_damage 72 = .ok (.ireturn, 1) := by decide +kernel
theorem dX5_repair_0 : decode cX5_repair 0 = .ok (.iload_n 1, 1) := by decide +kernel
theorem dX5_repair_1 : decode cX5_repair 1 = .ok (.invokestatic 56, 3) := by decide +kernel
theorem dX5_repair_4 : decode cX5_repair 4 = .ok (.ifCond .ne 5, 3) := by decide +kernel
theorem dX5_repair_7 : decode cX5_repair 7 = .ok (.iconst (-1), 1) := by decide +kernel
theorem dX5_repair_8 : decode cX5_repair 8 = .ok (.ireturn, 1) := by decide +kernel
theorem dX5_repair_9 : decode cX5_repair 9 = .ok (.aload_n 0, 1) := by decide +kernel
theorem dX5_repair_10 : decode cX5_repair 10 = .ok (.getfield 10, 3) := by decide +kernel
theorem dX5_repair_13 : decode cX5_repair 13 = .ok (.getfield 67, 3) := by decide +kernel
theorem dX5_repair_16 : decode cX5_repair 16 = .ok (.iconst 2, 1) := by decide +kernel
theorem dX5_repair_17 : decode cX5_repair 17 = .ok (.if_icmp .ne 25, 3) := by decide +kernel
theorem dX5_repair_20 : decode cX5_repair 20 = .ok (.aload_n 0, 1) := by decide +kernel
theorem dX5_repair_21 : decode cX5_repair 21 = .ok (.getfield 10, 3) := by decide +kernel
theorem dX5_repair_24 : decode cX5_repair 24 = .ok (.iload_n 1, 1) := by decide +kernel
theorem dX5_repair_25 : decode cX5_repair 25 = .ok (.iconst 1, 1) := by decide +kernel
theorem dX5_repair_26 : decode cX5_repair 26 = .ok (.invokevirtual 74, 3) := by decide +kernel
theorem dX5_repair_29 : decode cX5_repair 29 = .ok (.ifCond .eq 13, 3) := by decide +kernel
theorem dX5_repair_32 : decode cX5_repair 32 = .ok (.aload_n 0, 1) := by decide +kernel
theorem dX5_repair_33 : decode cX5_repair 33 = .ok (.getfield 10, 3) := by decide +kernel
theorem dX5_repair_36 : decode cX5_repair 36 = .ok (.getfield 71, 3) := by decide +kernel
theorem dX5_repair_39 : decode cX5_repair 39 = .ok (.ifCond .le 6, 3) := by decide +kernel
theorem dX5_repair_42 : decode cX5_repair 42 = .ok (.bipush (-5), 2) := by decide +kernel
theorem dX5_repair_44 : decode cX5_repair 44 = .ok (.ireturn, 1) := by decide +kernel
theorem dX5_repair_45 : decode cX5_repair 45 = .ok (.aload_n 0, 1) := by decide +kernel
theorem dX5_repair_46 : decode cX5_repair 46 = .ok (.getfield 30, 3) := by decide +kernel
theorem dX5_repair_49 : decode cX5_repair 49 = .ok (.aload_n 0, 1) := by decide +kernel
theorem dX5_repair_50 : decode cX5_repair 50 = .ok (.getfield 10, 3) := by decide +kernel
theorem dX5_repair_53 : decode cX5_repair 53 = .ok (.invokevirtual 49, 3) := by decide +kernel
theorem dX5_repair_56 : decode cX5_repair 56 = .ok (.aload_n 0, 1) := by decide +kernel
theorem dX5_repair_57 : decode cX5_repair 57 = .ok (.getfield 10, 3) := by decide +kernel
theorem dX5_repair_60 : decode cX5_repair 60 = .ok (.iload_n 1, 1) := by decide +kernel
theorem dX5_repair_61 : decode cX5_repair 61 = .ok (.invokevirtual 78, 3) := by decide +kernel
theorem dX5_repair_64 : decode cX5_repair 64 = .ok (.astore_n 2, 1) := by decide +kernel
theorem dX5_repair_65 : decode cX5_repair 65 = .ok (.aload_n 2, 1) := by decide +kernel
theorem dX5_repair_66 : decode cX5_repair 66 = .ok (.iconst 1, 1) := by decide +kernel
theorem dX5_repair_67 : decode cX5_repair 67 = .ok (.invokevirtual 82, 3) := by decide +kernel
theorem dX5_repair_70 : decode cX5_repair 70 = .ok (.aload_n 2, 1) := by decide +kernel
theorem dX5_repair_71 : decode cX5_repair 71 = .ok (.invokevirtual 129, 3) := by decide +kernel
theorem dX5_repair_74 : decode cX5_repair 74 = .ok (.aload_n 2, 1) := by decide +kernel
theorem dX5_repair_75 : decode cX5_repair 75 = .ok (.iconst 1, 1) := by decide +kernel
theorem dX5_repair_76 : decode cX5_repair 76 = .ok (.invokevirtual 92, 3) := by decide +kernel
theorem dX5_repair_79 : decode cX5_repair 79 = .ok (.ireturn, 1) := by decide +kernel
theorem dX5_start_0 : decode cX5_start 0 = .ok (.aload_n 0, 1) := by decide +kernel
theorem dX5_start_1 : decode cX5_start 1 = .ok (.getfield 30, 3) := by decide +kernel
theorem dX5_start_4 : decode cX5_start 4 = .ok (.aload_n 0, 1) := by decide +kernel
theorem dX5_start_5 : decode cX5_start 5 = .ok (.getfield 10, 3) := by decide +kernel
theorem dX5_start_8 : decode cX5_start 8 = .ok (.invokevirtual 49, 3) := by decide +kernel
theorem dX5_start_11 : decode cX5_start 11 = .ok (.aload_n 0, 1) := by decide +kernel
theorem dX5_start_12 : decode cX5_start 12 = .ok (.getfield 10, 3) := by decide +kernel
theorem dX5_start_15 : decode cX5_start 15 = .ok (.iload_n 1, 1) := by decide +kernel
theorem dX5_start_16 : decode cX5_start 16 = .ok (.ifCond .eq 7, 3) := by decide +kernel
theorem dX5_start_19 : decode cX5_start 19 = .ok (.iconst 2, 1) := by decide +kernel
theorem dX5_start_20 : decode cX5_start 20 = .ok (.goto 4, 3) := by decide +kernel
theorem dX5_start_23 : decode cX5_start 23 = .ok (.iconst 0, 1) := by decide +kernel
theorem dX5_start_24 : decode cX5_start 24 = .ok (.invokevirtual 132, 3) := by decide +kernel
theorem dX5_start_27 : decode cX5_start 27 = .ok (.aload_n 0, 1) := by decide +kernel
theorem dX5_start_28 : decode cX5_start 28 = .ok (.getfield 10, 3) := by decide +kernel
theorem dX5_start_31 : decode cX5_start 31 = .ok (.getfield 67, 3) := by decide +kernel
theorem dX5_start_34 : decode cX5_start 34 = .ok (.ireturn, 1) := by decide +kernel
theorem dX5_pass_0 : decode cX5_pass 0 = .ok (.iload_n 1, 1) := by decide +kernel
theorem dX5_pass_1 : decode cX5_pass 1 = .ok (.iconst 1, 1) := by decide +kernel
theorem dX5_pass_2 : decode cX5_pass 2 = .ok (.sipush 500, 3) := by decide +kernel
theorem dX5_pass_5 : decode cX5_pass 5 = .ok (.invokestatic 41, 3) := by decide +kernel
theorem dX5_pass_8 : decode cX5_pass 8 = .ok (.ifCond .ne 6, 3) := by decide +kernel
theorem dX5_pass_11 : decode cX5_pass 11 = .ok (.bipush (-2), 2) := by decide +kernel
theorem dX5_pass_13 : decode cX5_pass 13 = .ok (.ireturn, 1) := by decide +kernel
theorem dX5_pass_14 : decode cX5_pass 14 = .ok (.aload_n 0, 1) := by decide +kernel
theorem dX5_pass_15 : decode cX5_pass 15 = .ok (.getfield 30, 3) := by decide +kernel
theorem dX5_pass_18 : decode cX5_pass 18 = .ok (.aload_n 0, 1) := by decide +kernel
theorem dX5_pass_19 : decode cX5_pass 19 = .ok (.getfield 10, 3) := by decide +kernel
theorem dX5_pass_22 : decode cX5_pass 22 = .ok (.invokevirtual 49, 3) := by decide +kernel
theorem dX5_pass_25 : decode cX5_pass 25 = .ok (.aload_n 0, 1) := by decide +kernel
theorem dX5_pass_26 : decode cX5_pass 26 = .ok (.getfield 10, 3) := by decide +kernel
theorem dX5_pass_29 : decode cX5_pass 29 = .ok (.iload_n 1, 1) := by decide +kernel
theorem dX5_pass_30 : decode cX5_pass 30 = .ok (.invokevirtual 135, 3) := by decide +kernel
theorem dX5_pass_33 : decode cX5_pass 33 = .ok (.ireturn, 1) := by decide +kernel
theorem dX5_slot_0 : decode cX5_slot 0 = .ok (.iload_n 1, 1) := by decide +kernel
theorem dX5_slot_1 : decode cX5_slot 1 = .ok (.invokestatic 56, 3) := by decide +kernel
theorem dX5_slot_4 : decode cX5_slot 4 = .ok (.ifCond .ne 5, 3) := by decide +kernel
theorem dX5_slot_7 : decode cX5_slot 7 = .ok (.iconst (-1), 1) := by decide +kernel
theorem dX5_slot_8 : decode cX5_slot 8 = .ok (.ireturn, 1) := by decide +kernel
theorem dX5_slot_9 : decode cX5_slot 9 = .ok (.aload_n 0, 1) := by decide +kernel
theorem dX5_slot_10 : decode cX5_slot 10 = .ok (.getfield 10, 3) := by decide +kernel
theorem dX5_slot_13 : decode cX5_slot 13 = .ok (.iload_n 1, 1) := by decide +kernel
theorem dX5_slot_14 : decode cX5_slot 14 = .ok (.invokevirtual 78, 3) := by decide +kernel
theorem dX5_slot_17 : decode cX5_slot 17 = .ok (.astore_n 3, 1) := by decide +kernel
theorem dX5_slot_18 : decode cX5_slot 18 = .ok (.iload_n 2, 1) := by decide +kernel
theorem dX5_slot_19 : decode cX5_slot 19 = .ok (.tableswitch 117 0 8 #[49, 54, 59, 64, 69, 74, 79, 96, 103], 49) := by decide +kernel
theorem dX5_slot_68 : decode cX5_slot 68 = .ok (.aload_n 3, 1) := by decide +kernel
theorem dX5_slot_69 : decode cX5_slot 69 = .ok (.getfield 95, 3) := by decide +kernel
theorem dX5_slot_72 : decode cX5_slot 72 = .ok (.ireturn, 1) := by decide +kernel
theorem dX5_slot_73 : decode cX5_slot 73 = .ok (.aload_n 3, 1) := by decide +kernel
theorem dX5_slot_74 : decode cX5_slot 74 = .ok (.getfield 138, 3) := by decide +kernel
theorem dX5_slot_77 : decode cX5_slot 77 = .ok (.ireturn, 1) := by decide +kernel
theorem dX5_slot_78 : decode cX5_slot 78 = .ok (.aload_n 3, 1) := by decide +kernel
theorem dX5_slot_79 : decode cX5_slot 79 = .ok (.getfield 141, 3) := by decide +kernel
theorem dX5_slot_82 : decode cX5_slot 82 = .ok (.ireturn, 1) := by decide +kernel
theorem dX5_slot_83 : decode cX5_slot 83 = .ok (.aload_n 3, 1) := by decide +kernel
theorem dX5_slot_84 : decode cX5_slot 84 = .ok (.getfield 144, 3) := by decide +kernel
theorem dX5_slot_87 : decode cX5_slot 87 = .ok (.ireturn, 1) := by decide +kernel
theorem dX5_slot_88 : decode cX5_slot 88 = .ok (.aload_n 3, 1) := by decide +kernel
theorem dX5_slot_89 : decode cX5_slot 89 = .ok (.getfield 124, 3) := by decide +kernel
theorem dX5_slot_92 : decode cX5_slot 92 = .ok (.ireturn, 1) := by decide +kernel
theorem dX5_slot_93 : decode cX5_slot 93 = .ok (.aload_n 3, 1) := by decide +kernel
theorem dX5_slot_94 : decode cX5_slot 94 = .ok (.getfield 105, 3) := by decide +kernel
theorem dX5_slot_97 : decode cX5_slot 97 = .ok (.ireturn, 1) := by decide +kernel
theorem dX5_slot_98 : decode cX5_slot 98 = .ok (.aload_n 3, 1) := by decide +kernel
theorem dX5_slot_99 : decode cX5_slot 99 = .ok (.getfield 141, 3) := by decide +kernel
theorem dX5_slot_102 : decode cX5_slot 102 = .ok (.ifCond .ne 8, 3) := by decide +kernel
theorem dX5_slot_105 : decode cX5_slot 105 = .ok (.bipush (-6), 2) := by decide +kernel
theorem dX5_slot_107 : decode cX5_slot 107 = .ok (.goto 7, 3) := by decide +kernel
theorem dX5_slot_110 : decode cX5_slot 110 = .ok (.aload_n 3, 1) := by decide +kernel
theorem dX5_slot_111 : decode cX5_slot 111 = .ok (.invokevirtual 147, 3) := by decide +kernel
theorem dX5_slot_114 : decode cX5_slot 114 = .ok (.ireturn, 1) := by decide +kernel
theorem dX5_slot_115 : decode cX5_slot 115 = .ok (.aload_n 3, 1) := by decide +kernel
theorem dX5_slot_116 : decode cX5_slot 116 = .ok (.bipush 8, 2) := by decide +kernel
theorem dX5_slot_118 : decode cX5_slot 118 = .ok (.invokevirtual 92, 3) := by decide +kernel
theorem dX5_slot_121 : decode cX5_slot 121 = .ok (.ireturn, 1) := by decide +kernel
theorem dX5_slot_122 : decode cX5_slot 122 = .ok (.aload_n 3, 1) := by decide +kernel
theorem dX5_slot_123 : decode cX5_slot 123 = .ok (.aload_n 0, 1) := by decide +kernel
theorem dX5_slot_124 : decode cX5_slot 124 = .ok (.getfield 10, 3) := by decide +kernel
theorem dX5_slot_127 : decode cX5_slot 127 = .ok (.getfield 53, 3) := by decide +kernel
theorem dX5_slot_130 : decode cX5_slot 130 = .ok (.iconst 2, 1) := by decide +kernel
theorem dX5_slot_131 : decode cX5_slot 131 = .ok (.iaload, 1) := by decide +kernel
theorem dX5_slot_132 : decode cX5_slot 132 = .ok (.invokevirtual 150, 3) := by decide +kernel
theorem dX5_slot_135 : decode cX5_slot 135 = .ok (.ireturn, 1) := by decide +kernel
theorem dX5_slot_136 : decode cX5_slot 136 = .ok (.bipush (-2), 2) := by decide +kernel
theorem dX5_slot_138 : decode cX5_slot 138 = .ok (.ireturn, 1) := by decide +kernel
theorem dX5_word_0 : decode cX5_word 0 = .ok (.iload_n 1, 1) := by decide +kernel
theorem dX5_word_1 : decode cX5_word 1 = .ok (.iconst 0, 1) := by decide +kernel
theorem dX5_word_2 : decode cX5_word 2 = .ok (.iconst 2, 1) := by decide +kernel
theorem dX5_word_3 : decode cX5_word 3 = .ok (.invokestatic 41, 3) := by decide +kernel
theorem dX5_word_6 : decode cX5_word 6 = .ok (.ifCond .eq 13, 3) := by decide +kernel
theorem dX5_word_9 : decode cX5_word 9 = .ok (.iload_n 2, 1) := by decide +kernel
theorem dX5_word_10 : decode cX5_word 10 = .ok (.iconst 0, 1) := by decide +kernel
theorem dX5_word_11 : decode cX5_word 11 = .ok (.bipush 31, 2) := by decide +kernel
theorem dX5_word_13 : decode cX5_word 13 = .ok (.invokestatic 41, 3) := by decide +kernel
theorem dX5_word_16 : decode cX5_word 16 = .ok (.ifCond .ne 5, 3) := by decide +kernel
theorem dX5_word_19 : decode cX5_word 19 = .ok (.iconst (-1), 1) := by decide +kernel
theorem dX5_word_20 : decode cX5_word 20 = .ok (.ireturn, 1) := by decide +kernel
theorem dX5_word_21 : decode cX5_word 21 = .ok (.aload_n 0, 1) := by decide +kernel
theorem dX5_word_22 : decode cX5_word 22 = .ok (.getfield 10, 3) := by decide +kernel
theorem dX5_word_25 : decode cX5_word 25 = .ok (.iload_n 1, 1) := by decide +kernel
theorem dX5_word_26 : decode cX5_word 26 = .ok (.invokevirtual 78, 3) := by decide +kernel
theorem dX5_word_29 : decode cX5_word 29 = .ok (.getfield 127, 3) := by decide +kernel
theorem dX5_word_32 : decode cX5_word 32 = .ok (.iload_n 2, 1) := by decide +kernel
theorem dX5_word_33 : decode cX5_word 33 = .ok (.iaload, 1) := by decide +kernel
theorem dX5_word_34 : decode cX5_word 34 = .ok (.ireturn, 1) := by decide +kernel
theorem dX5_wear_0 : decode cX5_wear 0 = .ok (.iload_n 1, 1) := by decide +kernel
theorem dX5_wear_1 : decode cX5_wear 1 = .ok (.invokestatic 56, 3) := by decide +kernel
theorem dX5_wear_4 : decode cX5_wear 4 = .ok (.ifCond .eq 13, 3) := by decide +kernel
theorem dX5_wear_7 : decode cX5_wear 7 = .ok (.iload_n 2, 1) := by decide +kernel
theorem dX5_wear_8 : decode cX5_wear 8 = .ok (.iconst 0, 1) := by decide +kernel
theorem dX5_wear_9 : decode cX5_wear 9 = .ok (.bipush 7, 2) := by decide +kernel
theorem dX5_wear_11 : decode cX5_wear 11 = .ok (.invokestatic 41, 3) := by decide +kernel
theorem dX5_wear_14 : decode cX5_wear 14 = .ok (.ifCond .ne 5, 3) := by decide +kernel
theorem dX5_wear_17 : decode cX5_wear 17 = .ok (.iconst (-1), 1) := by decide +kernel
theorem dX5_wear_18 : decode cX5_wear 18 = .ok (.ireturn, 1) := by decide +kernel
theorem dX5_wear_19 : decode cX5_wear 19 = .ok (.aload_n 0, 1) := by decide +kernel
theorem dX5_wear_20 : decode cX5_wear 20 = .ok (.getfield 10, 3) := by decide +kernel
theorem dX5_wear_23 : decode cX5_wear 23 = .ok (.iload_n 1, 1) := by decide +kernel
theorem dX5_wear_24 : decode cX5_wear 24 = .ok (.invokevirtual 78, 3) := by decide +kernel
theorem dX5_wear_27 : decode cX5_wear 27 = .ok (.getfield 153, 3) := by decide +kernel
theorem dX5_wear_30 : decode cX5_wear 30 = .ok (.iload_n 2, 1) := by decide +kernel
theorem dX5_wear_31 : decode cX5_wear 31 = .ok (.iaload, 1) := by decide +kernel
theorem dX5_wear_32 : decode cX5_wear 32 = .ok (.ireturn, 1) := by decide +kernel
theorem dX5_past_0 : decode cX5_past 0 = .ok (.iload_n 1, 1) := by decide +kernel
theorem dX5_past_1 : decode cX5_past 1 = .ok (.iconst 0, 1) := by decide +kernel
theorem dX5_past_2 : decode cX5_past 2 = .ok (.aload_n 0, 1) := by decide +kernel
theorem dX5_past_3 : decode cX5_past 3 = .ok (.getfield 10, 3) := by decide +kernel
theorem dX5_past_6 : decode cX5_past 6 = .ok (.getfield 156, 3) := by decide +kernel
theorem dX5_past_9 : decode cX5_past 9 = .ok (.getfield 160, 3) := by decide +kernel
theorem dX5_past_12 : decode cX5_past 12 = .ok (.iconst 1, 1) := by decide +kernel
theorem dX5_past_13 : decode cX5_past 13 = .ok (.isub, 1) := by decide +kernel
theorem dX5_past_14 : decode cX5_past 14 = .ok (.invokestatic 41, 3) := by decide +kernel
theorem dX5_past_17 : decode cX5_past 17 = .ok (.ifCond .ne 5, 3) := by decide +kernel
theorem dX5_past_20 : decode cX5_past 20 = .ok (.iconst (-1), 1) := by decide +kernel
theorem dX5_past_21 : decode cX5_past 21 = .ok (.ireturn, 1) := by decide +kernel
theorem dX5_past_22 : decode cX5_past 22 = .ok (.aload_n 0, 1) := by decide +kernel
theorem dX5_past_23 : decode cX5_past 23 = .ok (.getfield 10, 3) := by decide +kernel
theorem dX5_past_26 : decode cX5_past 26 = .ok (.getfield 156, 3) := by decide +kernel
theorem dX5_past_29 : decode cX5_past 29 = .ok (.iload_n 1, 1) := by decide +kernel
theorem dX5_past_30 : decode cX5_past 30 = .ok (.invokevirtual 165, 3) := by decide +kernel
theorem dX5_past_33 : decode cX5_past 33 = .ok (.istore_n 3, 1) := by decide +kernel
theorem dX5_past_34 : decode cX5_past 34 = .ok (.iload_n 2, 1) := by decide +kernel
theorem dX5_past_35 : decode cX5_past 35 = .ok (.tableswitch 64 0 2 #[25, 38, 51], 25) := by decide +kernel
theorem dX5_past_60 : decode cX5_past 60 = .ok (.aload_n 0, 1) := by decide +kernel
theorem dX5_past_61 : decode cX5_past 61 = .ok (.getfield 10, 3) := by decide +kernel
theorem dX5_past_64 : decode cX5_past 64 = .ok (.getfield 156, 3) := by decide +kernel
theorem dX5_past_67 : decode cX5_past 67 = .ok (.getfield 168, 3) := by decide +kernel
theorem dX5_past_70 : decode cX5_past 70 = .ok (.iload_n 3, 1) := by decide +kernel
theorem dX5_past_71 : decode cX5_past 71 = .ok (.iaload, 1) := by decide +kernel
theorem dX5_past_72 : decode cX5_past 72 = .ok (.ireturn, 1) := by decide +kernel
theorem dX5_past_73 : decode cX5_past 73 = .ok (.aload_n 0, 1) := by decide +kernel
theorem dX5_past_74 : decode cX5_past 74 = .ok (.getfield 10, 3) := by decide +kernel
theorem dX5_past_77 : decode cX5_past 77 = .ok (.getfield 156, 3) := by decide +kernel
theorem dX5_past_80 : decode cX5_past 80 = .ok (.getfield 171, 3) := by decide +kernel
theorem dX5_past_83 : decode cX5_past 83 = .ok (.iload_n 3, 1) := by decide +kernel
theorem dX5_past_84 : decode cX5_past 84 = .ok (.iaload, 1) := by decide +kernel
theorem dX5_past_85 : decode cX5_past 85 = .ok (.ireturn, 1) := by decide +kernel
theorem dX5_past_86 : decode cX5_past 86 = .ok (.aload_n 0, 1) := by decide +kernel
theorem dX5_past_87 : decode cX5_past 87 = .ok (.getfield 10, 3) := by decide +kernel
theorem dX5_past_90 : decode cX5_past 90 = .ok (.getfield 156, 3) := by decide +kernel
theorem dX5_past_93 : decode cX5_past 93 = .ok (.getfield 174, 3) := by decide +kernel
theorem dX5_past_96 : decode cX5_past 96 = .ok (.iload_n 3, 1) := by decide +kernel
theorem dX5_past_97 : decode cX5_past 97 = .ok (.iaload, 1) := by decide +kernel
theorem dX5_past_98 : decode cX5_past 98 = .ok (.ireturn, 1) := by decide +kernel
theorem dX5_past_99 : decode cX5_past 99 = .ok (.bipush (-2), 2) := by decide +kernel
theorem dX5_past_101 : decode cX5_past 101 = .ok (.ireturn, 1) := by decide +kernel
theorem dX5_count_0 : decode cX5_count 0 = .ok (.iload_n 1, 1) := by decide +kernel
theorem dX5_count_1 : decode cX5_count 1 = .ok (.tableswitch 187 0 12 #[67, 75, 83, 91, 99, 110, 121, 129, 141, 151, 161, 171, 179], 67) := by decide +kernel
theorem dX5_count_68 : decode cX5_count 68 = .ok (.aload_n 0, 1) := by decide +kernel
theorem dX5_count_69 : decode cX5_count 69 = .ok (.getfield 10, 3) := by decide +kernel
theorem dX5_count_72 : decode cX5_count 72 = .ok (.getfield 67, 3) := by decide +kernel
theorem dX5_count_75 : decode cX5_count 75 = .ok (.ireturn, 1) := by decide +kernel
theorem dX5_count_76 : decode cX5_count 76 = .ok (.aload_n 0, 1) := by decide +kernel
theorem dX5_count_77 : decode cX5_count 77 = .ok (.getfield 10, 3) := by decide +kernel
theorem dX5_count_80 : decode cX5_count 80 = .ok (.getfield 177, 3) := by decide +kernel
theorem dX5_count_83 : decode cX5_count 83 = .ok (.ireturn, 1) := by decide +kernel
theorem dX5_count_84 : decode cX5_count 84 = .ok (.aload_n 0, 1) := by decide +kernel
theorem dX5_count_85 : decode cX5_count 85 = .ok (.getfield 10, 3) := by decide +kernel
theorem dX5_count_88 : decode cX5_count 88 = .ok (.getfield 179, 3) := by decide +kernel
theorem dX5_count_91 : decode cX5_count 91 = .ok (.ireturn, 1) := by decide +kernel
theorem dX5_count_92 : decode cX5_count 92 = .ok (.aload_n 0, 1) := by decide +kernel
theorem dX5_count_93 : decode cX5_count 93 = .ok (.getfield 10, 3) := by decide +kernel
theorem dX5_count_96 : decode cX5_count 96 = .ok (.getfield 71, 3) := by decide +kernel
theorem dX5_count_99 : decode cX5_count 99 = .ok (.ireturn, 1) := by decide +kernel
theorem dX5_count_100 : decode cX5_count 100 = .ok (.aload_n 0, 1) := by decide +kernel
theorem dX5_count_101 : decode cX5_count 101 = .ok (.getfield 10, 3) := by decide +kernel
theorem dX5_count_104 : decode cX5_count 104 = .ok (.getfield 156, 3) := by decide +kernel
theorem dX5_count_107 : decode cX5_count 107 = .ok (.getfield 182, 3) := by decide +kernel
theorem dX5_count_110 : decode cX5_count 110 = .ok (.ireturn, 1) := by decide +kernel
theorem dX5_count_111 : decode cX5_count 111 = .ok (.aload_n 0, 1) := by decide +kernel
theorem dX5_count_112 : decode cX5_count 112 = .ok (.getfield 10, 3) := by decide +kernel
theorem dX5_count_115 : decode cX5_count 115 = .ok (.getfield 156, 3) := by decide +kernel
theorem dX5_count_118 : decode cX5_count 118 = .ok (.getfield 185, 3) := by decide +kernel
theorem dX5_count_121 : decode cX5_count 121 = .ok (.ireturn, 1) := by decide +kernel
theorem dX5_count_122 : decode cX5_count 122 = .ok (.aload_n 0, 1) := by decide +kernel
theorem dX5_count_123 : decode cX5_count 123 = .ok (.getfield 10, 3) := by decide +kernel
theorem dX5_count_126 : decode cX5_count 126 = .ok (.getfield 188, 3) := by decide +kernel
theorem dX5_count_129 : decode cX5_count 129 = .ok (.ireturn, 1) := by decide +kernel
theorem dX5_count_130 : decode cX5_count 130 = .ok (.aload_n 0, 1) := by decide +kernel
theorem dX5_count_131 : decode cX5_count 131 = .ok (.getfield 10, 3) := by decide +kernel
theorem dX5_count_134 : decode cX5_count 134 = .ok (.iconst 2, 1) := by decide +kernel
theorem dX5_count_135 : decode cX5_count 135 = .ok (.invokevirtual 78, 3) := by decide +kernel
theorem dX5_count_138 : decode cX5_count 138 = .ok (.invokevirtual 147, 3) := by decide +kernel
theorem dX5_count_141 : decode cX5_count 141 = .ok (.ireturn, 1) := by decide +kernel
theorem dX5_count_142 : decode cX5_count 142 = .ok (.aload_n 0, 1) := by decide +kernel
theorem dX5_count_143 : decode cX5_count 143 = .ok (.getfield 10, 3) := by decide +kernel
theorem dX5_count_146 : decode cX5_count 146 = .ok (.getfield 53, 3) := by decide +kernel
theorem dX5_count_149 : decode cX5_count 149 = .ok (.iconst 0, 1) := by decide +kernel
theorem dX5_count_150 : decode cX5_count 150 = .ok (.iaload, 1) := by decide +kernel
theorem dX5_count_151 : decode cX5_count 151 = .ok (.ireturn, 1) := by decide +kernel
theorem dX5_count_152 : decode cX5_count 152 = .ok (.aload_n 0, 1) := by decide +kernel
theorem dX5_count_153 : decode cX5_count 153 = .ok (.getfield 10, 3) := by decide +kernel
theorem dX5_count_156 : decode cX5_count 156 = .ok (.getfield 53, 3) := by decide +kernel
theorem dX5_count_159 : decode cX5_count 159 = .ok (.iconst 1, 1) := by decide +kernel
theorem dX5_count_160 : decode cX5_count 160 = .ok (.iaload, 1) := by decide +kernel
theorem dX5_count_161 : decode cX5_count 161 = .ok (.ireturn, 1) := by decide +kernel
theorem dX5_count_162 : decode cX5_count 162 = .ok (.aload_n 0, 1) := by decide +kernel
theorem dX5_count_163 : decode cX5_count 163 = .ok (.getfield 10, 3) := by decide +kernel
theorem dX5_count_166 : decode cX5_count 166 = .ok (.getfield 53, 3) := by decide +kernel
theorem dX5_count_169 : decode cX5_count 169 = .ok (.iconst 2, 1) := by decide +kernel
theorem dX5_count_170 : decode cX5_count 170 = .ok (.iaload, 1) := by decide +kernel
theorem dX5_count_171 : decode cX5_count 171 = .ok (.ireturn, 1) := by decide +kernel
theorem dX5_count_172 : decode cX5_count 172 = .ok (.aload_n 0, 1) := by decide +kernel
theorem dX5_count_173 : decode cX5_count 173 = .ok (.getfield 37, 3) := by decide +kernel
theorem dX5_count_176 : decode cX5_count 176 = .ok (.getfield 191, 3) := by decide +kernel
theorem dX5_count_179 : decode cX5_count 179 = .ok (.ireturn, 1) := by decide +kernel
theorem dX5_count_180 : decode cX5_count 180 = .ok (.aload_n 0, 1) := by decide +kernel
theorem dX5_count_181 : decode cX5_count 181 = .ok (.getfield 30, 3) := by decide +kernel
theorem dX5_count_184 : decode cX5_count 184 = .ok (.getfield 192, 3) := by decide +kernel
theorem dX5_count_187 : decode cX5_count 187 = .ok (.ireturn, 1) := by decide +kernel
theorem dX5_count_188 : decode cX5_count 188 = .ok (.bipush (-2), 2) := by decide +kernel
theorem dX5_count_190 : decode cX5_count 190 = .ok (.ireturn, 1) := by decide +kernel
theorem dX5_padSum_0 : decode cX5_padSum 0 = .ok (.aload_n 0, 1) := by decide +kernel
theorem dX5_padSum_1 : decode cX5_padSum 1 = .ok (.getfield 37, 3) := by decide +kernel
theorem dX5_padSum_4 : decode cX5_padSum 4 = .ok (.invokevirtual 108, 3) := by decide +kernel
theorem dX5_padSum_7 : decode cX5_padSum 7 = .ok (.bipush (-6), 2) := by decide +kernel
theorem dX5_padSum_9 : decode cX5_padSum 9 = .ok (.if_icmp .ne 13, 3) := by decide +kernel
theorem dX5_padSum_12 : decode cX5_padSum 12 = .ok (.aload_n 0, 1) := by decide +kernel
theorem dX5_padSum_13 : decode cX5_padSum 13 = .ok (.getfield 37, 3) := by decide +kernel
theorem dX5_padSum_16 : decode cX5_padSum 16 = .ok (.invokevirtual 195, 3) := by decide +kernel
theorem dX5_padSum_19 : decode cX5_padSum 19 = .ok (.goto 5, 3) := by decide +kernel
theorem dX5_padSum_22 : decode cX5_padSum 22 = .ok (.bipush (-3), 2) := by decide +kernel
theorem dX5_padSum_24 : decode cX5_padSum 24 = .ok (.ireturn, 1) := by decide +kernel
theorem dX5_ifStarted_0 : decode cX5_ifStarted 0 = .ok (.aload_n 0, 1) := by decide +kernel
theorem dX5_ifStarted_1 : decode cX5_ifStarted 1 = .ok (.getfield 16, 3) := by decide +kernel
theorem dX5_ifStarted_4 : decode cX5_ifStarted 4 = .ok (.aload_n 0, 1) := by decide +kernel
theorem dX5_ifStarted_5 : decode cX5_ifStarted 5 = .ok (.getfield 10, 3) := by decide +kernel
theorem dX5_ifStarted_8 : decode cX5_ifStarted 8 = .ok (.invokevirtual 198, 3) := by decide +kernel
theorem dX5_ifStarted_11 : decode cX5_ifStarted 11 = .ok (.aload_n 0, 1) := by decide +kernel
theorem dX5_ifStarted_12 : decode cX5_ifStarted 12 = .ok (.getfield 16, 3) := by decide +kernel
theorem dX5_ifStarted_15 : decode cX5_ifStarted 15 = .ok (.iload_n 1, 1) := by decide +kernel
theorem dX5_ifStarted_16 : decode cX5_ifStarted 16 = .ok (.ifCond .eq 7, 3) := by decide +kernel
theorem dX5_ifStarted_19 : decode cX5_ifStarted 19 = .ok (.iconst 2, 1) := by decide +kernel
theorem dX5_ifStarted_20 : decode cX5_ifStarted 20 = .ok (.goto 4, 3) := by decide +kernel
theorem dX5_ifStarted_23 : decode cX5_ifStarted 23 = .ok (.iconst 0, 1) := by decide +kernel
theorem dX5_ifStarted_24 : decode cX5_ifStarted 24 = .ok (.invokevirtual 132, 3) := by decide +kernel
theorem dX5_ifStarted_27 : decode cX5_ifStarted 27 = .ok (.aload_n 0, 1) := by decide +kernel
theorem dX5_ifStarted_28 : decode cX5_ifStarted 28 = .ok (.getfield 16, 3) := by decide +kernel
theorem dX5_ifStarted_31 : decode cX5_ifStarted 31 = .ok (.getfield 67, 3) := by decide +kernel
theorem dX5_ifStarted_34 : decode cX5_ifStarted 34 = .ok (.bipush 10, 2) := by decide +kernel
theorem dX5_ifStarted_36 : decode cX5_ifStarted 36 = .ok (.aload_n 0, 1) := by decide +kernel
theorem dX5_ifStarted_37 : decode cX5_ifStarted 37 = .ok (.getfield 16, 3) := by decide +kernel
theorem dX5_ifStarted_40 : decode cX5_ifStarted 40 = .ok (.invokevirtual 201, 3) := by decide +kernel
theorem dX5_ifStarted_43 : decode cX5_ifStarted 43 = .ok (.aload_n 0, 1) := by decide +kernel
theorem dX5_ifStarted_44 : decode cX5_ifStarted 44 = .ok (.getfield 10, 3) := by decide +kernel
theorem dX5_ifStarted_47 : decode cX5_ifStarted 47 = .ok (.invokevirtual 201, 3) := by decide +kernel
theorem dX5_ifStarted_50 : decode cX5_ifStarted 50 = .ok (.isub, 1) := by decide +kernel
theorem dX5_ifStarted_51 : decode cX5_ifStarted 51 = .ok (.imul, 1) := by decide +kernel
theorem dX5_ifStarted_52 : decode cX5_ifStarted 52 = .ok (.iadd, 1) := by decide +kernel
theorem dX5_ifStarted_53 : decode cX5_ifStarted 53 = .ok (.ireturn, 1) := by decide +kernel
theorem dX5_ifPassed_0 : decode cX5_ifPassed 0 = .ok (.iload_n 1, 1) := by decide +kernel
theorem dX5_ifPassed_1 : decode cX5_ifPassed 1 = .ok (.iconst 1, 1) := by decide +kernel
theorem dX5_ifPassed_2 : decode cX5_ifPassed 2 = .ok (.sipush 500, 3) := by decide +kernel
theorem dX5_ifPassed_5 : decode cX5_ifPassed 5 = .ok (.invokestatic 41, 3) := by decide +kernel
theorem dX5_ifPassed_8 : decode cX5_ifPassed 8 = .ok (.ifCond .eq 12, 3) := by decide +kernel
theorem dX5_ifPassed_11 : decode cX5_ifPassed 11 = .ok (.iload_n 2, 1) := by decide +kernel
theorem dX5_ifPassed_12 : decode cX5_ifPassed 12 = .ok (.iconst 0, 1) := by decide +kernel
theorem dX5_ifPassed_13 : decode cX5_ifPassed 13 = .ok (.iconst 3, 1) := by decide +kernel
theorem dX5_ifPassed_14 : decode cX5_ifPassed 14 = .ok (.invokestatic 41, 3) := by decide +kernel
theorem dX5_ifPassed_17 : decode cX5_ifPassed 17 = .ok (.ifCond .ne 6, 3) := by decide +kernel
theorem dX5_ifPassed_20 : decode cX5_ifPassed 20 = .ok (.bipush (-2), 2) := by decide +kernel
theorem dX5_ifPassed_22 : decode cX5_ifPassed 22 = .ok (.ireturn, 1) := by decide +kernel
theorem dX5_ifPassed_23 : decode cX5_ifPassed 23 = .ok (.aload_n 0, 1) := by decide +kernel
theorem dX5_ifPassed_24 : decode cX5_ifPassed 24 = .ok (.getfield 16, 3) := by decide +kernel
theorem dX5_ifPassed_27 : decode cX5_ifPassed 27 = .ok (.aload_n 0, 1) := by decide +kernel
theorem dX5_ifPassed_28 : decode cX5_ifPassed 28 = .ok (.getfield 10, 3) := by decide +kernel
theorem dX5_ifPassed_31 : decode cX5_ifPassed 31 = .ok (.invokevirtual 198, 3) := by decide +kernel
theorem dX5_ifPassed_34 : decode cX5_ifPassed 34 = .ok (.aload_n 0, 1) := by decide +kernel
theorem dX5_ifPassed_35 : decode cX5_ifPassed 35 = .ok (.getfield 16, 3) := by decide +kernel
theorem dX5_ifPassed_38 : decode cX5_ifPassed 38 = .ok (.iload_n 1, 1) := by decide +kernel
theorem dX5_ifPassed_39 : decode cX5_ifPassed 39 = .ok (.invokevirtual 135, 3) := by decide +kernel
theorem dX5_ifPassed_42 : decode cX5_ifPassed 42 = .ok (.istore_n 3, 1) := by decide +kernel
theorem dX5_ifPassed_43 : decode cX5_ifPassed 43 = .ok (.iload_n 2, 1) := by decide +kernel
theorem dX5_ifPassed_44 : decode cX5_ifPassed 44 = .ok (.tableswitch 50 0 2 #[28, 30, 38], 28) := by decide +kernel
theorem dX5_ifPassed_72 : decode cX5_ifPassed 72 = .ok (.iload_n 3, 1) := by decide +kernel
theorem dX5_ifPassed_73 : decode cX5_ifPassed 73 = .ok (.ireturn, 1) := by decide +kernel
theorem dX5_ifPassed_74 : decode cX5_ifPassed 74 = .ok (.aload_n 0, 1) := by decide +kernel
theorem dX5_ifPassed_75 : decode cX5_ifPassed 75 = .ok (.getfield 16, 3) := by decide +kernel
theorem dX5_ifPassed_78 : decode cX5_ifPassed 78 = .ok (.getfield 67, 3) := by decide +kernel
theorem dX5_ifPassed_81 : decode cX5_ifPassed 81 = .ok (.ireturn, 1) := by decide +kernel
theorem dX5_ifPassed_82 : decode cX5_ifPassed 82 = .ok (.aload_n 0, 1) := by decide +kernel
theorem dX5_ifPassed_83 : decode cX5_ifPassed 83 = .ok (.getfield 16, 3) := by decide +kernel
theorem dX5_ifPassed_86 : decode cX5_ifPassed 86 = .ok (.iconst 0, 1) := by decide +kernel
theorem dX5_ifPassed_87 : decode cX5_ifPassed 87 = .ok (.invokevirtual 78, 3) := by decide +kernel
theorem dX5_ifPassed_90 : decode cX5_ifPassed 90 = .ok (.getfield 95, 3) := by decide +kernel
theorem dX5_ifPassed_93 : decode cX5_ifPassed 93 = .ok (.ireturn, 1) := by decide +kernel
theorem dX5_ifPassed_94 : decode cX5_ifPassed 94 = .ok (.aload_n 0, 1) := by decide +kernel
theorem dX5_ifPassed_95 : decode cX5_ifPassed 95 = .ok (.getfield 16, 3) := by decide +kernel
theorem dX5_ifPassed_98 : decode cX5_ifPassed 98 = .ok (.iconst 1, 1) := by decide +kernel
theorem dX5_ifPassed_99 : decode cX5_ifPassed 99 = .ok (.invokevirtual 78, 3) := by decide +kernel
theorem dX5_ifPassed_102 : decode cX5_ifPassed 102 = .ok (.getfield 95, 3) := by decide +kernel
theorem dX5_ifPassed_105 : decode cX5_ifPassed 105 = .ok (.ireturn, 1) := by decide +kernel
theorem dX5_nextStart_0 : decode cX5_nextStart 0 = .ok (.aload_n 0, 1) := by decide +kernel
theorem dX5_nextStart_1 : decode cX5_nextStart 1 = .ok (.getfield 16, 3) := by decide +kernel
theorem dX5_nextStart_4 : decode cX5_nextStart 4 = .ok (.aload_n 0, 1) := by decide +kernel
theorem dX5_nextStart_5 : decode cX5_nextStart 5 = .ok (.getfield 10, 3) := by decide +kernel
theorem dX5_nextStart_8 : decode cX5_nextStart 8 = .ok (.invokevirtual 198, 3) := by decide +kernel
theorem dX5_nextStart_11 : decode cX5_nextStart 11 = .ok (.iconst 1, 1) := by decide +kernel
theorem dX5_nextStart_12 : decode cX5_nextStart 12 = .ok (.istore_n 1, 1) := by decide +kernel
theorem dX5_nextStart_13 : decode cX5_nextStart 13 = .ok (.iload_n 1, 1) := by decide +kernel
theorem dX5_nextStart_14 : decode cX5_nextStart 14 = .ok (.sipush 2000, 3) := by decide +kernel
theorem dX5_nextStart_17 : decode cX5_nextStart 17 = .ok (.if_icmp .gt 21, 3) := by decide +kernel
theorem dX5_nextStart_20 : decode cX5_nextStart 20 = .ok (.aload_n 0, 1) := by decide +kernel
theorem dX5_nextStart_21 : decode cX5_nextStart 21 = .ok (.getfield 16, 3) := by decide +kernel
theorem dX5_nextStart_24 : decode cX5_nextStart 24 = .ok (.invokevirtual 204, 3) := by decide +kernel
theorem dX5_nextStart_27 : decode cX5_nextStart 27 = .ok (.ifCond .eq 5, 3) := by decide +kernel
theorem dX5_nextStart_30 : decode cX5_nextStart 30 = .ok (.iload_n 1, 1) := by decide +kernel
theorem dX5_nextStart_31 : decode cX5_nextStart 31 = .ok (.ireturn, 1) := by decide +kernel
theorem dX5_nextStart_32 : decode cX5_nextStart 32 = .ok (.iinc 1 1, 3) := by decide +kernel
theorem dX5_nextStart_35 : decode cX5_nextStart 35 = .ok (.goto (-22), 3) := by decide +kernel
theorem dX5_nextStart_38 : decode cX5_nextStart 38 = .ok (.bipush (-6), 2) := by decide +kernel
theorem dX5_nextStart_40 : decode cX5_nextStart 40 = .ok (.ireturn, 1) := by decide +kernel
theorem dX5_lasts_0 : decode cX5_lasts 0 = .ok (.iload_n 1, 1) := by decide +kernel
theorem dX5_lasts_1 : decode cX5_lasts 1 = .ok (.invokestatic 56, 3) := by decide +kernel
theorem dX5_lasts_4 : decode cX5_lasts 4 = .ok (.ifCond .ne 5, 3) := by decide +kernel
theorem dX5_lasts_7 : decode cX5_lasts 7 = .ok (.iconst (-1), 1) := by decide +kernel
theorem dX5_lasts_8 : decode cX5_lasts 8 = .ok (.ireturn, 1) := by decide +kernel
theorem dX5_lasts_9 : decode cX5_lasts 9 = .ok (.iload_n 2, 1) := by decide +kernel
theorem dX5_lasts_10 : decode cX5_lasts 10 = .ok (.invokestatic 60, 3) := by decide +kernel
theorem dX5_lasts_13 : decode cX5_lasts 13 = .ok (.ifCond .eq 18, 3) := by decide +kernel
theorem dX5_lasts_16 : decode cX5_lasts 16 = .ok (.aload_n 0, 1) := by decide +kernel
theorem dX5_lasts_17 : decode cX5_lasts 17 = .ok (.getfield 10, 3) := by decide +kernel
theorem dX5_lasts_20 : decode cX5_lasts 20 = .ok (.iload_n 1, 1) := by decide +kernel
theorem dX5_lasts_21 : decode cX5_lasts 21 = .ok (.iload_n 2, 1) := by decide +kernel
theorem dX5_lasts_22 : decode cX5_lasts 22 = .ok (.invokestatic 63, 3) := by decide +kernel
theorem dX5_lasts_25 : decode cX5_lasts 25 = .ok (.invokevirtual 74, 3) := by decide +kernel
theorem dX5_lasts_28 : decode cX5_lasts 28 = .ok (.goto 5, 3) := by decide +kernel
theorem dX5_lasts_31 : decode cX5_lasts 31 = .ok (.bipush (-2), 2) := by decide +kernel
theorem dX5_lasts_33 : decode cX5_lasts 33 = .ok (.ireturn, 1) := by decide +kernel
theorem dX5_put_0 : decode cX5_put 0 = .ok (.lload_n 1, 1) := by decide +kernel
theorem dX5_put_1 : decode cX5_put 1 = .ok (.invokestatic 207, 3) := by decide +kernel
theorem dX5_put_4 : decode cX5_put 4 = .ok (.istore_n 3, 1) := by decide +kernel
theorem dX5_put_5 : decode cX5_put 5 = .ok (.iload_n 3, 1) := by decide +kernel
theorem dX5_put_6 : decode cX5_put 6 = .ok (.ifCond .ne 6, 3) := by decide +kernel
theorem dX5_put_9 : decode cX5_put 9 = .ok (.bipush (-2), 2) := by decide +kernel
theorem dX5_put_11 : decode cX5_put 11 = .ok (.ireturn, 1) := by decide +kernel
theorem dX5_put_12 : decode cX5_put 12 = .ok (.iload_n 3, 1) := by decide +kernel
theorem dX5_put_13 : decode cX5_put 13 = .ok (.bipush 64, 2) := by decide +kernel
theorem dX5_put_15 : decode cX5_put 15 = .ok (.aload_n 0, 1) := by decide +kernel
theorem dX5_put_16 : decode cX5_put 16 = .ok (.getfield 37, 3) := by decide +kernel
theorem dX5_put_19 : decode cX5_put 19 = .ok (.getfield 191, 3) := by decide +kernel
theorem dX5_put_22 : decode cX5_put 22 = .ok (.isub, 1) := by decide +kernel
theorem dX5_put_23 : decode cX5_put 23 = .ok (.if_icmp .le 6, 3) := by decide +kernel
theorem dX5_put_26 : decode cX5_put 26 = .ok (.bipush (-4), 2) := by decide +kernel
theorem dX5_put_28 : decode cX5_put 28 = .ok (.ireturn, 1) := by decide +kernel
theorem dX5_put_29 : decode cX5_put 29 = .ok (.aload_n 0, 1) := by decide +kernel
theorem dX5_put_30 : decode cX5_put 30 = .ok (.getfield 37, 3) := by decide +kernel
theorem dX5_put_33 : decode cX5_put 33 = .ok (.lload_n 1, 1) := by decide +kernel
theorem dX5_put_34 : decode cX5_put 34 = .ok (.iload_n 3, 1) := by decide +kernel
theorem dX5_put_35 : decode cX5_put 35 = .ok (.invokevirtual 211, 3) := by decide +kernel
theorem dX5_put_38 : decode cX5_put 38 = .ok (.aload_n 0, 1) := by decide +kernel
theorem dX5_put_39 : decode cX5_put 39 = .ok (.getfield 37, 3) := by decide +kernel
theorem dX5_put_42 : decode cX5_put 42 = .ok (.getfield 191, 3) := by decide +kernel
theorem dX5_put_45 : decode cX5_put 45 = .ok (.ireturn, 1) := by decide +kernel
theorem dX5_wipe_0 : decode cX5_wipe 0 = .ok (.aload_n 0, 1) := by decide +kernel
theorem dX5_wipe_1 : decode cX5_wipe 1 = .ok (.getfield 37, 3) := by decide +kernel
theorem dX5_wipe_4 : decode cX5_wipe 4 = .ok (.getfield 191, 3) := by decide +kernel
theorem dX5_wipe_7 : decode cX5_wipe 7 = .ok (.istore_n 1, 1) := by decide +kernel
theorem dX5_wipe_8 : decode cX5_wipe 8 = .ok (.aload_n 0, 1) := by decide +kernel
theorem dX5_wipe_9 : decode cX5_wipe 9 = .ok (.getfield 37, 3) := by decide +kernel
theorem dX5_wipe_12 : decode cX5_wipe 12 = .ok (.invokevirtual 117, 3) := by decide +kernel
theorem dX5_wipe_15 : decode cX5_wipe 15 = .ok (.iload_n 1, 1) := by decide +kernel
theorem dX5_wipe_16 : decode cX5_wipe 16 = .ok (.ireturn, 1) := by decide +kernel
theorem dX5_fault_0 : decode cX5_fault 0 = .ok (.aload_n 0, 1) := by decide +kernel
theorem dX5_fault_1 : decode cX5_fault 1 = .ok (.getfield 37, 3) := by decide +kernel
theorem dX5_fault_4 : decode cX5_fault 4 = .ok (.invokevirtual 108, 3) := by decide +kernel
theorem dX5_fault_7 : decode cX5_fault 7 = .ok (.ireturn, 1) := by decide +kernel
theorem dX5_undo_0 : decode cX5_undo 0 = .ok (.aload_n 0, 1) := by decide +kernel
theorem dX5_undo_1 : decode cX5_undo 1 = .ok (.getfield 30, 3) := by decide +kernel
theorem dX5_undo_4 : decode cX5_undo 4 = .ok (.getfield 192, 3) := by decide +kernel
theorem dX5_undo_7 : decode cX5_undo 7 = .ok (.ifCond .ne 6, 3) := by decide +kernel
theorem dX5_undo_10 : decode cX5_undo 10 = .ok (.bipush (-5), 2) := by decide +kernel
theorem dX5_undo_12 : decode cX5_undo 12 = .ok (.ireturn, 1) := by decide +kernel
theorem dX5_undo_13 : decode cX5_undo 13 = .ok (.aload_n 0, 1) := by decide +kernel
theorem dX5_undo_14 : decode cX5_undo 14 = .ok (.getfield 30, 3) := by decide +kernel
theorem dX5_undo_17 : decode cX5_undo 17 = .ok (.aload_n 0, 1) := by decide +kernel
theorem dX5_undo_18 : decode cX5_undo 18 = .ok (.getfield 10, 3) := by decide +kernel
theorem dX5_undo_21 : decode cX5_undo 21 = .ok (.invokevirtual 215, 3) := by decide +kernel
theorem dX5_undo_24 : decode cX5_undo 24 = .ok (.aload_n 0, 1) := by decide +kernel
theorem dX5_undo_25 : decode cX5_undo 25 = .ok (.getfield 30, 3) := by decide +kernel
theorem dX5_undo_28 : decode cX5_undo 28 = .ok (.getfield 192, 3) := by decide +kernel
theorem dX5_undo_31 : decode cX5_undo 31 = .ok (.ireturn, 1) := by decide +kernel
theorem dX5_save_0 : decode cX5_save 0 = .ok (.iload_n 1, 1) := by decide +kernel
theorem dX5_save_1 : decode cX5_save 1 = .ok (.iconst 0, 1) := by decide +kernel
theorem dX5_save_2 : decode cX5_save 2 = .ok (.iconst 1, 1) := by decide +kernel
theorem dX5_save_3 : decode cX5_save 3 = .ok (.invokestatic 41, 3) := by decide +kernel
theorem dX5_save_6 : decode cX5_save 6 = .ok (.ifCond .ne 6, 3) := by decide +kernel
theorem dX5_save_9 : decode cX5_save 9 = .ok (.bipush (-2), 2) := by decide +kernel
theorem dX5_save_11 : decode cX5_save 11 = .ok (.ireturn, 1) := by decide +kernel
theorem dX5_save_12 : decode cX5_save 12 = .ok (.aload_n 0, 1) := by decide +kernel
theorem dX5_save_13 : decode cX5_save 13 = .ok (.getfield 19, 3) := by decide +kernel
theorem dX5_save_16 : decode cX5_save 16 = .ok (.iload_n 1, 1) := by decide +kernel
theorem dX5_save_17 : decode cX5_save 17 = .ok (.aaload, 1) := by decide +kernel
theorem dX5_save_18 : decode cX5_save 18 = .ok (.aload_n 0, 1) := by decide +kernel
theorem dX5_save_19 : decode cX5_save 19 = .ok (.getfield 10, 3) := by decide +kernel
theorem dX5_save_22 : decode cX5_save 22 = .ok (.invokevirtual 198, 3) := by decide +kernel
theorem dX5_save_25 : decode cX5_save 25 = .ok (.aload_n 0, 1) := by decide +kernel
theorem dX5_save_26 : decode cX5_save 26 = .ok (.getfield 23, 3) := by decide +kernel
theorem dX5_save_29 : decode cX5_save 29 = .ok (.iload_n 1, 1) := by decide +kernel
theorem dX5_save_30 : decode cX5_save 30 = .ok (.iconst 1, 1) := by decide +kernel
theorem dX5_save_31 : decode cX5_save 31 = .ok (.bastore, 1) := by decide +kernel
theorem dX5_save_32 : decode cX5_save 32 = .ok (.aload_n 0, 1) := by decide +kernel
theorem dX5_save_33 : decode cX5_save 33 = .ok (.getfield 10, 3) := by decide +kernel
theorem dX5_save_36 : decode cX5_save 36 = .ok (.getfield 67, 3) := by decide +kernel
theorem dX5_save_39 : decode cX5_save 39 = .ok (.ireturn, 1) := by decide +kernel
theorem dX5_restore_0 : decode cX5_restore 0 = .ok (.iload_n 1, 1) := by decide +kernel
theorem dX5_restore_1 : decode cX5_restore 1 = .ok (.iconst 0, 1) := by decide +kernel
theorem dX5_restore_2 : decode cX5_restore 2 = .ok (.iconst 1, 1) := by decide +kernel
theorem dX5_restore_3 : decode cX5_restore 3 = .ok (.invokestatic 41, 3) := by decide +kernel
theorem dX5_restore_6 : decode cX5_restore 6 = .ok (.ifCond .ne 6, 3) := by decide +kernel
theorem dX5_restore_9 : decode cX5_restore 9 = .ok (.bipush (-2), 2) := by decide +kernel
theorem dX5_restore_11 : decode cX5_restore 11 = .ok (.ireturn, 1) := by decide +kernel
theorem dX5_restore_12 : decode cX5_restore 12 = .ok (.aload_n 0, 1) := by decide +kernel
theorem dX5_restore_13 : decode cX5_restore 13 = .ok (.getfield 23, 3) := by decide +kernel
theorem dX5_restore_16 : decode cX5_restore 16 = .ok (.iload_n 1, 1) := by decide +kernel
theorem dX5_restore_17 : decode cX5_restore 17 = .ok (.baload, 1) := by decide +kernel
theorem dX5_restore_18 : decode cX5_restore 18 = .ok (.ifCond .ne 6, 3) := by decide +kernel
theorem dX5_restore_21 : decode cX5_restore 21 = .ok (.bipush (-5), 2) := by decide +kernel
theorem dX5_restore_23 : decode cX5_restore 23 = .ok (.ireturn, 1) := by decide +kernel
theorem dX5_restore_24 : decode cX5_restore 24 = .ok (.aload_n 0, 1) := by decide +kernel
theorem dX5_restore_25 : decode cX5_restore 25 = .ok (.getfield 30, 3) := by decide +kernel
theorem dX5_restore_28 : decode cX5_restore 28 = .ok (.aload_n 0, 1) := by decide +kernel
theorem dX5_restore_29 : decode cX5_restore 29 = .ok (.getfield 10, 3) := by decide +kernel
theorem dX5_restore_32 : decode cX5_restore 32 = .ok (.invokevirtual 49, 3) := by decide +kernel
theorem dX5_restore_35 : decode cX5_restore 35 = .ok (.aload_n 0, 1) := by decide +kernel
theorem dX5_restore_36 : decode cX5_restore 36 = .ok (.getfield 10, 3) := by decide +kernel
theorem dX5_restore_39 : decode cX5_restore 39 = .ok (.aload_n 0, 1) := by decide +kernel
theorem dX5_restore_40 : decode cX5_restore 40 = .ok (.getfield 19, 3) := by decide +kernel
theorem dX5_restore_43 : decode cX5_restore 43 = .ok (.iload_n 1, 1) := by decide +kernel
theorem dX5_restore_44 : decode cX5_restore 44 = .ok (.aaload, 1) := by decide +kernel
theorem dX5_restore_45 : decode cX5_restore 45 = .ok (.invokevirtual 198, 3) := by decide +kernel
theorem dX5_restore_48 : decode cX5_restore 48 = .ok (.aload_n 0, 1) := by decide +kernel
theorem dX5_restore_49 : decode cX5_restore 49 = .ok (.getfield 10, 3) := by decide +kernel
theorem dX5_restore_52 : decode cX5_restore 52 = .ok (.getfield 67, 3) := by decide +kernel
theorem dX5_restore_55 : decode cX5_restore 55 = .ok (.ireturn, 1) := by decide +kernel
theorem dX5_isWithin_0 : decode cX5_isWithin 0 = .ok (.iload_n 0, 1) := by decide +kernel
theorem dX5_isWithin_1 : decode cX5_isWithin 1 = .ok (.iload_n 1, 1) := by decide +kernel
theorem dX5_isWithin_2 : decode cX5_isWithin 2 = .ok (.if_icmp .lt 12, 3) := by decide +kernel
theorem dX5_isWithin_5 : decode cX5_isWithin 5 = .ok (.iload_n 0, 1) := by decide +kernel
theorem dX5_isWithin_6 : decode cX5_isWithin 6 = .ok (.iload_n 2, 1) := by decide +kernel
theorem dX5_isWithin_7 : decode cX5_isWithin 7 = .ok (.if_icmp .gt 7, 3) := by decide +kernel
theorem dX5_isWithin_10 : decode cX5_isWithin 10 = .ok (.iconst 1, 1) := by decide +kernel
theorem dX5_isWithin_11 : decode cX5_isWithin 11 = .ok (.goto 4, 3) := by decide +kernel
theorem dX5_isWithin_14 : decode cX5_isWithin 14 = .ok (.iconst 0, 1) := by decide +kernel
theorem dX5_isWithin_15 : decode cX5_isWithin 15 = .ok (.ireturn, 1) := by decide +kernel
theorem dX5_isSlot_0 : decode cX5_isSlot 0 = .ok (.iload_n 0, 1) := by decide +kernel
theorem dX5_isSlot_1 : decode cX5_isSlot 1 = .ok (.iconst 0, 1) := by decide +kernel
theorem dX5_isSlot_2 : decode cX5_isSlot 2 = .ok (.iconst 1, 1) := by decide +kernel
theorem dX5_isSlot_3 : decode cX5_isSlot 3 = .ok (.invokestatic 41, 3) := by decide +kernel
theorem dX5_isSlot_6 : decode cX5_isSlot 6 = .ok (.ireturn, 1) := by decide +kernel
theorem dX5_isLength_0 : decode cX5_isLength 0 = .ok (.iload_n 0, 1) := by decide +kernel
theorem dX5_isLength_1 : decode cX5_isLength 1 = .ok (.iconst 2, 1) := by decide +kernel
theorem dX5_isLength_2 : decode cX5_isLength 2 = .ok (.bipush 32, 2) := by decide +kernel
theorem dX5_isLength_4 : decode cX5_isLength 4 = .ok (.invokestatic 41, 3) := by decide +kernel
theorem dX5_isLength_7 : decode cX5_isLength 7 = .ok (.ireturn, 1) := by decide +kernel
theorem dX5_pagesOf_0 : decode cX5_pagesOf 0 = .ok (.iload_n 0, 1) := by decide +kernel
theorem dX5_pagesOf_1 : decode cX5_pagesOf 1 = .ok (.iconst 4, 1) := by decide +kernel
theorem dX5_pagesOf_2 : decode cX5_pagesOf 2 = .ok (.iadd, 1) := by decide +kernel
theorem dX5_pagesOf_3 : decode cX5_pagesOf 3 = .ok (.iconst 1, 1) := by decide +kernel
theorem dX5_pagesOf_4 : decode cX5_pagesOf 4 = .ok (.isub, 1) := by decide +kernel
theorem dX5_pagesOf_5 : decode cX5_pagesOf 5 = .ok (.iconst 4, 1) := by decide +kernel
theorem dX5_pagesOf_6 : decode cX5_pagesOf 6 = .ok (.idiv, 1) := by decide +kernel
theorem dX5_pagesOf_7 : decode cX5_pagesOf 7 = .ok (.ireturn, 1) := by decide +kernel
theorem dX5_sumWith_0 : decode cX5_sumWith 0 = .ok (.iconst 3, 1) := by decide +kernel
theorem dX5_sumWith_1 : decode cX5_sumWith 1 = .ok (.iload_n 0, 1) := by decide +kernel
theorem dX5_sumWith_2 : decode cX5_sumWith 2 = .ok (.imul, 1) := by decide +kernel
theorem dX5_sumWith_3 : decode cX5_sumWith 3 = .ok (.iload_n 1, 1) := by decide +kernel
theorem dX5_sumWith_4 : decode cX5_sumWith 4 = .ok (.iadd, 1) := by decide +kernel
theorem dX5_sumWith_5 : decode cX5_sumWith 5 = .ok (.sipush 251, 3) := by decide +kernel
theorem dX5_sumWith_8 : decode cX5_sumWith 8 = .ok (.irem, 1) := by decide +kernel
theorem dX5_sumWith_9 : decode cX5_sumWith 9 = .ok (.ireturn, 1) := by decide +kernel
theorem dJ9_floorMod_7cf53_0 : decode cJ9_floorMod_7cf53 0 = .ok (.iload_n 0, 1) := by decide +kernel
theorem dJ9_floorMod_7cf53_1 : decode cJ9_floorMod_7cf53 1 = .ok (.iload_n 1, 1) := by decide +kernel
theorem dJ9_floorMod_7cf53_2 : decode cJ9_floorMod_7cf53 2 = .ok (.irem, 1) := by decide +kernel
theorem dJ9_floorMod_7cf53_3 : decode cJ9_floorMod_7cf53 3 = .ok (.istore_n 2, 1) := by decide +kernel
theorem dJ9_floorMod_7cf53_4 : decode cJ9_floorMod_7cf53 4 = .ok (.iload_n 0, 1) := by decide +kernel
theorem dJ9_floorMod_7cf53_5 : decode cJ9_floorMod_7cf53 5 = .ok (.iload_n 1, 1) := by decide +kernel
theorem dJ9_floorMod_7cf53_6 : decode cJ9_floorMod_7cf53 6 = .ok (.ixor, 1) := by decide +kernel
theorem dJ9_floorMod_7cf53_7 : decode cJ9_floorMod_7cf53 7 = .ok (.ifCond .ge 11, 3) := by decide +kernel
theorem dJ9_floorMod_7cf53_10 : decode cJ9_floorMod_7cf53 10 = .ok (.iload_n 2, 1) := by decide +kernel
theorem dJ9_floorMod_7cf53_11 : decode cJ9_floorMod_7cf53 11 = .ok (.ifCond .eq 7, 3) := by decide +kernel
theorem dJ9_floorMod_7cf53_14 : decode cJ9_floorMod_7cf53 14 = .ok (.iload_n 2, 1) := by decide +kernel
theorem dJ9_floorMod_7cf53_15 : decode cJ9_floorMod_7cf53 15 = .ok (.iload_n 1, 1) := by decide +kernel
theorem dJ9_floorMod_7cf53_16 : decode cJ9_floorMod_7cf53 16 = .ok (.iadd, 1) := by decide +kernel
theorem dJ9_floorMod_7cf53_17 : decode cJ9_floorMod_7cf53 17 = .ok (.ireturn, 1) := by decide +kernel
theorem dJ9_floorMod_7cf53_18 : decode cJ9_floorMod_7cf53 18 = .ok (.iload_n 2, 1) := by decide +kernel
theorem dJ9_floorMod_7cf53_19 : decode cJ9_floorMod_7cf53 19 = .ok (.ireturn, 1) := by decide +kernel
theorem dJ9_max_7cf53_0 : decode cJ9_max_7cf53 0 = .ok (.iload_n 0, 1) := by decide +kernel
theorem dJ9_max_7cf53_1 : decode cJ9_max_7cf53 1 = .ok (.iload_n 1, 1) := by decide +kernel
theorem dJ9_max_7cf53_2 : decode cJ9_max_7cf53 2 = .ok (.if_icmp .lt 7, 3) := by decide +kernel
theorem dJ9_max_7cf53_5 : decode cJ9_max_7cf53 5 = .ok (.iload_n 0, 1) := by decide +kernel
theorem dJ9_max_7cf53_6 : decode cJ9_max_7cf53 6 = .ok (.goto 4, 3) := by decide +kernel
theorem dJ9_max_7cf53_9 : decode cJ9_max_7cf53 9 = .ok (.iload_n 1, 1) := by decide +kernel
theorem dJ9_max_7cf53_10 : decode cJ9_max_7cf53 10 = .ok (.ireturn, 1) := by decide +kernel
theorem dJ9_min_7cf53_0 : decode cJ9_min_7cf53 0 = .ok (.iload_n 0, 1) := by decide +kernel
theorem dJ9_min_7cf53_1 : decode cJ9_min_7cf53 1 = .ok (.iload_n 1, 1) := by decide +kernel
theorem dJ9_min_7cf53_2 : decode cJ9_min_7cf53 2 = .ok (.if_icmp .gt 7, 3) := by decide +kernel
theorem dJ9_min_7cf53_5 : decode cJ9_min_7cf53 5 = .ok (.iload_n 0, 1) := by decide +kernel
theorem dJ9_min_7cf53_6 : decode cJ9_min_7cf53 6 = .ok (.goto 4, 3) := by decide +kernel
theorem dJ9_min_7cf53_9 : decode cJ9_min_7cf53 9 = .ok (.iload_n 1, 1) := by decide +kernel
theorem dJ9_min_7cf53_10 : decode cJ9_min_7cf53 10 = .ok (.ireturn, 1) := by decide +kernel
end
section
theorem dX6_init_0 : decode cX6_init 0 = .ok (.aload_n 0, 1) := by decide +kernel
theorem dX6_init_1 : decode cX6_init 1 = .ok (.invokespecial 1, 3) := by decide +kernel
theorem dX6_init_4 : decode cX6_init 4 = .ok (.aload_n 0, 1) := by decide +kernel
theorem dX6_init_5 : decode cX6_init 5 = .ok (.sipush 139, 3) := by decide +kernel
theorem dX6_init_8 : decode cX6_init 8 = .ok (.newarray .int, 2) := by decide +kernel
theorem dX6_init_10 : decode cX6_init 10 = .ok (.putfield 7, 3) := by decide +kernel
theorem dX6_init_13 : decode cX6_init 13 = .ok (.aload_n 0, 1) := by decide +kernel
theorem dX6_init_14 : decode cX6_init 14 = .ok (.sipush 139, 3) := by decide +kernel
theorem dX6_init_17 : decode cX6_init 17 = .ok (.newarray .int, 2) := by decide +kernel
theorem dX6_init_19 : decode cX6_init 19 = .ok (.putfield 13, 3) := by decide +kernel
theorem dX6_init_22 : decode cX6_init 22 = .ok (.aload_n 0, 1) := by decide +kernel
theorem dX6_init_23 : decode cX6_init 23 = .ok (.sipush 834, 3) := by decide +kernel
theorem dX6_init_26 : decode cX6_init 26 = .ok (.newarray .int, 2) := by decide +kernel
theorem dX6_init_28 : decode cX6_init 28 = .ok (.putfield 16, 3) := by decide +kernel
theorem dX6_init_31 : decode cX6_init 31 = .ok (.aload_n 0, 1) := by decide +kernel
theorem dX6_init_32 : decode cX6_init 32 = .ok (.sipush 278, 3) := by decide +kernel
theorem dX6_init_35 : decode cX6_init 35 = .ok (.newarray .int, 2) := by decide +kernel
theorem dX6_init_37 : decode cX6_init 37 = .ok (.putfield 19, 3) := by decide +kernel
theorem dX6_init_40 : decode cX6_init 40 = .ok (.aload_n 0, 1) := by decide +kernel
theorem dX6_init_41 : decode cX6_init 41 = .ok (.iconst 2, 1) := by decide +kernel
theorem dX6_init_42 : decode cX6_init 42 = .ok (.newarray .int, 2) := by decide +kernel
theorem dX6_init_44 : decode cX6_init 44 = .ok (.putfield 22, 3) := by decide +kernel
theorem dX6_init_47 : decode cX6_init 47 = .ok (.aload_n 0, 1) := by decide +kernel
theorem dX6_init_48 : decode cX6_init 48 = .ok (.bipush 64, 2) := by decide +kernel
theorem dX6_init_50 : decode cX6_init 50 = .ok (.newarray .int, 2) := by decide +kernel
theorem dX6_init_52 : decode cX6_init 52 = .ok (.putfield 25, 3) := by decide +kernel
theorem dX6_init_55 : decode cX6_init 55 = .ok (.aload_n 0, 1) := by decide +kernel
theorem dX6_init_56 : decode cX6_init 56 = .ok (.getfield 7, 3) := by decide +kernel
theorem dX6_init_59 : decode cX6_init 59 = .ok (.iconst 0, 1) := by decide +kernel
theorem dX6_init_60 : decode cX6_init 60 = .ok (.iconst 3, 1) := by decide +kernel
theorem dX6_init_61 : decode cX6_init 61 = .ok (.iastore, 1) := by decide +kernel
theorem dX6_init_62 : decode cX6_init 62 = .ok (.aload_n 0, 1) := by decide +kernel
theorem dX6_init_63 : decode cX6_init 63 = .ok (.getfield 7, 3) := by decide +kernel
theorem dX6_init_66 : decode cX6_init 66 = .ok (.iconst 1, 1) := by decide +kernel
theorem dX6_init_67 : decode cX6_init 67 = .ok (.bipush 10, 2) := by decide +kernel
theorem dX6_init_69 : decode cX6_init 69 = .ok (.iastore, 1) := by decide +kernel
theorem dX6_init_70 : decode cX6_init 70 = .ok (.aload_n 0, 1) := by decide +kernel
theorem dX6_init_71 : decode cX6_init 71 = .ok (.getfield 7, 3) := by decide +kernel
theorem dX6_init_74 : decode cX6_init 74 = .ok (.iconst 2, 1) := by decide +kernel
theorem dX6_init_75 : decode cX6_init 75 = .ok (.bipush 20, 2) := by decide +kernel
theorem dX6_init_77 : decode cX6_init 77 = .ok (.iastore, 1) := by decide +kernel
theorem dX6_init_78 : decode cX6_init 78 = .ok (.aload_n 0, 1) := by decide +kernel
theorem dX6_init_79 : decode cX6_init 79 = .ok (.getfield 7, 3) := by decide +kernel
theorem dX6_init_82 : decode cX6_init 82 = .ok (.iconst 3, 1) := by decide +kernel
theorem dX6_init_83 : decode cX6_init 83 = .ok (.iconst 2, 1) := by decide +kernel
theorem dX6_init_84 : decode cX6_init 84 = .ok (.iastore, 1) := by decide +kernel
theorem dX6_init_85 : decode cX6_init 85 = .ok (.iconst 0, 1) := by decide +kernel
theorem dX6_init_86 : decode cX6_init 86 = .ok (.istore_n 1, 1) := by decide +kernel
theorem dX6_init_87 : decode cX6_init 87 = .ok (.iload_n 1, 1) := by decide +kernel
theorem dX6_init_88 : decode cX6_init 88 = .ok (.iconst 2, 1) := by decide +kernel
theorem dX6_init_89 : decode cX6_init 89 = .ok (.if_icmp .ge 35, 3) := by decide +kernel
theorem dX6_init_92 : decode cX6_init 92 = .ok (.iconst 0, 1) := by decide +kernel
theorem dX6_init_93 : decode cX6_init 93 = .ok (.istore_n 2, 1) := by decide +kernel
theorem dX6_init_94 : decode cX6_init 94 = .ok (.iload_n 2, 1) := by decide +kernel
theorem dX6_init_95 : decode cX6_init 95 = .ok (.bipush 32, 2) := by decide +kernel
theorem dX6_init_97 : decode cX6_init 97 = .ok (.if_icmp .ge 21, 3) := by decide +kernel
theorem dX6_init_100 : decode cX6_init 100 = .ok (.aload_n 0, 1) := by decide +kernel
theorem dX6_init_101 : decode cX6_init 101 = .ok (.iload_n 1, 1) := by decide +kernel
theorem dX6_init_102 : decode cX6_init 102 = .ok (.bipush 14, 2) := by decide +kernel
theorem dX6_init_104 : decode cX6_init 104 = .ok (.iload_n 2, 1) := by decide +kernel
theorem dX6_init_105 : decode cX6_init 105 = .ok (.iadd, 1) := by decide +kernel
theorem dX6_init_106 : decode cX6_init 106 = .ok (.sipush 255, 3) := by decide +kernel
theorem dX6_init_109 : decode cX6_init 109 = .ok (.invokevirtual 28, 3) := by decide +kernel
theorem dX6_init_112 : decode cX6_init 112 = .ok (.iinc 2 1, 3) := by decide +kernel
theorem dX6_init_115 : decode cX6_init 115 = .ok (.goto (-21), 3) := by decide +kernel
theorem dX6_init_118 : decode cX6_init 118 = .ok (.iinc 1 1, 3) := by decide +kernel
theorem dX6_init_121 : decode cX6_init 121 = .ok (.goto (-34), 3) := by decide +kernel
theorem dX6_init_124 : decode cX6_init 124 = .ok (.return_, 1) := by decide +kernel
theorem dX6_moves_0 : decode cX6_moves 0 = .ok (.iconst 0, 1) := by decide +kernel
theorem dX6_moves_1 : decode cX6_moves 1 = .ok (.istore 4, 2) := by decide +kernel
theorem dX6_moves_3 : decode cX6_moves 3 = .ok (.iload 4, 2) := by decide +kernel
theorem dX6_moves_5 : decode cX6_moves 5 = .ok (.sipush 139, 3) := by decide +kernel
theorem dX6_moves_8 : decode cX6_moves 8 = .ok (.if_icmp .ge 21, 3) := by decide +kernel
theorem dX6_moves_11 : decode cX6_moves 11 = .ok (.aload_n 2, 1) := by decide +kernel
theorem dX6_moves_12 : decode cX6_moves 12 = .ok (.iload_n 3, 1) := by decide +kernel
theorem dX6_moves_13 : decode cX6_moves 13 = .ok (.iload 4, 2) := by decide +kernel
theorem dX6_moves_15 : decode cX6_moves 15 = .ok (.iadd, 1) := by decide +kernel
theorem dX6_moves_16 : decode cX6_moves 16 = .ok (.aload_n 0, 1) := by decide +kernel
theorem dX6_moves_17 : decode cX6_moves 17 = .ok (.iload_n 1, 1) := by decide +kernel
theorem dX6_moves_18 : decode cX6_moves 18 = .ok (.iload 4, 2) := by decide +kernel
theorem dX6_moves_20 : decode cX6_moves 20 = .ok (.iadd, 1) := by decide +kernel
theorem dX6_moves_21 : decode cX6_moves 21 = .ok (.iaload, 1) := by decide +kernel
theorem dX6_moves_22 : decode cX6_moves 22 = .ok (.iastore, 1) := by decide +kernel
theorem dX6_moves_23 : decode cX6_moves 23 = .ok (.iinc 4 1, 3) := by decide +kernel
theorem dX6_moves_26 : decode cX6_moves 26 = .ok (.goto (-23), 3) := by decide +kernel
theorem dX6_moves_29 : decode cX6_moves 29 = .ok (.return_, 1) := by decide +kernel
theorem dX6_within_0 : decode cX6_within 0 = .ok (.iload_n 0, 1) := by decide +kernel
theorem dX6_within_1 : decode cX6_within 1 = .ok (.iload_n 1, 1) := by decide +kernel
theorem dX6_within_2 : decode cX6_within 2 = .ok (.if_icmp .lt 12, 3) := by decide +kernel
theorem dX6_within_5 : decode cX6_within 5 = .ok (.iload_n 0, 1) := by decide +kernel
theorem dX6_within_6 : decode cX6_within 6 = .ok (.iload_n 2, 1) := by decide +kernel
theorem dX6_within_7 : decode cX6_within 7 = .ok (.if_icmp .gt 7, 3) := by decide +kernel
theorem dX6_within_10 : decode cX6_within 10 = .ok (.iconst 1, 1) := by decide +kernel
theorem dX6_within_11 : decode cX6_within 11 = .ok (.goto 4, 3) := by decide +kernel
theorem dX6_within_14 : decode cX6_within 14 = .ok (.iconst 0, 1) := by decide +kernel
theorem dX6_within_15 : decode cX6_within 15 = .ok (.ireturn, 1) := by decide +kernel
theorem dX6_record_0 : decode cX6_record 0 = .ok (.aload_n 0, 1) := by decide +kernel
theorem dX6_record_1 : decode cX6_record 1 = .ok (.getfield 32, 3) := by decide +kernel
theorem dX6_record_4 : decode cX6_record 4 = .ok (.bipush 6, 2) := by decide +kernel
theorem dX6_record_6 : decode cX6_record 6 = .ok (.if_icmp .ne 44, 3) := by decide +kernel
theorem dX6_record_9 : decode cX6_record 9 = .ok (.iconst 0, 1) := by decide +kernel
theorem dX6_record_10 : decode cX6_record 10 = .ok (.istore_n 1, 1) := by decide +kernel
theorem dX6_record_11 : decode cX6_record 11 = .ok (.iload_n 1, 1) := by decide +kernel
theorem dX6_record_12 : decode cX6_record 12 = .ok (.sipush 695, 3) := by decide +kernel
theorem dX6_record_15 : decode cX6_record 15 = .ok (.if_icmp .ge 25, 3) := by decide +kernel
theorem dX6_record_18 : decode cX6_record 18 = .ok (.aload_n 0, 1) := by decide +kernel
theorem dX6_record_19 : decode cX6_record 19 = .ok (.getfield 16, 3) := by decide +kernel
theorem dX6_record_22 : decode cX6_record 22 = .ok (.iload_n 1, 1) := by decide +kernel
theorem dX6_record_23 : decode cX6_record 23 = .ok (.aload_n 0, 1) := by decide +kernel
theorem dX6_record_24 : decode cX6_record 24 = .ok (.getfield 16, 3) := by decide +kernel
theorem dX6_record_27 : decode cX6_record 27 = .ok (.iload_n 1, 1) := by decide +kernel
theorem dX6_record_28 : decode cX6_record 28 = .ok (.sipush 139, 3) := by decide +kernel
theorem dX6_record_31 : decode cX6_record 31 = .ok (.iadd, 1) := by decide +kernel
theorem dX6_record_32 : decode cX6_record 32 = .ok (.iaload, 1) := by decide +kernel
theorem dX6_record_33 : decode cX6_record 33 = .ok (.iastore, 1) := by decide +kernel
theorem dX6_record_34 : decode cX6_record 34 = .ok (.iinc 1 1, 3) := by decide +kernel
theorem dX6_record_37 : decode cX6_record 37 = .ok (.goto (-26), 3) := by decide +kernel
theorem dX6_record_40 : decode cX6_record 40 = .ok (.aload_n 0, 1) := by decide +kernel
theorem dX6_record_41 : decode cX6_record 41 = .ok (.dup, 1) := by decide +kernel
theorem dX6_record_42 : decode cX6_record 42 = .ok (.getfield 32, 3) := by decide +kernel
theorem dX6_record_45 : decode cX6_record 45 = .ok (.iconst 1, 1) := by decide +kernel
theorem dX6_record_46 : decode cX6_record 46 = .ok (.isub, 1) := by decide +kernel
theorem dX6_record_47 : decode cX6_record 47 = .ok (.putfield 32, 3) := by decide +kernel
theorem dX6_record_50 : decode cX6_record 50 = .ok (.aload_n 0, 1) := by decide +kernel
theorem dX6_record_51 : decode cX6_record 51 = .ok (.getfield 7, 3) := by decide +kernel
theorem dX6_record_54 : decode cX6_record 54 = .ok (.iconst 0, 1) := by decide +kernel
theorem dX6_record_55 : decode cX6_record 55 = .ok (.aload_n 0, 1) := by decide +kernel
theorem dX6_record_56 : decode cX6_record 56 = .ok (.getfield 16, 3) := by decide +kernel
theorem dX6_record_59 : decode cX6_record 59 = .ok (.aload_n 0, 1) := by decide +kernel
theorem dX6_record_60 : decode cX6_record 60 = .ok (.getfield 32, 3) := by decide +kernel
theorem dX6_record_63 : decode cX6_record 63 = .ok (.sipush 139, 3) := by decide +kernel
theorem dX6_record_66 : decode cX6_record 66 = .ok (.imul, 1) := by decide +kernel
theorem dX6_record_67 : decode cX6_record 67 = .ok (.invokestatic 36, 3) := by decide +kernel
theorem dX6_record_70 : decode cX6_record 70 = .ok (.aload_n 0, 1) := by decide +kernel
theorem dX6_record_71 : decode cX6_record 71 = .ok (.dup, 1) := by decide +kernel
theorem dX6_record_72 : decode cX6_record 72 = .ok (.getfield 32, 3) := by decide +kernel
theorem dX6_record_75 : decode cX6_record 75 = .ok (.iconst 1, 1) := by decide +kernel
theorem dX6_record_76 : decode cX6_record 76 = .ok (.iadd, 1) := by decide +kernel
theorem dX6_record_77 : decode cX6_record 77 = .ok (.putfield 32, 3) := by decide +kernel
theorem dX6_record_80 : decode cX6_record 80 = .ok (.return_, 1) := by decide +kernel
theorem dX6_isSlot_0 : decode cX6_isSlot 0 = .ok (.iload_n 0, 1) := by decide +kernel
theorem dX6_isSlot_1 : decode cX6_isSlot 1 = .ok (.iconst 0, 1) := by decide +kernel
theorem dX6_isSlot_2 : decode cX6_isSlot 2 = .ok (.iconst 1, 1) := by decide +kernel
theorem dX6_isSlot_3 : decode cX6_isSlot 3 = .ok (.invokestatic 40, 3) := by decide +kernel
theorem dX6_isSlot_6 : decode cX6_isSlot 6 = .ok (.ireturn, 1) := by decide +kernel
theorem dX6_part_0 : decode cX6_part 0 = .ok (.aload_n 0, 1) := by decide +kernel
theorem dX6_part_1 : decode cX6_part 1 = .ok (.getfield 7, 3) := by decide +kernel
theorem dX6_part_4 : decode cX6_part 4 = .ok (.bipush 11, 2) := by decide +kernel
theorem dX6_part_6 : decode cX6_part 6 = .ok (.bipush 46, 2) := by decide +kernel
theorem dX6_part_8 : decode cX6_part 8 = .ok (.iload_n 1, 1) := by decide +kernel
theorem dX6_part_9 : decode cX6_part 9 = .ok (.imul, 1) := by decide +kernel
theorem dX6_part_10 : decode cX6_part 10 = .ok (.iadd, 1) := by decide +kernel
theorem dX6_part_11 : decode cX6_part 11 = .ok (.iload_n 2, 1) := by decide +kernel
theorem dX6_part_12 : decode cX6_part 12 = .ok (.iadd, 1) := by decide +kernel
theorem dX6_part_13 : decode cX6_part 13 = .ok (.iaload, 1) := by decide +kernel
theorem dX6_part_14 : decode cX6_part 14 = .ok (.ireturn, 1) := by decide +kernel
theorem dX6_setPart_0 : decode cX6_setPart 0 = .ok (.aload_n 0, 1) := by decide +kernel
theorem dX6_setPart_1 : decode cX6_setPart 1 = .ok (.getfield 7, 3) := by decide +kernel
theorem dX6_setPart_4 : decode cX6_setPart 4 = .ok (.bipush 11, 2) := by decide +kernel
theorem dX6_setPart_6 : decode cX6_setPart 6 = .ok (.bipush 46, 2) := by decide +kernel
theorem dX6_setPart_8 : decode cX6_setPart 8 = .ok (.iload_n 1, 1) := by decide +kernel
theorem dX6_setPart_9 : decode cX6_setPart 9 = .ok (.imul, 1) := by decide +kernel
theorem dX6_setPart_10 : decode cX6_setPart 10 = .ok (.iadd, 1) := by decide +kernel
theorem dX6_setPart_11 : decode cX6_setPart 11 = .ok (.iload_n 2, 1) := by decide +kernel
theorem dX6_setPart_12 : decode cX6_setPart 12 = .ok (.iadd, 1) := by decide +kernel
theorem dX6_setPart_13 : decode cX6_setPart 13 = .ok (.iload_n 3, 1) := by decide +kernel
theorem dX6_setPart_14 : decode cX6_setPart 14 = .ok (.iastore, 1) := by decide +kernel
theorem dX6_setPart_15 : decode cX6_setPart 15 = .ok (.return_, 1) := by decide +kernel
theorem dX6_isHow_0 : decode cX6_isHow 0 = .ok (.aload_n 0, 1) := by decide +kernel
theorem dX6_isHow_1 : decode cX6_isHow 1 = .ok (.iload_n 1, 1) := by decide +kernel
theorem dX6_isHow_2 : decode cX6_isHow 2 = .ok (.iconst 0, 1) := by decide +kernel
theorem dX6_isHow_3 : decode cX6_isHow 3 = .ok (.invokevirtual 44, 3) := by decide +kernel
theorem dX6_isHow_6 : decode cX6_isHow 6 = .ok (.iload_n 2, 1) := by decide +kernel
theorem dX6_isHow_7 : decode cX6_isHow 7 = .ok (.if_icmp .ne 7, 3) := by decide +kernel
theorem dX6_isHow_10 : decode cX6_isHow 10 = .ok (.iconst 1, 1) := by decide +kernel
theorem dX6_isHow_11 : decode cX6_isHow 11 = .ok (.goto 4, 3) := by decide +kernel
theorem dX6_isHow_14 : decode cX6_isHow 14 = .ok (.iconst 0, 1) := by decide +kernel
theorem dX6_isHow_15 : decode cX6_isHow 15 = .ok (.ireturn, 1) := by decide +kernel
theorem dX6_wordOf_0 : decode cX6_wordOf 0 = .ok (.iload_n 1, 1) := by decide +kernel
theorem dX6_wordOf_1 : decode cX6_wordOf 1 = .ok (.iconst 2, 1) := by decide +kernel
theorem dX6_wordOf_2 : decode cX6_wordOf 2 = .ok (.if_icmp .eq 15, 3) := by decide +kernel
theorem dX6_wordOf_5 : decode cX6_wordOf 5 = .ok (.aload_n 0, 1) := by decide +kernel
theorem dX6_wordOf_6 : decode cX6_wordOf 6 = .ok (.iload_n 1, 1) := by decide +kernel
theorem dX6_wordOf_7 : decode cX6_wordOf 7 = .ok (.bipush 14, 2) := by decide +kernel
theorem dX6_wordOf_9 : decode cX6_wordOf 9 = .ok (.iload_n 2, 1) := by decide +kernel
theorem dX6_wordOf_10 : decode cX6_wordOf 10 = .ok (.iadd, 1) := by decide +kernel
theorem dX6_wordOf_11 : decode cX6_wordOf 11 = .ok (.invokevirtual 44, 3) := by decide +kernel
theorem dX6_wordOf_14 : decode cX6_wordOf 14 = .ok (.goto 15, 3) := by decide +kernel
theorem dX6_wordOf_17 : decode cX6_wordOf 17 = .ok (.iload_n 2, 1) := by decide +kernel
theorem dX6_wordOf_18 : decode cX6_wordOf 18 = .ok (.iconst 2, 1) := by decide +kernel
theorem dX6_wordOf_19 : decode cX6_wordOf 19 = .ok (.if_icmp .ge 7, 3) := by decide +kernel
theorem dX6_wordOf_22 : decode cX6_wordOf 22 = .ok (.iconst 0, 1) := by decide +kernel
theorem dX6_wordOf_23 : decode cX6_wordOf 23 = .ok (.goto 6, 3) := by decide +kernel
theorem dX6_wordOf_26 : decode cX6_wordOf 26 = .ok (.sipush 255, 3) := by decide +kernel
theorem dX6_wordOf_29 : decode cX6_wordOf 29 = .ok (.ireturn, 1) := by decide +kernel
theorem dX6_sumOf_0 : decode cX6_sumOf 0 = .ok (.iload_n 1, 1) := by decide +kernel
theorem dX6_sumOf_1 : decode cX6_sumOf 1 = .ok (.iconst 2, 1) := by decide +kernel
theorem dX6_sumOf_2 : decode cX6_sumOf 2 = .ok (.if_icmp .ne 7, 3) := by decide +kernel
theorem dX6_sumOf_5 : decode cX6_sumOf 5 = .ok (.iconst 2, 1) := by decide +kernel
theorem dX6_sumOf_6 : decode cX6_sumOf 6 = .ok (.goto 9, 3) := by decide +kernel
theorem dX6_sumOf_9 : decode cX6_sumOf 9 = .ok (.aload_n 0, 1) := by decide +kernel
theorem dX6_sumOf_10 : decode cX6_sumOf 10 = .ok (.iload_n 1, 1) := by decide +kernel
theorem dX6_sumOf_11 : decode cX6_sumOf 11 = .ok (.iconst 2, 1) := by decide +kernel
theorem dX6_sumOf_12 : decode cX6_sumOf 12 = .ok (.invokevirtual 44, 3) := by decide +kernel
theorem dX6_sumOf_15 : decode cX6_sumOf 15 = .ok (.istore_n 2, 1) := by decide +kernel
theorem dX6_sumOf_16 : decode cX6_sumOf 16 = .ok (.iconst 1, 1) := by decide +kernel
theorem dX6_sumOf_17 : decode cX6_sumOf 17 = .ok (.istore_n 3, 1) := by decide +kernel
theorem dX6_sumOf_18 : decode cX6_sumOf 18 = .ok (.iconst 0, 1) := by decide +kernel
theorem dX6_sumOf_19 : decode cX6_sumOf 19 = .ok (.istore 4, 2) := by decide +kernel
theorem dX6_sumOf_21 : decode cX6_sumOf 21 = .ok (.iload 4, 2) := by decide +kernel
theorem dX6_sumOf_23 : decode cX6_sumOf 23 = .ok (.iload_n 2, 1) := by decide +kernel
theorem dX6_sumOf_24 : decode cX6_sumOf 24 = .ok (.if_icmp .ge 25, 3) := by decide +kernel
theorem dX6_sumOf_27 : decode cX6_sumOf 27 = .ok (.iconst 3, 1) := by decide +kernel
theorem dX6_sumOf_28 : decode cX6_sumOf 28 = .ok (.iload_n 3, 1) := by decide +kernel
theorem dX6_sumOf_29 : decode cX6_sumOf 29 = .ok (.imul, 1) := by decide +kernel
theorem dX6_sumOf_30 : decode cX6_sumOf 30 = .ok (.aload_n 0, 1) := by decide +kernel
theorem dX6_sumOf_31 : decode cX6_sumOf 31 = .ok (.iload_n 1, 1) := by decide +kernel
theorem dX6_sumOf_32 : decode cX6_sumOf 32 = .ok (.iload 4, 2) := by decide +kernel
theorem dX6_sumOf_34 : decode cX6_sumOf 34 = .ok (.invokevirtual 48, 3) := by decide +kernel
theorem dX6_sumOf_37 : decode cX6_sumOf 37 = .ok (.iadd, 1) := by decide +kernel
theorem dX6_sumOf_38 : decode cX6_sumOf 38 = .ok (.sipush 251, 3) := by decide +kernel
theorem dX6_sumOf_41 : decode cX6_sumOf 41 = .ok (.irem, 1) := by decide +kernel
theorem dX6_sumOf_42 : decode cX6_sumOf 42 = .ok (.istore_n 3, 1) := by decide +kernel
theorem dX6_sumOf_43 : decode cX6_sumOf 43 = .ok (.iinc 4 1, 3) := by decide +kernel
theorem dX6_sumOf_46 : decode cX6_sumOf 46 = .ok (.goto (-25), 3) := by decide +kernel
theorem dX6_sumOf_49 : decode cX6_sumOf 49 = .ok (.iload_n 3, 1) := by decide +kernel
theorem dX6_sumOf_50 : decode cX6_sumOf 50 = .ok (.ireturn, 1) := by decide +kernel
theorem dX6_isSound_0 : decode cX6_isSound 0 = .ok (.aload_n 0, 1) := by decide +kernel
theorem dX6_isSound_1 : decode cX6_isSound 1 = .ok (.iload_n 1, 1) := by decide +kernel
theorem dX6_isSound_2 : decode cX6_isSound 2 = .ok (.invokevirtual 51, 3) := by decide +kernel
theorem dX6_isSound_5 : decode cX6_isSound 5 = .ok (.aload_n 0, 1) := by decide +kernel
theorem dX6_isSound_6 : decode cX6_isSound 6 = .ok (.iload_n 1, 1) := by decide +kernel
theorem dX6_isSound_7 : decode cX6_isSound 7 = .ok (.iconst 3, 1) := by decide +kernel
theorem dX6_isSound_8 : decode cX6_isSound 8 = .ok (.invokevirtual 44, 3) := by decide +kernel
theorem dX6_isSound_11 : decode cX6_isSound 11 = .ok (.if_icmp .ne 7, 3) := by decide +kernel
theorem dX6_isSound_14 : decode cX6_isSound 14 = .ok (.iconst 1, 1) := by decide +kernel
theorem dX6_isSound_15 : decode cX6_isSound 15 = .ok (.goto 4, 3) := by decide +kernel
theorem dX6_isSound_18 : decode cX6_isSound 18 = .ok (.iconst 0, 1) := by decide +kernel
theorem dX6_isSound_19 : decode cX6_isSound 19 = .ok (.ireturn, 1) := by decide +kernel
theorem dX6_pagesOf_0 : decode cX6_pagesOf 0 = .ok (.iload_n 0, 1) := by decide +kernel
theorem dX6_pagesOf_1 : decode cX6_pagesOf 1 = .ok (.iconst 4, 1) := by decide +kernel
theorem dX6_pagesOf_2 : decode cX6_pagesOf 2 = .ok (.iadd, 1) := by decide +kernel
theorem dX6_pagesOf_3 : decode cX6_pagesOf 3 = .ok (.iconst 1, 1) := by decide +kernel
theorem dX6_pagesOf_4 : decode cX6_pagesOf 4 = .ok (.isub, 1) := by decide +kernel
theorem dX6_pagesOf_5 : decode cX6_pagesOf 5 = .ok (.iconst 4, 1) := by decide +kernel
theorem dX6_pagesOf_6 : decode cX6_pagesOf 6 = .ok (.idiv, 1) := by decide +kernel
theorem dX6_pagesOf_7 : decode cX6_pagesOf 7 = .ok (.ireturn, 1) := by decide +kernel
theorem dX6_isWorn_0 : decode cX6_isWorn 0 = .ok (.aload_n 0, 1) := by decide +kernel
theorem dX6_isWorn_1 : decode cX6_isWorn 1 = .ok (.iload_n 1, 1) := by decide +kernel
theorem dX6_isWorn_2 : decode cX6_isWorn 2 = .ok (.bipush 6, 2) := by decide +kernel
theorem dX6_isWorn_4 : decode cX6_isWorn 4 = .ok (.iload_n 2, 1) := by decide +kernel
theorem dX6_isWorn_5 : decode cX6_isWorn 5 = .ok (.iadd, 1) := by decide +kernel
theorem dX6_isWorn_6 : decode cX6_isWorn 6 = .ok (.invokevirtual 44, 3) := by decide +kernel
theorem dX6_isWorn_9 : decode cX6_isWorn 9 = .ok (.aload_n 0, 1) := by decide +kernel
theorem dX6_isWorn_10 : decode cX6_isWorn 10 = .ok (.getfield 7, 3) := by decide +kernel
theorem dX6_isWorn_13 : decode cX6_isWorn 13 = .ok (.iconst 2, 1) := by decide +kernel
theorem dX6_isWorn_14 : decode cX6_isWorn 14 = .ok (.iaload, 1) := by decide +kernel
theorem dX6_isWorn_15 : decode cX6_isWorn 15 = .ok (.if_icmp .lt 7, 3) := by decide +kernel
theorem dX6_isWorn_18 : decode cX6_isWorn 18 = .ok (.iconst 1, 1) := by decide +kernel
theorem dX6_isWorn_19 : decode cX6_isWorn 19 = .ok (.goto 4, 3) := by decide +kernel
theorem dX6_isWorn_22 : decode cX6_isWorn 22 = .ok (.iconst 0, 1) := by decide +kernel
theorem dX6_isWorn_23 : decode cX6_isWorn 23 = .ok (.ireturn, 1) := by decide +kernel
theorem dX6_isAnyWorn_0 : decode cX6_isAnyWorn 0 = .ok (.iconst 0, 1) := by decide +kernel
theorem dX6_isAnyWorn_1 : decode cX6_isAnyWorn 1 = .ok (.istore_n 3, 1) := by decide +kernel
theorem dX6_isAnyWorn_2 : decode cX6_isAnyWorn 2 = .ok (.iconst 0, 1) := by decide +kernel
theorem dX6_isAnyWorn_3 : decode cX6_isAnyWorn 3 = .ok (.istore 4, 2) := by decide +kernel
theorem dX6_isAnyWorn_5 : decode cX6_isAnyWorn 5 = .ok (.iload 4, 2) := by decide +kernel
theorem dX6_isAnyWorn_7 : decode cX6_isAnyWorn 7 = .ok (.iload_n 2, 1) := by decide +kernel
theorem dX6_isAnyWorn_8 : decode cX6_isAnyWorn 8 = .ok (.if_icmp .ge 29, 3) := by decide +kernel
theorem dX6_isAnyWorn_11 : decode cX6_isAnyWorn 11 = .ok (.iload_n 3, 1) := by decide +kernel
theorem dX6_isAnyWorn_12 : decode cX6_isAnyWorn 12 = .ok (.ifCond .ne 13, 3) := by decide +kernel
theorem dX6_isAnyWorn_15 : decode cX6_isAnyWorn 15 = .ok (.aload_n 0, 1) := by decide +kernel
theorem dX6_isAnyWorn_16 : decode cX6_isAnyWorn 16 = .ok (.iload_n 1, 1) := by decide +kernel
theorem dX6_isAnyWorn_17 : decode cX6_isAnyWorn 17 = .ok (.iload 4, 2) := by decide +kernel
theorem dX6_isAnyWorn_19 : decode cX6_isAnyWorn 19 = .ok (.invokevirtual 55, 3) := by decide +kernel
theorem dX6_isAnyWorn_22 : decode cX6_isAnyWorn 22 = .ok (.ifCond .eq 7, 3) := by decide +kernel
theorem dX6_isAnyWorn_25 : decode cX6_isAnyWorn 25 = .ok (.iconst 1, 1) := by decide +kernel
theorem dX6_isAnyWorn_26 : decode cX6_isAnyWorn 26 = .ok (.goto 4, 3) := by decide +kernel
theorem dX6_isAnyWorn_29 : decode cX6_isAnyWorn 29 = .ok (.iconst 0, 1) := by decide +kernel
theorem dX6_isAnyWorn_30 : decode cX6_isAnyWorn 30 = .ok (.istore_n 3, 1) := by decide +kernel
theorem dX6_isAnyWorn_31 : decode cX6_isAnyWorn 31 = .ok (.iinc 4 1, 3) := by decide +kernel
theorem dX6_isAnyWorn_34 : decode cX6_isAnyWorn 34 = .ok (.goto (-29), 3) := by decide +kernel
theorem dX6_isAnyWorn_37 : decode cX6_isAnyWorn 37 = .ok (.iload_n 3, 1) := by decide +kernel
theorem dX6_isAnyWorn_38 : decode cX6_isAnyWorn 38 = .ok (.ireturn, 1) := by decide +kernel
theorem dX6_emptyPage_0 : decode cX6_emptyPage 0 = .ok (.iconst 0, 1) := by decide +kernel
theorem dX6_emptyPage_1 : decode cX6_emptyPage 1 = .ok (.istore_n 3, 1) := by decide +kernel
theorem dX6_emptyPage_2 : decode cX6_emptyPage 2 = .ok (.iload_n 3, 1) := by decide +kernel
theorem dX6_emptyPage_3 : decode cX6_emptyPage 3 = .ok (.iconst 4, 1) := by decide +kernel
theorem dX6_emptyPage_4 : decode cX6_emptyPage 4 = .ok (.if_icmp .ge 25, 3) := by decide +kernel
theorem dX6_emptyPage_7 : decode cX6_emptyPage 7 = .ok (.aload_n 0, 1) := by decide +kernel
theorem dX6_emptyPage_8 : decode cX6_emptyPage 8 = .ok (.iload_n 1, 1) := by decide +kernel
theorem dX6_emptyPage_9 : decode cX6_emptyPage 9 = .ok (.bipush 14, 2) := by decide +kernel
theorem dX6_emptyPage_11 : decode cX6_emptyPage 11 = .ok (.iconst 4, 1) := by decide +kernel
theorem dX6_emptyPage_12 : decode cX6_emptyPage 12 = .ok (.iload_n 2, 1) := by decide +kernel
theorem dX6_emptyPage_13 : decode cX6_emptyPage 13 = .ok (.imul, 1) := by decide +kernel
theorem dX6_emptyPage_14 : decode cX6_emptyPage 14 = .ok (.iadd, 1) := by decide +kernel
theorem dX6_emptyPage_15 : decode cX6_emptyPage 15 = .ok (.iload_n 3, 1) := by decide +kernel
theorem dX6_emptyPage_16 : decode cX6_emptyPage 16 = .ok (.iadd, 1) := by decide +kernel
theorem dX6_emptyPage_17 : decode cX6_emptyPage 17 = .ok (.sipush 255, 3) := by decide +kernel
theorem dX6_emptyPage_20 : decode cX6_emptyPage 20 = .ok (.invokevirtual 28, 3) := by decide +kernel
theorem dX6_emptyPage_23 : decode cX6_emptyPage 23 = .ok (.iinc 3 1, 3) := by decide +kernel
theorem dX6_emptyPage_26 : decode cX6_emptyPage 26 = .ok (.goto (-24), 3) := by decide +kernel
theorem dX6_emptyPage_29 : decode cX6_emptyPage 29 = .ok (.aload_n 0, 1) := by decide +kernel
theorem dX6_emptyPage_30 : decode cX6_emptyPage 30 = .ok (.iload_n 1, 1) := by decide +kernel
theorem dX6_emptyPage_31 : decode cX6_emptyPage 31 = .ok (.bipush 6, 2) := by decide +kernel
theorem dX6_emptyPage_33 : decode cX6_emptyPage 33 = .ok (.iload_n 2, 1) := by decide +kernel
theorem dX6_emptyPage_34 : decode cX6_emptyPage 34 = .ok (.iadd, 1) := by decide +kernel
theorem dX6_emptyPage_35 : decode cX6_emptyPage 35 = .ok (.aload_n 0, 1) := by decide +kernel
theorem dX6_emptyPage_36 : decode cX6_emptyPage 36 = .ok (.iload_n 1, 1) := by decide +kernel
theorem dX6_emptyPage_37 : decode cX6_emptyPage 37 = .ok (.bipush 6, 2) := by decide +kernel
theorem dX6_emptyPage_39 : decode cX6_emptyPage 39 = .ok (.iload_n 2, 1) := by decide +kernel
theorem dX6_emptyPage_40 : decode cX6_emptyPage 40 = .ok (.iadd, 1) := by decide +kernel
theorem dX6_emptyPage_41 : decode cX6_emptyPage 41 = .ok (.invokevirtual 44, 3) := by decide +kernel
theorem dX6_emptyPage_44 : decode cX6_emptyPage 44 = .ok (.iconst 1, 1) := by decide +kernel
theorem dX6_emptyPage_45 : decode cX6_emptyPage 45 = .ok (.iadd, 1) := by decide +kernel
theorem dX6_emptyPage_46 : decode cX6_emptyPage 46 = .ok (.invokevirtual 28, 3) := by decide +kernel
theorem dX6_emptyPage_49 : decode cX6_emptyPage 49 = .ok (.return_, 1) := by decide +kernel
theorem dX6_greatestWear_0 : decode cX6_greatestWear 0 = .ok (.iconst 0, 1) := by decide +kernel
theorem dX6_greatestWear_1 : decode cX6_greatestWear 1 = .ok (.istore_n 3, 1) := by decide +kernel
theorem dX6_greatestWear_2 : decode cX6_greatestWear 2 = .ok (.iconst 0, 1) := by decide +kernel
theorem dX6_greatestWear_3 : decode cX6_greatestWear 3 = .ok (.istore 4, 2) := by decide +kernel
theorem dX6_greatestWear_5 : decode cX6_greatestWear 5 = .ok (.iload 4, 2) := by decide +kernel
theorem dX6_greatestWear_7 : decode cX6_greatestWear 7 = .ok (.iload_n 2, 1) := by decide +kernel
theorem dX6_greatestWear_8 : decode cX6_greatestWear 8 = .ok (.if_icmp .ge 38, 3) := by decide +kernel
theorem dX6_greatestWear_11 : decode cX6_greatestWear 11 = .ok (.aload_n 0, 1) := by decide +kernel
theorem dX6_greatestWear_12 : decode cX6_greatestWear 12 = .ok (.iload_n 1, 1) := by decide +kernel
theorem dX6_greatestWear_13 : decode cX6_greatestWear 13 = .ok (.bipush 6, 2) := by decide +kernel
theorem dX6_greatestWear_15 : decode cX6_greatestWear 15 = .ok (.iload 4, 2) := by decide +kernel
theorem dX6_greatestWear_17 : decode cX6_greatestWear 17 = .ok (.iadd, 1) := by decide +kernel
theorem dX6_greatestWear_18 : decode cX6_greatestWear 18 = .ok (.invokevirtual 44, 3) := by decide +kernel
theorem dX6_greatestWear_21 : decode cX6_greatestWear 21 = .ok (.iload_n 3, 1) := by decide +kernel
theorem dX6_greatestWear_22 : decode cX6_greatestWear 22 = .ok (.if_icmp .le 16, 3) := by decide +kernel
theorem dX6_greatestWear_25 : decode cX6_greatestWear 25 = .ok (.aload_n 0, 1) := by decide +kernel
theorem dX6_greatestWear_26 : decode cX6_greatestWear 26 = .ok (.iload_n 1, 1) := by decide +kernel
theorem dX6_greatestWear_27 : decode cX6_greatestWear 27 = .ok (.bipush 6, 2) := by decide +kernel
theorem dX6_greatestWear_29 : decode cX6_greatestWear 29 = .ok (.iload 4, 2) := by decide +kernel
theorem dX6_greatestWear_31 : decode cX6_greatestWear 31 = .ok (.iadd, 1) := by decide +kernel
theorem dX6_greatestWear_32 : decode cX6_greatestWear 32 = .ok (.invokevirtual 44, 3) := by decide +kernel
theorem dX6_greatestWear_35 : decode cX6_greatestWear 35 = .ok (.goto 4, 3) := by decide +kernel
theorem dX6_greatestWear_38 : decode cX6_greatestWear 38 = .ok (.iload_n 3, 1) := by decide +kernel
theorem dX6_greatestWear_39 : decode cX6_greatestWear 39 = .ok (.istore_n 3, 1) := by decide +kernel
theorem dX6_greatestWear_40 : decode cX6_greatestWear 40 = .ok (.iinc 4 1, 3) := by decide +kernel
theorem dX6_greatestWear_43 : decode cX6_greatestWear 43 = .ok (.goto (-38), 3) := by decide +kernel
theorem dX6_greatestWear_46 : decode cX6_greatestWear 46 = .ok (.iload_n 3, 1) := by decide +kernel
theorem dX6_greatestWear_47 : decode cX6_greatestWear 47 = .ok (.ireturn, 1) := by decide +kernel
theorem dX6_canBe_0 : decode cX6_canBe 0 = .ok (.aload_n 0, 1) := by decide +kernel
theorem dX6_canBe_1 : decode cX6_canBe 1 = .ok (.iload_n 1, 1) := by decide +kernel
theorem dX6_canBe_2 : decode cX6_canBe 2 = .ok (.iload_n 2, 1) := by decide +kernel
theorem dX6_canBe_3 : decode cX6_canBe 3 = .ok (.invokevirtual 59, 3) := by decide +kernel
theorem dX6_canBe_6 : decode cX6_canBe 6 = .ok (.ifCond .eq 21, 3) := by decide +kernel
theorem dX6_canBe_9 : decode cX6_canBe 9 = .ok (.iload_n 2, 1) := by decide +kernel
theorem dX6_canBe_10 : decode cX6_canBe 10 = .ok (.iconst 3, 1) := by decide +kernel
theorem dX6_canBe_11 : decode cX6_canBe 11 = .ok (.if_icmp .eq 12, 3) := by decide +kernel
theorem dX6_canBe_14 : decode cX6_canBe 14 = .ok (.aload_n 0, 1) := by decide +kernel
theorem dX6_canBe_15 : decode cX6_canBe 15 = .ok (.iload_n 1, 1) := by decide +kernel
theorem dX6_canBe_16 : decode cX6_canBe 16 = .ok (.iconst 4, 1) := by decide +kernel
theorem dX6_canBe_17 : decode cX6_canBe 17 = .ok (.invokevirtual 44, 3) := by decide +kernel
theorem dX6_canBe_20 : decode cX6_canBe 20 = .ok (.ifCond .le 7, 3) := by decide +kernel
theorem dX6_canBe_23 : decode cX6_canBe 23 = .ok (.iconst 1, 1) := by decide +kernel
theorem dX6_canBe_24 : decode cX6_canBe 24 = .ok (.goto 4, 3) := by decide +kernel
theorem dX6_canBe_27 : decode cX6_canBe 27 = .ok (.iconst 0, 1) := by decide +kernel
theorem dX6_canBe_28 : decode cX6_canBe 28 = .ok (.ireturn, 1) := by decide +kernel
theorem dX6_greatest_0 : decode cX6_greatest 0 = .ok (.aload_n 0, 1) := by decide +kernel
theorem dX6_greatest_1 : decode cX6_greatest 1 = .ok (.iconst 0, 1) := by decide +kernel
theorem dX6_greatest_2 : decode cX6_greatest 2 = .ok (.iload_n 1, 1) := by decide +kernel
theorem dX6_greatest_3 : decode cX6_greatest 3 = .ok (.invokevirtual 62, 3) := by decide +kernel
theorem dX6_greatest_6 : decode cX6_greatest 6 = .ok (.istore_n 2, 1) := by decide +kernel
theorem dX6_greatest_7 : decode cX6_greatest 7 = .ok (.aload_n 0, 1) := by decide +kernel
theorem dX6_greatest_8 : decode cX6_greatest 8 = .ok (.iconst 1, 1) := by decide +kernel
theorem dX6_greatest_9 : decode cX6_greatest 9 = .ok (.iload_n 1, 1) := by decide +kernel
theorem dX6_greatest_10 : decode cX6_greatest 10 = .ok (.invokevirtual 62, 3) := by decide +kernel
theorem dX6_greatest_13 : decode cX6_greatest 13 = .ok (.istore_n 3, 1) := by decide +kernel
theorem dX6_greatest_14 : decode cX6_greatest 14 = .ok (.iload_n 2, 1) := by decide +kernel
theorem dX6_greatest_15 : decode cX6_greatest 15 = .ok (.ifCond .eq 28, 3) := by decide +kernel
theorem dX6_greatest_18 : decode cX6_greatest 18 = .ok (.iload_n 3, 1) := by decide +kernel
theorem dX6_greatest_19 : decode cX6_greatest 19 = .ok (.ifCond .eq 24, 3) := by decide +kernel
theorem dX6_greatest_22 : decode cX6_greatest 22 = .ok (.aload_n 0, 1) := by decide +kernel
theorem dX6_greatest_23 : decode cX6_greatest 23 = .ok (.iconst 1, 1) := by decide +kernel
theorem dX6_greatest_24 : decode cX6_greatest 24 = .ok (.iconst 1, 1) := by decide +kernel
theorem dX6_greatest_25 : decode cX6_greatest 25 = .ok (.invokevirtual 44, 3) := by decide +kernel
theorem dX6_greatest_28 : decode cX6_greatest 28 = .ok (.aload_n 0, 1) := by decide +kernel
theorem dX6_greatest_29 : decode cX6_greatest 29 = .ok (.iconst 0, 1) := by decide +kernel
theorem dX6_greatest_30 : decode cX6_greatest 30 = .ok (.iconst 1, 1) := by decide +kernel
theorem dX6_greatest_31 : decode cX6_greatest 31 = .ok (.invokevirtual 44, 3) := by decide +kernel
theorem dX6_greatest_34 : decode cX6_greatest 34 = .ok (.if_icmp .le 7, 3) := by decide +kernel
theorem dX6_greatest_37 : decode cX6_greatest 37 = .ok (.iconst 1, 1) := by decide +kernel
theorem dX6_greatest_38 : decode cX6_greatest 38 = .ok (.goto 4, 3) := by decide +kernel
theorem dX6_greatest_41 : decode cX6_greatest 41 = .ok (.iconst 0, 1) := by decide +kernel
theorem dX6_greatest_42 : decode cX6_greatest 42 = .ok (.ireturn, 1) := by decide +kernel
theorem dX6_greatest_43 : decode cX6_greatest 43 = .ok (.iload_n 2, 1) := by decide +kernel
theorem dX6_greatest_44 : decode cX6_greatest 44 = .ok (.ifCond .eq 7, 3) := by decide +kernel
theorem dX6_greatest_47 : decode cX6_greatest 47 = .ok (.iconst 0, 1) := by decide +kernel
theorem dX6_greatest_48 : decode cX6_greatest 48 = .ok (.goto 13, 3) := by decide +kernel
theorem dX6_greatest_51 : decode cX6_greatest 51 = .ok (.iload_n 3, 1) := by decide +kernel
theorem dX6_greatest_52 : decode cX6_greatest 52 = .ok (.ifCond .eq 7, 3) := by decide +kernel
theorem dX6_greatest_55 : decode cX6_greatest 55 = .ok (.iconst 1, 1) := by decide +kernel
theorem dX6_greatest_56 : decode cX6_greatest 56 = .ok (.goto 5, 3) := by decide +kernel
theorem dX6_greatest_59 : decode cX6_greatest 59 = .ok (.bipush (-6), 2) := by decide +kernel
theorem dX6_greatest_61 : decode cX6_greatest 61 = .ok (.ireturn, 1) := by decide +kernel
theorem dX6_chosen_0 : decode cX6_chosen 0 = .ok (.aload_n 0, 1) := by decide +kernel
theorem dX6_chosen_1 : decode cX6_chosen 1 = .ok (.iconst 2, 1) := by decide +kernel
theorem dX6_chosen_2 : decode cX6_chosen 2 = .ok (.invokevirtual 65, 3) := by decide +kernel
theorem dX6_chosen_5 : decode cX6_chosen 5 = .ok (.istore_n 1, 1) := by decide +kernel
theorem dX6_chosen_6 : decode cX6_chosen 6 = .ok (.iload_n 1, 1) := by decide +kernel
theorem dX6_chosen_7 : decode cX6_chosen 7 = .ok (.bipush (-6), 2) := by decide +kernel
theorem dX6_chosen_9 : decode cX6_chosen 9 = .ok (.if_icmp .ne 11, 3) := by decide +kernel
theorem dX6_chosen_12 : decode cX6_chosen 12 = .ok (.aload_n 0, 1) := by decide +kernel
theorem dX6_chosen_13 : decode cX6_chosen 13 = .ok (.iconst 3, 1) := by decide +kernel
theorem dX6_chosen_14 : decode cX6_chosen 14 = .ok (.invokevirtual 65, 3) := by decide +kernel
theorem dX6_chosen_17 : decode cX6_chosen 17 = .ok (.goto 4, 3) := by decide +kernel
theorem dX6_chosen_20 : decode cX6_chosen 20 = .ok (.iload_n 1, 1) := by decide +kernel
theorem dX6_chosen_21 : decode cX6_chosen 21 = .ok (.istore_n 1, 1) := by decide +kernel
theorem dX6_chosen_22 : decode cX6_chosen 22 = .ok (.iload_n 1, 1) := by decide +kernel
theorem dX6_chosen_23 : decode cX6_chosen 23 = .ok (.bipush (-6), 2) := by decide +kernel
theorem dX6_chosen_25 : decode cX6_chosen 25 = .ok (.if_icmp .ne 7, 3) := by decide +kernel
theorem dX6_chosen_28 : decode cX6_chosen 28 = .ok (.iconst 2, 1) := by decide +kernel
theorem dX6_chosen_29 : decode cX6_chosen 29 = .ok (.goto 4, 3) := by decide +kernel
theorem dX6_chosen_32 : decode cX6_chosen 32 = .ok (.iload_n 1, 1) := by decide +kernel
theorem dX6_chosen_33 : decode cX6_chosen 33 = .ok (.ireturn, 1) := by decide +kernel
theorem dX6_remember_0 : decode cX6_remember 0 = .ok (.sipush 138, 3) := by decide +kernel
theorem dX6_remember_3 : decode cX6_remember 3 = .ok (.istore_n 2, 1) := by decide +kernel
theorem dX6_remember_4 : decode cX6_remember 4 = .ok (.iload_n 2, 1) := by decide +kernel
theorem dX6_remember_5 : decode cX6_remember 5 = .ok (.bipush 106, 2) := by decide +kernel
theorem dX6_remember_7 : decode cX6_remember 7 = .ok (.if_icmp .lt 23, 3) := by decide +kernel
theorem dX6_remember_10 : decode cX6_remember 10 = .ok (.aload_n 0, 1) := by decide +kernel
theorem dX6_remember_11 : decode cX6_remember 11 = .ok (.getfield 7, 3) := by decide +kernel
theorem dX6_remember_14 : decode cX6_remember 14 = .ok (.iload_n 2, 1) := by decide +kernel
theorem dX6_remember_15 : decode cX6_remember 15 = .ok (.aload_n 0, 1) := by decide +kernel
theorem dX6_remember_16 : decode cX6_remember 16 = .ok (.getfield 7, 3) := by decide +kernel
theorem dX6_remember_19 : decode cX6_remember 19 = .ok (.iload_n 2, 1) := by decide +kernel
theorem dX6_remember_20 : decode cX6_remember 20 = .ok (.iconst 3, 1) := by decide +kernel
theorem dX6_remember_21 : decode cX6_remember 21 = .ok (.isub, 1) := by decide +kernel
theorem dX6_remember_22 : decode cX6_remember 22 = .ok (.iaload, 1) := by decide +kernel
theorem dX6_remember_23 : decode cX6_remember 23 = .ok (.iastore, 1) := by decide +kernel
theorem dX6_remember_24 : decode cX6_remember 24 = .ok (.iinc 2 (-1), 3) := by decide +kernel
theorem dX6_remember_27 : decode cX6_remember 27 = .ok (.goto (-23), 3) := by decide +kernel
theorem dX6_remember_30 : decode cX6_remember 30 = .ok (.aload_n 0, 1) := by decide +kernel
theorem dX6_remember_31 : decode cX6_remember 31 = .ok (.getfield 7, 3) := by decide +kernel
theorem dX6_remember_34 : decode cX6_remember 34 = .ok (.bipush 103, 2) := by decide +kernel
theorem dX6_remember_36 : decode cX6_remember 36 = .ok (.aload_n 0, 1) := by decide +kernel
theorem dX6_remember_37 : decode cX6_remember 37 = .ok (.getfield 7, 3) := by decide +kernel
theorem dX6_remember_40 : decode cX6_remember 40 = .ok (.iconst 3, 1) := by decide +kernel
theorem dX6_remember_41 : decode cX6_remember 41 = .ok (.iaload, 1) := by decide +kernel
theorem dX6_remember_42 : decode cX6_remember 42 = .ok (.iastore, 1) := by decide +kernel
theorem dX6_remember_43 : decode cX6_remember 43 = .ok (.aload_n 0, 1) := by decide +kernel
theorem dX6_remember_44 : decode cX6_remember 44 = .ok (.getfield 7, 3) := by decide +kernel
theorem dX6_remember_47 : decode cX6_remember 47 = .ok (.bipush 104, 2) := by decide +kernel
theorem dX6_remember_49 : decode cX6_remember 49 = .ok (.iload_n 1, 1) := by decide +kernel
theorem dX6_remember_50 : decode cX6_remember 50 = .ok (.iastore, 1) := by decide +kernel
theorem dX6_remember_51 : decode cX6_remember 51 = .ok (.aload_n 0, 1) := by decide +kernel
theorem dX6_remember_52 : decode cX6_remember 52 = .ok (.getfield 7, 3) := by decide +kernel
theorem dX6_remember_55 : decode cX6_remember 55 = .ok (.bipush 105, 2) := by decide +kernel
theorem dX6_remember_57 : decode cX6_remember 57 = .ok (.aload_n 0, 1) := by decide +kernel
theorem dX6_remember_58 : decode cX6_remember 58 = .ok (.getfield 7, 3) := by decide +kernel
theorem dX6_remember_61 : decode cX6_remember 61 = .ok (.bipush 9, 2) := by decide +kernel
theorem dX6_remember_63 : decode cX6_remember 63 = .ok (.iaload, 1) := by decide +kernel
theorem dX6_remember_64 : decode cX6_remember 64 = .ok (.iastore, 1) := by decide +kernel
theorem dX6_remember_65 : decode cX6_remember 65 = .ok (.aload_n 0, 1) := by decide +kernel
theorem dX6_remember_66 : decode cX6_remember 66 = .ok (.getfield 7, 3) := by decide +kernel
theorem dX6_remember_69 : decode cX6_remember 69 = .ok (.bipush 10, 2) := by decide +kernel
theorem dX6_remember_71 : decode cX6_remember 71 = .ok (.dup2, 1) := by decide +kernel
theorem dX6_remember_72 : decode cX6_remember 72 = .ok (.iaload, 1) := by decide +kernel
theorem dX6_remember_73 : decode cX6_remember 73 = .ok (.aload_n 0, 1) := by decide +kernel
theorem dX6_remember_74 : decode cX6_remember 74 = .ok (.getfield 7, 3) := by decide +kernel
theorem dX6_remember_77 : decode cX6_remember 77 = .ok (.bipush 10, 2) := by decide +kernel
theorem dX6_remember_79 : decode cX6_remember 79 = .ok (.iaload, 1) := by decide +kernel
theorem dX6_remember_80 : decode cX6_remember 80 = .ok (.bipush 12, 2) := by decide +kernel
theorem dX6_remember_82 : decode cX6_remember 82 = .ok (.if_icmp .ge 7, 3) := by decide +kernel
theorem dX6_remember_85 : decode cX6_remember 85 = .ok (.iconst 1, 1) := by decide +kernel
theorem dX6_remember_86 : decode cX6_remember 86 = .ok (.goto 4, 3) := by decide +kernel
theorem dX6_remember_89 : decode cX6_remember 89 = .ok (.iconst 0, 1) := by decide +kernel
theorem dX6_remember_90 : decode cX6_remember 90 = .ok (.iadd, 1) := by decide +kernel
theorem dX6_remember_91 : decode cX6_remember 91 = .ok (.iastore, 1) := by decide +kernel
theorem dX6_remember_92 : decode cX6_remember 92 = .ok (.return_, 1) := by decide +kernel
theorem dX6_starts_0 : decode cX6_starts 0 = .ok (.iconst 0, 1) := by decide +kernel
theorem dX6_starts_1 : decode cX6_starts 1 = .ok (.istore_n 2, 1) := by decide +kernel
theorem dX6_starts_2 : decode cX6_starts 2 = .ok (.iload_n 2, 1) := by decide +kernel
theorem dX6_starts_3 : decode cX6_starts 3 = .ok (.iconst 2, 1) := by decide +kernel
theorem dX6_starts_4 : decode cX6_starts 4 = .ok (.if_icmp .ge 55, 3) := by decide +kernel
theorem dX6_starts_7 : decode cX6_starts 7 = .ok (.aload_n 0, 1) := by decide +kernel
theorem dX6_starts_8 : decode cX6_starts 8 = .ok (.iload_n 2, 1) := by decide +kernel
theorem dX6_starts_9 : decode cX6_starts 9 = .ok (.iconst 2, 1) := by decide +kernel
theorem dX6_starts_10 : decode cX6_starts 10 = .ok (.invokevirtual 59, 3) := by decide +kernel
theorem dX6_starts_13 : decode cX6_starts 13 = .ok (.ifCond .eq 19, 3) := by decide +kernel
theorem dX6_starts_16 : decode cX6_starts 16 = .ok (.aload_n 0, 1) := by decide +kernel
theorem dX6_starts_17 : decode cX6_starts 17 = .ok (.iload_n 2, 1) := by decide +kernel
theorem dX6_starts_18 : decode cX6_starts 18 = .ok (.iconst 4, 1) := by decide +kernel
theorem dX6_starts_19 : decode cX6_starts 19 = .ok (.invokevirtual 44, 3) := by decide +kernel
theorem dX6_starts_22 : decode cX6_starts 22 = .ok (.ifCond .ne 10, 3) := by decide +kernel
theorem dX6_starts_25 : decode cX6_starts 25 = .ok (.aload_n 0, 1) := by decide +kernel
theorem dX6_starts_26 : decode cX6_starts 26 = .ok (.iload_n 2, 1) := by decide +kernel
theorem dX6_starts_27 : decode cX6_starts 27 = .ok (.iconst 0, 1) := by decide +kernel
theorem dX6_starts_28 : decode cX6_starts 28 = .ok (.iconst 4, 1) := by decide +kernel
theorem dX6_starts_29 : decode cX6_starts 29 = .ok (.invokevirtual 28, 3) := by decide +kernel
theorem dX6_starts_32 : decode cX6_starts 32 = .ok (.iload_n 1, 1) := by decide +kernel
theorem dX6_starts_33 : decode cX6_starts 33 = .ok (.iconst 2, 1) := by decide +kernel
theorem dX6_starts_34 : decode cX6_starts 34 = .ok (.if_icmp .ne 19, 3) := by decide +kernel
theorem dX6_starts_37 : decode cX6_starts 37 = .ok (.aload_n 0, 1) := by decide +kernel
theorem dX6_starts_38 : decode cX6_starts 38 = .ok (.iload_n 2, 1) := by decide +kernel
theorem dX6_starts_39 : decode cX6_starts 39 = .ok (.iconst 1, 1) := by decide +kernel
theorem dX6_starts_40 : decode cX6_starts 40 = .ok (.invokevirtual 59, 3) := by decide +kernel
theorem dX6_starts_43 : decode cX6_starts 43 = .ok (.ifCond .eq 10, 3) := by decide +kernel
theorem dX6_starts_46 : decode cX6_starts 46 = .ok (.aload_n 0, 1) := by decide +kernel
theorem dX6_starts_47 : decode cX6_starts 47 = .ok (.iload_n 2, 1) := by decide +kernel
theorem dX6_starts_48 : decode cX6_starts 48 = .ok (.iconst 0, 1) := by decide +kernel
theorem dX6_starts_49 : decode cX6_starts 49 = .ok (.iconst 0, 1) := by decide +kernel
theorem dX6_starts_50 : decode cX6_starts 50 = .ok (.invokevirtual 28, 3) := by decide +kernel
theorem dX6_starts_53 : decode cX6_starts 53 = .ok (.iinc 2 1, 3) := by decide +kernel
theorem dX6_starts_56 : decode cX6_starts 56 = .ok (.goto (-54), 3) := by decide +kernel
theorem dX6_starts_59 : decode cX6_starts 59 = .ok (.aload_n 0, 1) := by decide +kernel
theorem dX6_starts_60 : decode cX6_starts 60 = .ok (.invokevirtual 68, 3) := by decide +kernel
theorem dX6_starts_63 : decode cX6_starts 63 = .ok (.istore_n 2, 1) := by decide +kernel
theorem dX6_starts_64 : decode cX6_starts 64 = .ok (.iload_n 2, 1) := by decide +kernel
theorem dX6_starts_65 : decode cX6_starts 65 = .ok (.iconst 2, 1) := by decide +kernel
theorem dX6_starts_66 : decode cX6_starts 66 = .ok (.if_icmp .eq 26, 3) := by decide +kernel
theorem dX6_starts_69 : decode cX6_starts 69 = .ok (.aload_n 0, 1) := by decide +kernel
theorem dX6_starts_70 : decode cX6_starts 70 = .ok (.iload_n 2, 1) := by decide +kernel
theorem dX6_starts_71 : decode cX6_starts 71 = .ok (.invokevirtual 72, 3) := by decide +kernel
theorem dX6_starts_74 : decode cX6_starts 74 = .ok (.ifCond .ne 18, 3) := by decide +kernel
theorem dX6_starts_77 : decode cX6_starts 77 = .ok (.aload_n 0, 1) := by decide +kernel
theorem dX6_starts_78 : decode cX6_starts 78 = .ok (.iload_n 2, 1) := by decide +kernel
theorem dX6_starts_79 : decode cX6_starts 79 = .ok (.iconst 0, 1) := by decide +kernel
theorem dX6_starts_80 : decode cX6_starts 80 = .ok (.iconst 4, 1) := by decide +kernel
theorem dX6_starts_81 : decode cX6_starts 81 = .ok (.invokevirtual 28, 3) := by decide +kernel
theorem dX6_starts_84 : decode cX6_starts 84 = .ok (.aload_n 0, 1) := by decide +kernel
theorem dX6_starts_85 : decode cX6_starts 85 = .ok (.invokevirtual 68, 3) := by decide +kernel
theorem dX6_starts_88 : decode cX6_starts 88 = .ok (.istore_n 2, 1) := by decide +kernel
theorem dX6_starts_89 : decode cX6_starts 89 = .ok (.goto (-25), 3) := by decide +kernel
theorem dX6_starts_92 : decode cX6_starts 92 = .ok (.iload_n 2, 1) := by decide +kernel
theorem dX6_starts_93 : decode cX6_starts 93 = .ok (.iconst 2, 1) := by decide +kernel
theorem dX6_starts_94 : decode cX6_starts 94 = .ok (.if_icmp .eq 26, 3) := by decide +kernel
theorem dX6_starts_97 : decode cX6_starts 97 = .ok (.aload_n 0, 1) := by decide +kernel
theorem dX6_starts_98 : decode cX6_starts 98 = .ok (.iload_n 2, 1) := by decide +kernel
theorem dX6_starts_99 : decode cX6_starts 99 = .ok (.iconst 2, 1) := by decide +kernel
theorem dX6_starts_100 : decode cX6_starts 100 = .ok (.invokevirtual 59, 3) := by decide +kernel
theorem dX6_starts_103 : decode cX6_starts 103 = .ok (.ifCond .eq 17, 3) := by decide +kernel
theorem dX6_starts_106 : decode cX6_starts 106 = .ok (.aload_n 0, 1) := by decide +kernel
theorem dX6_starts_107 : decode cX6_starts 107 = .ok (.iload_n 2, 1) := by decide +kernel
theorem dX6_starts_108 : decode cX6_starts 108 = .ok (.iconst 4, 1) := by decide +kernel
theorem dX6_starts_109 : decode cX6_starts 109 = .ok (.aload_n 0, 1) := by decide +kernel
theorem dX6_starts_110 : decode cX6_starts 110 = .ok (.iload_n 2, 1) := by decide +kernel
theorem dX6_starts_111 : decode cX6_starts 111 = .ok (.iconst 4, 1) := by decide +kernel
theorem dX6_starts_112 : decode cX6_starts 112 = .ok (.invokevirtual 44, 3) := by decide +kernel
theorem dX6_starts_115 : decode cX6_starts 115 = .ok (.iconst 1, 1) := by decide +kernel
theorem dX6_starts_116 : decode cX6_starts 116 = .ok (.isub, 1) := by decide +kernel
theorem dX6_starts_117 : decode cX6_starts 117 = .ok (.invokevirtual 28, 3) := by decide +kernel
theorem dX6_starts_120 : decode cX6_starts 120 = .ok (.aload_n 0, 1) := by decide +kernel
theorem dX6_starts_121 : decode cX6_starts 121 = .ok (.getfield 7, 3) := by decide +kernel
theorem dX6_starts_124 : decode cX6_starts 124 = .ok (.iconst 3, 1) := by decide +kernel
theorem dX6_starts_125 : decode cX6_starts 125 = .ok (.iload_n 2, 1) := by decide +kernel
theorem dX6_starts_126 : decode cX6_starts 126 = .ok (.iastore, 1) := by decide +kernel
theorem dX6_starts_127 : decode cX6_starts 127 = .ok (.aload_n 0, 1) := by decide +kernel
theorem dX6_starts_128 : decode cX6_starts 128 = .ok (.getfield 7, 3) := by decide +kernel
theorem dX6_starts_131 : decode cX6_starts 131 = .ok (.iconst 4, 1) := by decide +kernel
theorem dX6_starts_132 : decode cX6_starts 132 = .ok (.iconst 0, 1) := by decide +kernel
theorem dX6_starts_133 : decode cX6_starts 133 = .ok (.iastore, 1) := by decide +kernel
theorem dX6_starts_134 : decode cX6_starts 134 = .ok (.aload_n 0, 1) := by decide +kernel
theorem dX6_starts_135 : decode cX6_starts 135 = .ok (.getfield 7, 3) := by decide +kernel
theorem dX6_starts_138 : decode cX6_starts 138 = .ok (.iconst 5, 1) := by decide +kernel
theorem dX6_starts_139 : decode cX6_starts 139 = .ok (.iconst 0, 1) := by decide +kernel
theorem dX6_starts_140 : decode cX6_starts 140 = .ok (.iastore, 1) := by decide +kernel
theorem dX6_starts_141 : decode cX6_starts 141 = .ok (.aload_n 0, 1) := by decide +kernel
theorem dX6_starts_142 : decode cX6_starts 142 = .ok (.getfield 7, 3) := by decide +kernel
theorem dX6_starts_145 : decode cX6_starts 145 = .ok (.bipush 7, 2) := by decide +kernel
theorem dX6_starts_147 : decode cX6_starts 147 = .ok (.dup2, 1) := by decide +kernel
theorem dX6_starts_148 : decode cX6_starts 148 = .ok (.iaload, 1) := by decide +kernel
theorem dX6_starts_149 : decode cX6_starts 149 = .ok (.iconst 1, 1) := by decide +kernel
theorem dX6_starts_150 : decode cX6_starts 150 = .ok (.iadd, 1) := by decide +kernel
theorem dX6_starts_151 : decode cX6_starts 151 = .ok (.iastore, 1) := by decide +kernel
theorem dX6_starts_152 : decode cX6_starts 152 = .ok (.aload_n 0, 1) := by decide +kernel
theorem dX6_starts_153 : decode cX6_starts 153 = .ok (.getfield 7, 3) := by decide +kernel
theorem dX6_starts_156 : decode cX6_starts 156 = .ok (.bipush 8, 2) := by decide +kernel
theorem dX6_starts_158 : decode cX6_starts 158 = .ok (.dup2, 1) := by decide +kernel
theorem dX6_starts_159 : decode cX6_starts 159 = .ok (.iaload, 1) := by decide +kernel
theorem dX6_starts_160 : decode cX6_starts 160 = .ok (.iload_n 1, 1) := by decide +kernel
theorem dX6_starts_161 : decode cX6_starts 161 = .ok (.iconst 1, 1) := by decide +kernel
theorem dX6_starts_162 : decode cX6_starts 162 = .ok (.if_icmp .ne 7, 3) := by decide +kernel
theorem dX6_starts_165 : decode cX6_starts 165 = .ok (.iconst 1, 1) := by decide +kernel
theorem dX6_starts_166 : decode cX6_starts 166 = .ok (.goto 4, 3) := by decide +kernel
theorem dX6_starts_169 : decode cX6_starts 169 = .ok (.iconst 0, 1) := by decide +kernel
theorem dX6_starts_170 : decode cX6_starts 170 = .ok (.iadd, 1) := by decide +kernel
theorem dX6_starts_171 : decode cX6_starts 171 = .ok (.iastore, 1) := by decide +kernel
theorem dX6_starts_172 : decode cX6_starts 172 = .ok (.aload_n 0, 1) := by decide +kernel
theorem dX6_starts_173 : decode cX6_starts 173 = .ok (.iload_n 1, 1) := by decide +kernel
theorem dX6_starts_174 : decode cX6_starts 174 = .ok (.invokevirtual 76, 3) := by decide +kernel
theorem dX6_starts_177 : decode cX6_starts 177 = .ok (.return_, 1) := by decide +kernel
theorem dX6_isOnTrial_0 : decode cX6_isOnTrial 0 = .ok (.aload_n 0, 1) := by decide +kernel
theorem dX6_isOnTrial_1 : decode cX6_isOnTrial 1 = .ok (.getfield 7, 3) := by decide +kernel
theorem dX6_isOnTrial_4 : decode cX6_isOnTrial 4 = .ok (.iconst 3, 1) := by decide +kernel
theorem dX6_isOnTrial_5 : decode cX6_isOnTrial 5 = .ok (.iaload, 1) := by decide +kernel
theorem dX6_isOnTrial_6 : decode cX6_isOnTrial 6 = .ok (.iconst 2, 1) := by decide +kernel
theorem dX6_isOnTrial_7 : decode cX6_isOnTrial 7 = .ok (.if_icmp .eq 21, 3) := by decide +kernel
theorem dX6_isOnTrial_10 : decode cX6_isOnTrial 10 = .ok (.aload_n 0, 1) := by decide +kernel
theorem dX6_isOnTrial_11 : decode cX6_isOnTrial 11 = .ok (.aload_n 0, 1) := by decide +kernel
theorem dX6_isOnTrial_12 : decode cX6_isOnTrial 12 = .ok (.getfield 7, 3) := by decide +kernel
theorem dX6_isOnTrial_15 : decode cX6_isOnTrial 15 = .ok (.iconst 3, 1) := by decide +kernel
theorem dX6_isOnTrial_16 : decode cX6_isOnTrial 16 = .ok (.iaload, 1) := by decide +kernel
theorem dX6_isOnTrial_17 : decode cX6_isOnTrial 17 = .ok (.iconst 2, 1) := by decide +kernel
theorem dX6_isOnTrial_18 : decode cX6_isOnTrial 18 = .ok (.invokevirtual 59, 3) := by decide +kernel
theorem dX6_isOnTrial_21 : decode cX6_isOnTrial 21 = .ok (.ifCond .eq 7, 3) := by decide +kernel
theorem dX6_isOnTrial_24 : decode cX6_isOnTrial 24 = .ok (.iconst 1, 1) := by decide +kernel
theorem dX6_isOnTrial_25 : decode cX6_isOnTrial 25 = .ok (.goto 4, 3) := by decide +kernel
theorem dX6_isOnTrial_28 : decode cX6_isOnTrial 28 = .ok (.iconst 0, 1) := by decide +kernel
theorem dX6_isOnTrial_29 : decode cX6_isOnTrial 29 = .ok (.ireturn, 1) := by decide +kernel
theorem dX6_tells_0 : decode cX6_tells 0 = .ok (.aload_n 0, 1) := by decide +kernel
theorem dX6_tells_1 : decode cX6_tells 1 = .ok (.aload_n 0, 1) := by decide +kernel
theorem dX6_tells_2 : decode cX6_tells 2 = .ok (.getfield 7, 3) := by decide +kernel
theorem dX6_tells_5 : decode cX6_tells 5 = .ok (.iconst 3, 1) := by decide +kernel
theorem dX6_tells_6 : decode cX6_tells 6 = .ok (.iaload, 1) := by decide +kernel
theorem dX6_tells_7 : decode cX6_tells 7 = .ok (.iload_n 1, 1) := by decide +kernel
theorem dX6_tells_8 : decode cX6_tells 8 = .ok (.invokevirtual 48, 3) := by decide +kernel
theorem dX6_tells_11 : decode cX6_tells 11 = .ok (.istore_n 2, 1) := by decide +kernel
theorem dX6_tells_12 : decode cX6_tells 12 = .ok (.iload_n 2, 1) := by decide +kernel
theorem dX6_tells_13 : decode cX6_tells 13 = .ok (.ifCond .le 17, 3) := by decide +kernel
theorem dX6_tells_16 : decode cX6_tells 16 = .ok (.iload_n 2, 1) := by decide +kernel
theorem dX6_tells_17 : decode cX6_tells 17 = .ok (.aload_n 0, 1) := by decide +kernel
theorem dX6_tells_18 : decode cX6_tells 18 = .ok (.getfield 7, 3) := by decide +kernel
theorem dX6_tells_21 : decode cX6_tells 21 = .ok (.iconst 4, 1) := by decide +kernel
theorem dX6_tells_22 : decode cX6_tells 22 = .ok (.iaload, 1) := by decide +kernel
theorem dX6_tells_23 : decode cX6_tells 23 = .ok (.if_icmp .ne 7, 3) := by decide +kernel
theorem dX6_tells_26 : decode cX6_tells 26 = .ok (.iconst 1, 1) := by decide +kernel
theorem dX6_tells_27 : decode cX6_tells 27 = .ok (.goto 4, 3) := by decide +kernel
theorem dX6_tells_30 : decode cX6_tells 30 = .ok (.iconst 0, 1) := by decide +kernel
theorem dX6_tells_31 : decode cX6_tells 31 = .ok (.ireturn, 1) := by decide +kernel
theorem dX6_tick_0 : decode cX6_tick 0 = .ok (.aload_n 0, 1) := by decide +kernel
theorem dX6_tick_1 : decode cX6_tick 1 = .ok (.getfield 7, 3) := by decide +kernel
theorem dX6_tick_4 : decode cX6_tick 4 = .ok (.bipush 9, 2) := by decide +kernel
theorem dX6_tick_6 : decode cX6_tick 6 = .ok (.dup2, 1) := by decide +kernel
theorem dX6_tick_7 : decode cX6_tick 7 = .ok (.iaload, 1) := by decide +kernel
theorem dX6_tick_8 : decode cX6_tick 8 = .ok (.iconst 1, 1) := by decide +kernel
theorem dX6_tick_9 : decode cX6_tick 9 = .ok (.iadd, 1) := by decide +kernel
theorem dX6_tick_10 : decode cX6_tick 10 = .ok (.iastore, 1) := by decide +kernel
theorem dX6_tick_11 : decode cX6_tick 11 = .ok (.aload_n 0, 1) := by decide +kernel
theorem dX6_tick_12 : decode cX6_tick 12 = .ok (.getfield 7, 3) := by decide +kernel
theorem dX6_tick_15 : decode cX6_tick 15 = .ok (.iconst 4, 1) := by decide +kernel
theorem dX6_tick_16 : decode cX6_tick 16 = .ok (.dup2, 1) := by decide +kernel
theorem dX6_tick_17 : decode cX6_tick 17 = .ok (.iaload, 1) := by decide +kernel
theorem dX6_tick_18 : decode cX6_tick 18 = .ok (.iconst 1, 1) := by decide +kernel
theorem dX6_tick_19 : decode cX6_tick 19 = .ok (.iadd, 1) := by decide +kernel
theorem dX6_tick_20 : decode cX6_tick 20 = .ok (.iastore, 1) := by decide +kernel
theorem dX6_tick_21 : decode cX6_tick 21 = .ok (.aload_n 0, 1) := by decide +kernel
theorem dX6_tick_22 : decode cX6_tick 22 = .ok (.getfield 7, 3) := by decide +kernel
theorem dX6_tick_25 : decode cX6_tick 25 = .ok (.iconst 5, 1) := by decide +kernel
theorem dX6_tick_26 : decode cX6_tick 26 = .ok (.iaload, 1) := by decide +kernel
theorem dX6_tick_27 : decode cX6_tick 27 = .ok (.ifCond .gt 11, 3) := by decide +kernel
theorem dX6_tick_30 : decode cX6_tick 30 = .ok (.aload_n 0, 1) := by decide +kernel
theorem dX6_tick_31 : decode cX6_tick 31 = .ok (.iconst 0, 1) := by decide +kernel
theorem dX6_tick_32 : decode cX6_tick 32 = .ok (.invokevirtual 80, 3) := by decide +kernel
theorem dX6_tick_35 : decode cX6_tick 35 = .ok (.ifCond .eq 13, 3) := by decide +kernel
theorem dX6_tick_38 : decode cX6_tick 38 = .ok (.aload_n 0, 1) := by decide +kernel
theorem dX6_tick_39 : decode cX6_tick 39 = .ok (.getfield 7, 3) := by decide +kernel
theorem dX6_tick_42 : decode cX6_tick 42 = .ok (.iconst 5, 1) := by decide +kernel
theorem dX6_tick_43 : decode cX6_tick 43 = .ok (.dup2, 1) := by decide +kernel
theorem dX6_tick_44 : decode cX6_tick 44 = .ok (.iaload, 1) := by decide +kernel
theorem dX6_tick_45 : decode cX6_tick 45 = .ok (.iconst 1, 1) := by decide +kernel
theorem dX6_tick_46 : decode cX6_tick 46 = .ok (.iadd, 1) := by decide +kernel
theorem dX6_tick_47 : decode cX6_tick 47 = .ok (.iastore, 1) := by decide +kernel
theorem dX6_tick_48 : decode cX6_tick 48 = .ok (.aload_n 0, 1) := by decide +kernel
theorem dX6_tick_49 : decode cX6_tick 49 = .ok (.getfield 7, 3) := by decide +kernel
theorem dX6_tick_52 : decode cX6_tick 52 = .ok (.iconst 5, 1) := by decide +kernel
theorem dX6_tick_53 : decode cX6_tick 53 = .ok (.iaload, 1) := by decide +kernel
theorem dX6_tick_54 : decode cX6_tick 54 = .ok (.ifCond .ne 71, 3) := by decide +kernel
theorem dX6_tick_57 : decode cX6_tick 57 = .ok (.aload_n 0, 1) := by decide +kernel
theorem dX6_tick_58 : decode cX6_tick 58 = .ok (.iconst 1, 1) := by decide +kernel
theorem dX6_tick_59 : decode cX6_tick 59 = .ok (.invokevirtual 80, 3) := by decide +kernel
theorem dX6_tick_62 : decode cX6_tick 62 = .ok (.ifCond .eq 63, 3) := by decide +kernel
theorem dX6_tick_65 : decode cX6_tick 65 = .ok (.aload_n 0, 1) := by decide +kernel
theorem dX6_tick_66 : decode cX6_tick 66 = .ok (.invokevirtual 83, 3) := by decide +kernel
theorem dX6_tick_69 : decode cX6_tick 69 = .ok (.ifCond .eq 56, 3) := by decide +kernel
theorem dX6_tick_72 : decode cX6_tick 72 = .ok (.aload_n 0, 1) := by decide +kernel
theorem dX6_tick_73 : decode cX6_tick 73 = .ok (.getfield 7, 3) := by decide +kernel
theorem dX6_tick_76 : decode cX6_tick 76 = .ok (.iconst 3, 1) := by decide +kernel
theorem dX6_tick_77 : decode cX6_tick 77 = .ok (.iaload, 1) := by decide +kernel
theorem dX6_tick_78 : decode cX6_tick 78 = .ok (.istore_n 1, 1) := by decide +kernel
theorem dX6_tick_79 : decode cX6_tick 79 = .ok (.aload_n 0, 1) := by decide +kernel
theorem dX6_tick_80 : decode cX6_tick 80 = .ok (.iload_n 1, 1) := by decide +kernel
theorem dX6_tick_81 : decode cX6_tick 81 = .ok (.iconst 0, 1) := by decide +kernel
theorem dX6_tick_82 : decode cX6_tick 82 = .ok (.iconst 3, 1) := by decide +kernel
theorem dX6_tick_83 : decode cX6_tick 83 = .ok (.invokevirtual 28, 3) := by decide +kernel
theorem dX6_tick_86 : decode cX6_tick 86 = .ok (.aload_n 0, 1) := by decide +kernel
theorem dX6_tick_87 : decode cX6_tick 87 = .ok (.getfield 7, 3) := by decide +kernel
theorem dX6_tick_90 : decode cX6_tick 90 = .ok (.bipush 6, 2) := by decide +kernel
theorem dX6_tick_92 : decode cX6_tick 92 = .ok (.aload_n 0, 1) := by decide +kernel
theorem dX6_tick_93 : decode cX6_tick 93 = .ok (.iload_n 1, 1) := by decide +kernel
theorem dX6_tick_94 : decode cX6_tick 94 = .ok (.iconst 1, 1) := by decide +kernel
theorem dX6_tick_95 : decode cX6_tick 95 = .ok (.invokevirtual 44, 3) := by decide +kernel
theorem dX6_tick_98 : decode cX6_tick 98 = .ok (.aload_n 0, 1) := by decide +kernel
theorem dX6_tick_99 : decode cX6_tick 99 = .ok (.getfield 7, 3) := by decide +kernel
theorem dX6_tick_102 : decode cX6_tick 102 = .ok (.bipush 6, 2) := by decide +kernel
theorem dX6_tick_104 : decode cX6_tick 104 = .ok (.iaload, 1) := by decide +kernel
theorem dX6_tick_105 : decode cX6_tick 105 = .ok (.if_icmp .le 12, 3) := by decide +kernel
theorem dX6_tick_108 : decode cX6_tick 108 = .ok (.aload_n 0, 1) := by decide +kernel
theorem dX6_tick_109 : decode cX6_tick 109 = .ok (.iload_n 1, 1) := by decide +kernel
theorem dX6_tick_110 : decode cX6_tick 110 = .ok (.iconst 1, 1) := by decide +kernel
theorem dX6_tick_111 : decode cX6_tick 111 = .ok (.invokevirtual 44, 3) := by decide +kernel
theorem dX6_tick_114 : decode cX6_tick 114 = .ok (.goto 10, 3) := by decide +kernel
theorem dX6_tick_117 : decode cX6_tick 117 = .ok (.aload_n 0, 1) := by decide +kernel
theorem dX6_tick_118 : decode cX6_tick 118 = .ok (.getfield 7, 3) := by decide +kernel
theorem dX6_tick_121 : decode cX6_tick 121 = .ok (.bipush 6, 2) := by decide +kernel
theorem dX6_tick_123 : decode cX6_tick 123 = .ok (.iaload, 1) := by decide +kernel
theorem dX6_tick_124 : decode cX6_tick 124 = .ok (.iastore, 1) := by decide +kernel
theorem dX6_tick_125 : decode cX6_tick 125 = .ok (.aload_n 0, 1) := by decide +kernel
theorem dX6_tick_126 : decode cX6_tick 126 = .ok (.getfield 7, 3) := by decide +kernel
theorem dX6_tick_129 : decode cX6_tick 129 = .ok (.iconst 5, 1) := by decide +kernel
theorem dX6_tick_130 : decode cX6_tick 130 = .ok (.iaload, 1) := by decide +kernel
theorem dX6_tick_131 : decode cX6_tick 131 = .ok (.aload_n 0, 1) := by decide +kernel
theorem dX6_tick_132 : decode cX6_tick 132 = .ok (.getfield 7, 3) := by decide +kernel
theorem dX6_tick_135 : decode cX6_tick 135 = .ok (.iconst 1, 1) := by decide +kernel
theorem dX6_tick_136 : decode cX6_tick 136 = .ok (.iaload, 1) := by decide +kernel
theorem dX6_tick_137 : decode cX6_tick 137 = .ok (.if_icmp .ge 28, 3) := by decide +kernel
theorem dX6_tick_140 : decode cX6_tick 140 = .ok (.aload_n 0, 1) := by decide +kernel
theorem dX6_tick_141 : decode cX6_tick 141 = .ok (.invokevirtual 83, 3) := by decide +kernel
theorem dX6_tick_144 : decode cX6_tick 144 = .ok (.ifCond .eq 25, 3) := by decide +kernel
theorem dX6_tick_147 : decode cX6_tick 147 = .ok (.aload_n 0, 1) := by decide +kernel
theorem dX6_tick_148 : decode cX6_tick 148 = .ok (.getfield 7, 3) := by decide +kernel
theorem dX6_tick_151 : decode cX6_tick 151 = .ok (.iconst 4, 1) := by decide +kernel
theorem dX6_tick_152 : decode cX6_tick 152 = .ok (.iaload, 1) := by decide +kernel
theorem dX6_tick_153 : decode cX6_tick 153 = .ok (.bipush 10, 2) := by decide +kernel
theorem dX6_tick_155 : decode cX6_tick 155 = .ok (.aload_n 0, 1) := by decide +kernel
theorem dX6_tick_156 : decode cX6_tick 156 = .ok (.getfield 7, 3) := by decide +kernel
theorem dX6_tick_159 : decode cX6_tick 159 = .ok (.iconst 1, 1) := by decide +kernel
theorem dX6_tick_160 : decode cX6_tick 160 = .ok (.iaload, 1) := by decide +kernel
theorem dX6_tick_161 : decode cX6_tick 161 = .ok (.imul, 1) := by decide +kernel
theorem dX6_tick_162 : decode cX6_tick 162 = .ok (.if_icmp .lt 7, 3) := by decide +kernel
theorem dX6_tick_165 : decode cX6_tick 165 = .ok (.iconst 1, 1) := by decide +kernel
theorem dX6_tick_166 : decode cX6_tick 166 = .ok (.goto 4, 3) := by decide +kernel
theorem dX6_tick_169 : decode cX6_tick 169 = .ok (.iconst 0, 1) := by decide +kernel
theorem dX6_tick_170 : decode cX6_tick 170 = .ok (.istore_n 1, 1) := by decide +kernel
theorem dX6_tick_171 : decode cX6_tick 171 = .ok (.iload_n 1, 1) := by decide +kernel
theorem dX6_tick_172 : decode cX6_tick 172 = .ok (.ifCond .eq 8, 3) := by decide +kernel
theorem dX6_tick_175 : decode cX6_tick 175 = .ok (.aload_n 0, 1) := by decide +kernel
theorem dX6_tick_176 : decode cX6_tick 176 = .ok (.iconst 1, 1) := by decide +kernel
theorem dX6_tick_177 : decode cX6_tick 177 = .ok (.invokevirtual 87, 3) := by decide +kernel
theorem dX6_tick_180 : decode cX6_tick 180 = .ok (.iload_n 1, 1) := by decide +kernel
theorem dX6_tick_181 : decode cX6_tick 181 = .ok (.ireturn, 1) := by decide +kernel
theorem dX6_passes_0 : decode cX6_passes 0 = .ok (.iconst 0, 1) := by decide +kernel
theorem dX6_passes_1 : decode cX6_passes 1 = .ok (.istore_n 2, 1) := by decide +kernel
theorem dX6_passes_2 : decode cX6_passes 2 = .ok (.iconst 0, 1) := by decide +kernel
theorem dX6_passes_3 : decode cX6_passes 3 = .ok (.istore_n 3, 1) := by decide +kernel
theorem dX6_passes_4 : decode cX6_passes 4 = .ok (.iload_n 3, 1) := by decide +kernel
theorem dX6_passes_5 : decode cX6_passes 5 = .ok (.iload_n 1, 1) := by decide +kernel
theorem dX6_passes_6 : decode cX6_passes 6 = .ok (.if_icmp .ge 24, 3) := by decide +kernel
theorem dX6_passes_9 : decode cX6_passes 9 = .ok (.iload_n 2, 1) := by decide +kernel
theorem dX6_passes_10 : decode cX6_passes 10 = .ok (.aload_n 0, 1) := by decide +kernel
theorem dX6_passes_11 : decode cX6_passes 11 = .ok (.invokevirtual 90, 3) := by decide +kernel
theorem dX6_passes_14 : decode cX6_passes 14 = .ok (.ifCond .eq 7, 3) := by decide +kernel
theorem dX6_passes_17 : decode cX6_passes 17 = .ok (.iconst 1, 1) := by decide +kernel
theorem dX6_passes_18 : decode cX6_passes 18 = .ok (.goto 4, 3) := by decide +kernel
theorem dX6_passes_21 : decode cX6_passes 21 = .ok (.iconst 0, 1) := by decide +kernel
theorem dX6_passes_22 : decode cX6_passes 22 = .ok (.iadd, 1) := by decide +kernel
theorem dX6_passes_23 : decode cX6_passes 23 = .ok (.istore_n 2, 1) := by decide +kernel
theorem dX6_passes_24 : decode cX6_passes 24 = .ok (.iinc 3 1, 3) := by decide +kernel
theorem dX6_passes_27 : decode cX6_passes 27 = .ok (.goto (-23), 3) := by decide +kernel
theorem dX6_passes_30 : decode cX6_passes 30 = .ok (.iload_n 2, 1) := by decide +kernel
theorem dX6_passes_31 : decode cX6_passes 31 = .ok (.ireturn, 1) := by decide +kernel
theorem dX6_isValue_0 : decode cX6_isValue 0 = .ok (.iload_n 0, 1) := by decide +kernel
theorem dX6_isValue_1 : decode cX6_isValue 1 = .ok (.ifCond .ne 13, 3) := by decide +kernel
theorem dX6_isValue_4 : decode cX6_isValue 4 = .ok (.iload_n 1, 1) := by decide +kernel
theorem dX6_isValue_5 : decode cX6_isValue 5 = .ok (.iconst 1, 1) := by decide +kernel
theorem dX6_isValue_6 : decode cX6_isValue 6 = .ok (.bipush 9, 2) := by decide +kernel
theorem dX6_isValue_8 : decode cX6_isValue 8 = .ok (.invokestatic 40, 3) := by decide +kernel
theorem dX6_isValue_11 : decode cX6_isValue 11 = .ok (.goto 38, 3) := by decide +kernel
theorem dX6_isValue_14 : decode cX6_isValue 14 = .ok (.iload_n 0, 1) := by decide +kernel
theorem dX6_isValue_15 : decode cX6_isValue 15 = .ok (.iconst 1, 1) := by decide +kernel
theorem dX6_isValue_16 : decode cX6_isValue 16 = .ok (.if_icmp .ne 13, 3) := by decide +kernel
theorem dX6_isValue_19 : decode cX6_isValue 19 = .ok (.iload_n 1, 1) := by decide +kernel
theorem dX6_isValue_20 : decode cX6_isValue 20 = .ok (.iconst 1, 1) := by decide +kernel
theorem dX6_isValue_21 : decode cX6_isValue 21 = .ok (.bipush 99, 2) := by decide +kernel
theorem dX6_isValue_23 : decode cX6_isValue 23 = .ok (.invokestatic 40, 3) := by decide +kernel
theorem dX6_isValue_26 : decode cX6_isValue 26 = .ok (.goto 23, 3) := by decide +kernel
theorem dX6_isValue_29 : decode cX6_isValue 29 = .ok (.iload_n 0, 1) := by decide +kernel
theorem dX6_isValue_30 : decode cX6_isValue 30 = .ok (.iconst 2, 1) := by decide +kernel
theorem dX6_isValue_31 : decode cX6_isValue 31 = .ok (.if_icmp .ne 17, 3) := by decide +kernel
theorem dX6_isValue_34 : decode cX6_isValue 34 = .ok (.iload_n 1, 1) := by decide +kernel
theorem dX6_isValue_35 : decode cX6_isValue 35 = .ok (.iconst 1, 1) := by decide +kernel
theorem dX6_isValue_36 : decode cX6_isValue 36 = .ok (.bipush 60, 2) := by decide +kernel
theorem dX6_isValue_38 : decode cX6_isValue 38 = .ok (.invokestatic 40, 3) := by decide +kernel
theorem dX6_isValue_41 : decode cX6_isValue 41 = .ok (.ifCond .eq 7, 3) := by decide +kernel
theorem dX6_isValue_44 : decode cX6_isValue 44 = .ok (.iconst 1, 1) := by decide +kernel
theorem dX6_isValue_45 : decode cX6_isValue 45 = .ok (.goto 4, 3) := by decide +kernel
theorem dX6_isValue_48 : decode cX6_isValue 48 = .ok (.iconst 0, 1) := by decide +kernel
theorem dX6_isValue_49 : decode cX6_isValue 49 = .ok (.ireturn, 1) := by decide +kernel
theorem dX6_set_0 : decode cX6_set 0 = .ok (.iload_n 1, 1) := by decide +kernel
theorem dX6_set_1 : decode cX6_set 1 = .ok (.iload_n 2, 1) := by decide +kernel
theorem dX6_set_2 : decode cX6_set 2 = .ok (.invokestatic 93, 3) := by decide +kernel
theorem dX6_set_5 : decode cX6_set 5 = .ok (.ifCond .ne 6, 3) := by decide +kernel
theorem dX6_set_8 : decode cX6_set 8 = .ok (.bipush (-2), 2) := by decide +kernel
theorem dX6_set_10 : decode cX6_set 10 = .ok (.ireturn, 1) := by decide +kernel
theorem dX6_set_11 : decode cX6_set 11 = .ok (.aload_n 0, 1) := by decide +kernel
theorem dX6_set_12 : decode cX6_set 12 = .ok (.invokevirtual 96, 3) := by decide +kernel
theorem dX6_set_15 : decode cX6_set 15 = .ok (.aload_n 0, 1) := by decide +kernel
theorem dX6_set_16 : decode cX6_set 16 = .ok (.getfield 7, 3) := by decide +kernel
theorem dX6_set_19 : decode cX6_set 19 = .ok (.iload_n 1, 1) := by decide +kernel
theorem dX6_set_20 : decode cX6_set 20 = .ok (.iaload, 1) := by decide +kernel
theorem dX6_set_21 : decode cX6_set 21 = .ok (.istore_n 3, 1) := by decide +kernel
theorem dX6_set_22 : decode cX6_set 22 = .ok (.aload_n 0, 1) := by decide +kernel
theorem dX6_set_23 : decode cX6_set 23 = .ok (.getfield 7, 3) := by decide +kernel
theorem dX6_set_26 : decode cX6_set 26 = .ok (.iload_n 1, 1) := by decide +kernel
theorem dX6_set_27 : decode cX6_set 27 = .ok (.iload_n 2, 1) := by decide +kernel
theorem dX6_set_28 : decode cX6_set 28 = .ok (.iastore, 1) := by decide +kernel
theorem dX6_set_29 : decode cX6_set 29 = .ok (.iload_n 3, 1) := by decide +kernel
theorem dX6_set_30 : decode cX6_set 30 = .ok (.ireturn, 1) := by decide +kernel
theorem dX6_begin_0 : decode cX6_begin 0 = .ok (.iload_n 1, 1) := by decide +kernel
theorem dX6_begin_1 : decode cX6_begin 1 = .ok (.invokestatic 99, 3) := by decide +kernel
theorem dX6_begin_4 : decode cX6_begin 4 = .ok (.ifCond .ne 5, 3) := by decide +kernel
theorem dX6_begin_7 : decode cX6_begin 7 = .ok (.iconst (-1), 1) := by decide +kernel
theorem dX6_begin_8 : decode cX6_begin 8 = .ok (.ireturn, 1) := by decide +kernel
theorem dX6_begin_9 : decode cX6_begin 9 = .ok (.iload_n 2, 1) := by decide +kernel
theorem dX6_begin_10 : decode cX6_begin 10 = .ok (.iconst 0, 1) := by decide +kernel
theorem dX6_begin_11 : decode cX6_begin 11 = .ok (.bipush 99, 2) := by decide +kernel
theorem dX6_begin_13 : decode cX6_begin 13 = .ok (.invokestatic 40, 3) := by decide +kernel
theorem dX6_begin_16 : decode cX6_begin 16 = .ok (.ifCond .eq 25, 3) := by decide +kernel
theorem dX6_begin_19 : decode cX6_begin 19 = .ok (.iload_n 3, 1) := by decide +kernel
theorem dX6_begin_20 : decode cX6_begin 20 = .ok (.iconst 2, 1) := by decide +kernel
theorem dX6_begin_21 : decode cX6_begin 21 = .ok (.bipush 32, 2) := by decide +kernel
theorem dX6_begin_23 : decode cX6_begin 23 = .ok (.invokestatic 40, 3) := by decide +kernel
theorem dX6_begin_26 : decode cX6_begin 26 = .ok (.ifCond .eq 15, 3) := by decide +kernel
theorem dX6_begin_29 : decode cX6_begin 29 = .ok (.iload 4, 2) := by decide +kernel
theorem dX6_begin_31 : decode cX6_begin 31 = .ok (.iconst 0, 1) := by decide +kernel
theorem dX6_begin_32 : decode cX6_begin 32 = .ok (.sipush 250, 3) := by decide +kernel
theorem dX6_begin_35 : decode cX6_begin 35 = .ok (.invokestatic 40, 3) := by decide +kernel
theorem dX6_begin_38 : decode cX6_begin 38 = .ok (.ifCond .ne 6, 3) := by decide +kernel
theorem dX6_begin_41 : decode cX6_begin 41 = .ok (.bipush (-2), 2) := by decide +kernel
theorem dX6_begin_43 : decode cX6_begin 43 = .ok (.ireturn, 1) := by decide +kernel
theorem dX6_begin_44 : decode cX6_begin 44 = .ok (.aload_n 0, 1) := by decide +kernel
theorem dX6_begin_45 : decode cX6_begin 45 = .ok (.getfield 7, 3) := by decide +kernel
theorem dX6_begin_48 : decode cX6_begin 48 = .ok (.iconst 3, 1) := by decide +kernel
theorem dX6_begin_49 : decode cX6_begin 49 = .ok (.iaload, 1) := by decide +kernel
theorem dX6_begin_50 : decode cX6_begin 50 = .ok (.iload_n 1, 1) := by decide +kernel
theorem dX6_begin_51 : decode cX6_begin 51 = .ok (.if_icmp .eq 26, 3) := by decide +kernel
theorem dX6_begin_54 : decode cX6_begin 54 = .ok (.iload_n 2, 1) := by decide +kernel
theorem dX6_begin_55 : decode cX6_begin 55 = .ok (.aload_n 0, 1) := by decide +kernel
theorem dX6_begin_56 : decode cX6_begin 56 = .ok (.getfield 7, 3) := by decide +kernel
theorem dX6_begin_59 : decode cX6_begin 59 = .ok (.bipush 6, 2) := by decide +kernel
theorem dX6_begin_61 : decode cX6_begin 61 = .ok (.iaload, 1) := by decide +kernel
theorem dX6_begin_62 : decode cX6_begin 62 = .ok (.if_icmp .lt 15, 3) := by decide +kernel
theorem dX6_begin_65 : decode cX6_begin 65 = .ok (.aload_n 0, 1) := by decide +kernel
theorem dX6_begin_66 : decode cX6_begin 66 = .ok (.iload_n 1, 1) := by decide +kernel
theorem dX6_begin_67 : decode cX6_begin 67 = .ok (.iload_n 3, 1) := by decide +kernel
theorem dX6_begin_68 : decode cX6_begin 68 = .ok (.invokestatic 102, 3) := by decide +kernel
theorem dX6_begin_71 : decode cX6_begin 71 = .ok (.invokevirtual 105, 3) := by decide +kernel
theorem dX6_begin_74 : decode cX6_begin 74 = .ok (.ifCond .eq 6, 3) := by decide +kernel
theorem dX6_begin_77 : decode cX6_begin 77 = .ok (.bipush (-5), 2) := by decide +kernel
theorem dX6_begin_79 : decode cX6_begin 79 = .ok (.ireturn, 1) := by decide +kernel
theorem dX6_begin_80 : decode cX6_begin 80 = .ok (.aload_n 0, 1) := by decide +kernel
theorem dX6_begin_81 : decode cX6_begin 81 = .ok (.invokevirtual 96, 3) := by decide +kernel
theorem dX6_begin_84 : decode cX6_begin 84 = .ok (.iconst 0, 1) := by decide +kernel
theorem dX6_begin_85 : decode cX6_begin 85 = .ok (.istore 5, 2) := by decide +kernel
theorem dX6_begin_87 : decode cX6_begin 87 = .ok (.iload 5, 2) := by decide +kernel
theorem dX6_begin_89 : decode cX6_begin 89 = .ok (.iload_n 3, 1) := by decide +kernel
theorem dX6_begin_90 : decode cX6_begin 90 = .ok (.invokestatic 102, 3) := by decide +kernel
theorem dX6_begin_93 : decode cX6_begin 93 = .ok (.if_icmp .ge 16, 3) := by decide +kernel
theorem dX6_begin_96 : decode cX6_begin 96 = .ok (.aload_n 0, 1) := by decide +kernel
theorem dX6_begin_97 : decode cX6_begin 97 = .ok (.iload_n 1, 1) := by decide +kernel
theorem dX6_begin_98 : decode cX6_begin 98 = .ok (.iload 5, 2) := by decide +kernel
theorem dX6_begin_100 : decode cX6_begin 100 = .ok (.invokevirtual 108, 3) := by decide +kernel
theorem dX6_begin_103 : decode cX6_begin 103 = .ok (.iinc 5 1, 3) := by decide +kernel
theorem dX6_begin_106 : decode cX6_begin 106 = .ok (.goto (-19), 3) := by decide +kernel
theorem dX6_begin_109 : decode cX6_begin 109 = .ok (.aload_n 0, 1) := by decide +kernel
theorem dX6_begin_110 : decode cX6_begin 110 = .ok (.iload_n 1, 1) := by decide +kernel
theorem dX6_begin_111 : decode cX6_begin 111 = .ok (.iconst 0, 1) := by decide +kernel
theorem dX6_begin_112 : decode cX6_begin 112 = .ok (.iconst 1, 1) := by decide +kernel
theorem dX6_begin_113 : decode cX6_begin 113 = .ok (.invokevirtual 28, 3) := by decide +kernel
theorem dX6_begin_116 : decode cX6_begin 116 = .ok (.aload_n 0, 1) := by decide +kernel
theorem dX6_begin_117 : decode cX6_begin 117 = .ok (.iload_n 1, 1) := by decide +kernel
theorem dX6_begin_118 : decode cX6_begin 118 = .ok (.iconst 1, 1) := by decide +kernel
theorem dX6_begin_119 : decode cX6_begin 119 = .ok (.iload_n 2, 1) := by decide +kernel
theorem dX6_begin_120 : decode cX6_begin 120 = .ok (.invokevirtual 28, 3) := by decide +kernel
theorem dX6_begin_123 : decode cX6_begin 123 = .ok (.aload_n 0, 1) := by decide +kernel
theorem dX6_begin_124 : decode cX6_begin 124 = .ok (.iload_n 1, 1) := by decide +kernel
theorem dX6_begin_125 : decode cX6_begin 125 = .ok (.iconst 2, 1) := by decide +kernel
theorem dX6_begin_126 : decode cX6_begin 126 = .ok (.iload_n 3, 1) := by decide +kernel
theorem dX6_begin_127 : decode cX6_begin 127 = .ok (.invokevirtual 28, 3) := by decide +kernel
theorem dX6_begin_130 : decode cX6_begin 130 = .ok (.aload_n 0, 1) := by decide +kernel
theorem dX6_begin_131 : decode cX6_begin 131 = .ok (.iload_n 1, 1) := by decide +kernel
theorem dX6_begin_132 : decode cX6_begin 132 = .ok (.iconst 3, 1) := by decide +kernel
theorem dX6_begin_133 : decode cX6_begin 133 = .ok (.iload 4, 2) := by decide +kernel
theorem dX6_begin_135 : decode cX6_begin 135 = .ok (.invokevirtual 28, 3) := by decide +kernel
theorem dX6_begin_138 : decode cX6_begin 138 = .ok (.aload_n 0, 1) := by decide +kernel
theorem dX6_begin_139 : decode cX6_begin 139 = .ok (.iload_n 1, 1) := by decide +kernel
theorem dX6_begin_140 : decode cX6_begin 140 = .ok (.iconst 4, 1) := by decide +kernel
theorem dX6_begin_141 : decode cX6_begin 141 = .ok (.iconst 0, 1) := by decide +kernel
theorem dX6_begin_142 : decode cX6_begin 142 = .ok (.invokevirtual 28, 3) := by decide +kernel
theorem dX6_begin_145 : decode cX6_begin 145 = .ok (.aload_n 0, 1) := by decide +kernel
theorem dX6_begin_146 : decode cX6_begin 146 = .ok (.iload_n 1, 1) := by decide +kernel
theorem dX6_begin_147 : decode cX6_begin 147 = .ok (.iconst 5, 1) := by decide +kernel
theorem dX6_begin_148 : decode cX6_begin 148 = .ok (.iconst 0, 1) := by decide +kernel
theorem dX6_begin_149 : decode cX6_begin 149 = .ok (.invokevirtual 28, 3) := by decide +kernel
theorem dX6_begin_152 : decode cX6_begin 152 = .ok (.aload_n 0, 1) := by decide +kernel
theorem dX6_begin_153 : decode cX6_begin 153 = .ok (.iload_n 1, 1) := by decide +kernel
theorem dX6_begin_154 : decode cX6_begin 154 = .ok (.iload_n 3, 1) := by decide +kernel
theorem dX6_begin_155 : decode cX6_begin 155 = .ok (.invokestatic 102, 3) := by decide +kernel
theorem dX6_begin_158 : decode cX6_begin 158 = .ok (.invokevirtual 112, 3) := by decide +kernel
theorem dX6_begin_161 : decode cX6_begin 161 = .ok (.ireturn, 1) := by decide +kernel
theorem dX6_lacks_0 : decode cX6_lacks 0 = .ok (.aload_n 0, 1) := by decide +kernel
theorem dX6_lacks_1 : decode cX6_lacks 1 = .ok (.iload_n 1, 1) := by decide +kernel
theorem dX6_lacks_2 : decode cX6_lacks 2 = .ok (.iconst 2, 1) := by decide +kernel
theorem dX6_lacks_3 : decode cX6_lacks 3 = .ok (.invokevirtual 44, 3) := by decide +kernel
theorem dX6_lacks_6 : decode cX6_lacks 6 = .ok (.aload_n 0, 1) := by decide +kernel
theorem dX6_lacks_7 : decode cX6_lacks 7 = .ok (.iload_n 1, 1) := by decide +kernel
theorem dX6_lacks_8 : decode cX6_lacks 8 = .ok (.iconst 5, 1) := by decide +kernel
theorem dX6_lacks_9 : decode cX6_lacks 9 = .ok (.invokevirtual 44, 3) := by decide +kernel
theorem dX6_lacks_12 : decode cX6_lacks 12 = .ok (.isub, 1) := by decide +kernel
theorem dX6_lacks_13 : decode cX6_lacks 13 = .ok (.ireturn, 1) := by decide +kernel
theorem dX6_fills_0 : decode cX6_fills 0 = .ok (.aload_n 0, 1) := by decide +kernel
theorem dX6_fills_1 : decode cX6_fills 1 = .ok (.iload_n 1, 1) := by decide +kernel
theorem dX6_fills_2 : decode cX6_fills 2 = .ok (.bipush 14, 2) := by decide +kernel
theorem dX6_fills_4 : decode cX6_fills 4 = .ok (.aload_n 0, 1) := by decide +kernel
theorem dX6_fills_5 : decode cX6_fills 5 = .ok (.iload_n 1, 1) := by decide +kernel
theorem dX6_fills_6 : decode cX6_fills 6 = .ok (.iconst 5, 1) := by decide +kernel
theorem dX6_fills_7 : decode cX6_fills 7 = .ok (.invokevirtual 44, 3) := by decide +kernel
theorem dX6_fills_10 : decode cX6_fills 10 = .ok (.iadd, 1) := by decide +kernel
theorem dX6_fills_11 : decode cX6_fills 11 = .ok (.iload_n 2, 1) := by decide +kernel
theorem dX6_fills_12 : decode cX6_fills 12 = .ok (.invokevirtual 28, 3) := by decide +kernel
theorem dX6_fills_15 : decode cX6_fills 15 = .ok (.aload_n 0, 1) := by decide +kernel
theorem dX6_fills_16 : decode cX6_fills 16 = .ok (.iload_n 1, 1) := by decide +kernel
theorem dX6_fills_17 : decode cX6_fills 17 = .ok (.iconst 5, 1) := by decide +kernel
theorem dX6_fills_18 : decode cX6_fills 18 = .ok (.aload_n 0, 1) := by decide +kernel
theorem dX6_fills_19 : decode cX6_fills 19 = .ok (.iload_n 1, 1) := by decide +kernel
theorem dX6_fills_20 : decode cX6_fills 20 = .ok (.iconst 5, 1) := by decide +kernel
theorem dX6_fills_21 : decode cX6_fills 21 = .ok (.invokevirtual 44, 3) := by decide +kernel
theorem dX6_fills_24 : decode cX6_fills 24 = .ok (.iconst 1, 1) := by decide +kernel
theorem dX6_fills_25 : decode cX6_fills 25 = .ok (.iadd, 1) := by decide +kernel
theorem dX6_fills_26 : decode cX6_fills 26 = .ok (.invokevirtual 28, 3) := by decide +kernel
theorem dX6_fills_29 : decode cX6_fills 29 = .ok (.return_, 1) := by decide +kernel
theorem dX6_fill_0 : decode cX6_fill 0 = .ok (.iload_n 1, 1) := by decide +kernel
theorem dX6_fill_1 : decode cX6_fill 1 = .ok (.invokestatic 99, 3) := by decide +kernel
theorem dX6_fill_4 : decode cX6_fill 4 = .ok (.ifCond .ne 5, 3) := by decide +kernel
theorem dX6_fill_7 : decode cX6_fill 7 = .ok (.iconst (-1), 1) := by decide +kernel
theorem dX6_fill_8 : decode cX6_fill 8 = .ok (.ireturn, 1) := by decide +kernel
theorem dX6_fill_9 : decode cX6_fill 9 = .ok (.iload_n 2, 1) := by decide +kernel
theorem dX6_fill_10 : decode cX6_fill 10 = .ok (.iconst 0, 1) := by decide +kernel
theorem dX6_fill_11 : decode cX6_fill 11 = .ok (.sipush 255, 3) := by decide +kernel
theorem dX6_fill_14 : decode cX6_fill 14 = .ok (.invokestatic 40, 3) := by decide +kernel
theorem dX6_fill_17 : decode cX6_fill 17 = .ok (.ifCond .ne 6, 3) := by decide +kernel
theorem dX6_fill_20 : decode cX6_fill 20 = .ok (.bipush (-2), 2) := by decide +kernel
theorem dX6_fill_22 : decode cX6_fill 22 = .ok (.ireturn, 1) := by decide +kernel
theorem dX6_fill_23 : decode cX6_fill 23 = .ok (.aload_n 0, 1) := by decide +kernel
theorem dX6_fill_24 : decode cX6_fill 24 = .ok (.iload_n 1, 1) := by decide +kernel
theorem dX6_fill_25 : decode cX6_fill 25 = .ok (.iconst 1, 1) := by decide +kernel
theorem dX6_fill_26 : decode cX6_fill 26 = .ok (.invokevirtual 59, 3) := by decide +kernel
theorem dX6_fill_29 : decode cX6_fill 29 = .ok (.ifCond .eq 11, 3) := by decide +kernel
theorem dX6_fill_32 : decode cX6_fill 32 = .ok (.aload_n 0, 1) := by decide +kernel
theorem dX6_fill_33 : decode cX6_fill 33 = .ok (.iload_n 1, 1) := by decide +kernel
theorem dX6_fill_34 : decode cX6_fill 34 = .ok (.invokevirtual 115, 3) := by decide +kernel
theorem dX6_fill_37 : decode cX6_fill 37 = .ok (.ifCond .ne 6, 3) := by decide +kernel
theorem dX6_fill_40 : decode cX6_fill 40 = .ok (.bipush (-5), 2) := by decide +kernel
theorem dX6_fill_42 : decode cX6_fill 42 = .ok (.ireturn, 1) := by decide +kernel
theorem dX6_fill_43 : decode cX6_fill 43 = .ok (.aload_n 0, 1) := by decide +kernel
theorem dX6_fill_44 : decode cX6_fill 44 = .ok (.invokevirtual 96, 3) := by decide +kernel
theorem dX6_fill_47 : decode cX6_fill 47 = .ok (.aload_n 0, 1) := by decide +kernel
theorem dX6_fill_48 : decode cX6_fill 48 = .ok (.iload_n 1, 1) := by decide +kernel
theorem dX6_fill_49 : decode cX6_fill 49 = .ok (.iload_n 2, 1) := by decide +kernel
theorem dX6_fill_50 : decode cX6_fill 50 = .ok (.invokevirtual 118, 3) := by decide +kernel
theorem dX6_fill_53 : decode cX6_fill 53 = .ok (.aload_n 0, 1) := by decide +kernel
theorem dX6_fill_54 : decode cX6_fill 54 = .ok (.iload_n 1, 1) := by decide +kernel
theorem dX6_fill_55 : decode cX6_fill 55 = .ok (.iconst 5, 1) := by decide +kernel
theorem dX6_fill_56 : decode cX6_fill 56 = .ok (.invokevirtual 44, 3) := by decide +kernel
theorem dX6_fill_59 : decode cX6_fill 59 = .ok (.ireturn, 1) := by decide +kernel
theorem dX6_fillAll_0 : decode cX6_fillAll 0 = .ok (.iload_n 1, 1) := by decide +kernel
theorem dX6_fillAll_1 : decode cX6_fillAll 1 = .ok (.invokestatic 99, 3) := by decide +kernel
theorem dX6_fillAll_4 : decode cX6_fillAll 4 = .ok (.ifCond .ne 5, 3) := by decide +kernel
theorem dX6_fillAll_7 : decode cX6_fillAll 7 = .ok (.iconst (-1), 1) := by decide +kernel
theorem dX6_fillAll_8 : decode cX6_fillAll 8 = .ok (.ireturn, 1) := by decide +kernel
theorem dX6_fillAll_9 : decode cX6_fillAll 9 = .ok (.aload_n 0, 1) := by decide +kernel
theorem dX6_fillAll_10 : decode cX6_fillAll 10 = .ok (.invokevirtual 121, 3) := by decide +kernel
theorem dX6_fillAll_13 : decode cX6_fillAll 13 = .ok (.bipush (-6), 2) := by decide +kernel
theorem dX6_fillAll_15 : decode cX6_fillAll 15 = .ok (.if_icmp .eq 6, 3) := by decide +kernel
theorem dX6_fillAll_18 : decode cX6_fillAll 18 = .ok (.bipush (-3), 2) := by decide +kernel
theorem dX6_fillAll_20 : decode cX6_fillAll 20 = .ok (.ireturn, 1) := by decide +kernel
theorem dX6_fillAll_21 : decode cX6_fillAll 21 = .ok (.aload_n 0, 1) := by decide +kernel
theorem dX6_fillAll_22 : decode cX6_fillAll 22 = .ok (.iload_n 1, 1) := by decide +kernel
theorem dX6_fillAll_23 : decode cX6_fillAll 23 = .ok (.iconst 1, 1) := by decide +kernel
theorem dX6_fillAll_24 : decode cX6_fillAll 24 = .ok (.invokevirtual 59, 3) := by decide +kernel
theorem dX6_fillAll_27 : decode cX6_fillAll 27 = .ok (.ifCond .ne 6, 3) := by decide +kernel
theorem dX6_fillAll_30 : decode cX6_fillAll 30 = .ok (.bipush (-5), 2) := by decide +kernel
theorem dX6_fillAll_32 : decode cX6_fillAll 32 = .ok (.ireturn, 1) := by decide +kernel
theorem dX6_fillAll_33 : decode cX6_fillAll 33 = .ok (.aload_n 0, 1) := by decide +kernel
theorem dX6_fillAll_34 : decode cX6_fillAll 34 = .ok (.getfield 124, 3) := by decide +kernel
theorem dX6_fillAll_37 : decode cX6_fillAll 37 = .ok (.iconst 2, 1) := by decide +kernel
theorem dX6_fillAll_38 : decode cX6_fillAll 38 = .ok (.idiv, 1) := by decide +kernel
theorem dX6_fillAll_39 : decode cX6_fillAll 39 = .ok (.aload_n 0, 1) := by decide +kernel
theorem dX6_fillAll_40 : decode cX6_fillAll 40 = .ok (.iload_n 1, 1) := by decide +kernel
theorem dX6_fillAll_41 : decode cX6_fillAll 41 = .ok (.invokevirtual 115, 3) := by decide +kernel
theorem dX6_fillAll_44 : decode cX6_fillAll 44 = .ok (.if_icmp .le 6, 3) := by decide +kernel
theorem dX6_fillAll_47 : decode cX6_fillAll 47 = .ok (.bipush (-4), 2) := by decide +kernel
theorem dX6_fillAll_49 : decode cX6_fillAll 49 = .ok (.ireturn, 1) := by decide +kernel
theorem dX6_fillAll_50 : decode cX6_fillAll 50 = .ok (.aload_n 0, 1) := by decide +kernel
theorem dX6_fillAll_51 : decode cX6_fillAll 51 = .ok (.invokevirtual 96, 3) := by decide +kernel
theorem dX6_fillAll_54 : decode cX6_fillAll 54 = .ok (.iconst 0, 1) := by decide +kernel
theorem dX6_fillAll_55 : decode cX6_fillAll 55 = .ok (.istore_n 2, 1) := by decide +kernel
theorem dX6_fillAll_56 : decode cX6_fillAll 56 = .ok (.iload_n 2, 1) := by decide +kernel
theorem dX6_fillAll_57 : decode cX6_fillAll 57 = .ok (.aload_n 0, 1) := by decide +kernel
theorem dX6_fillAll_58 : decode cX6_fillAll 58 = .ok (.getfield 124, 3) := by decide +kernel
theorem dX6_fillAll_61 : decode cX6_fillAll 61 = .ok (.iconst 2, 1) := by decide +kernel
theorem dX6_fillAll_62 : decode cX6_fillAll 62 = .ok (.idiv, 1) := by decide +kernel
theorem dX6_fillAll_63 : decode cX6_fillAll 63 = .ok (.if_icmp .ge 19, 3) := by decide +kernel
theorem dX6_fillAll_66 : decode cX6_fillAll 66 = .ok (.aload_n 0, 1) := by decide +kernel
theorem dX6_fillAll_67 : decode cX6_fillAll 67 = .ok (.iload_n 1, 1) := by decide +kernel
theorem dX6_fillAll_68 : decode cX6_fillAll 68 = .ok (.aload_n 0, 1) := by decide +kernel
theorem dX6_fillAll_69 : decode cX6_fillAll 69 = .ok (.iload_n 2, 1) := by decide +kernel
theorem dX6_fillAll_70 : decode cX6_fillAll 70 = .ok (.invokevirtual 127, 3) := by decide +kernel
theorem dX6_fillAll_73 : decode cX6_fillAll 73 = .ok (.invokevirtual 118, 3) := by decide +kernel
theorem dX6_fillAll_76 : decode cX6_fillAll 76 = .ok (.iinc 2 1, 3) := by decide +kernel
theorem dX6_fillAll_79 : decode cX6_fillAll 79 = .ok (.goto (-23), 3) := by decide +kernel
theorem dX6_fillAll_82 : decode cX6_fillAll 82 = .ok (.aload_n 0, 1) := by decide +kernel
theorem dX6_fillAll_83 : decode cX6_fillAll 83 = .ok (.iconst 0, 1) := by decide +kernel
theorem dX6_fillAll_84 : decode cX6_fillAll 84 = .ok (.putfield 124, 3) := by decide +kernel
theorem dX6_fillAll_87 : decode cX6_fillAll 87 = .ok (.aload_n 0, 1) := by decide +kernel
theorem dX6_fillAll_88 : decode cX6_fillAll 88 = .ok (.iload_n 1, 1) := by decide +kernel
theorem dX6_fillAll_89 : decode cX6_fillAll 89 = .ok (.iconst 5, 1) := by decide +kernel
theorem dX6_fillAll_90 : decode cX6_fillAll 90 = .ok (.invokevirtual 44, 3) := by decide +kernel
theorem dX6_fillAll_93 : decode cX6_fillAll 93 = .ok (.ireturn, 1) := by decide +kernel
theorem dX6_finish_0 : decode cX6_finish 0 = .ok (.iload_n 1, 1) := by decide +kernel
theorem dX6_finish_1 : decode cX6_finish 1 = .ok (.invokestatic 99, 3) := by decide +kernel
theorem dX6_finish_4 : decode cX6_finish 4 = .ok (.ifCond .ne 5, 3) := by decide +kernel
theorem dX6_finish_7 : decode cX6_finish 7 = .ok (.iconst (-1), 1) := by decide +kernel
theorem dX6_finish_8 : decode cX6_finish 8 = .ok (.ireturn, 1) := by decide +kernel
theorem dX6_finish_9 : decode cX6_finish 9 = .ok (.aload_n 0, 1) := by decide +kernel
theorem dX6_finish_10 : decode cX6_finish 10 = .ok (.iload_n 1, 1) := by decide +kernel
theorem dX6_finish_11 : decode cX6_finish 11 = .ok (.iconst 1, 1) := by decide +kernel
theorem dX6_finish_12 : decode cX6_finish 12 = .ok (.invokevirtual 59, 3) := by decide +kernel
theorem dX6_finish_15 : decode cX6_finish 15 = .ok (.ifCond .eq 11, 3) := by decide +kernel
theorem dX6_finish_18 : decode cX6_finish 18 = .ok (.aload_n 0, 1) := by decide +kernel
theorem dX6_finish_19 : decode cX6_finish 19 = .ok (.iload_n 1, 1) := by decide +kernel
theorem dX6_finish_20 : decode cX6_finish 20 = .ok (.invokevirtual 115, 3) := by decide +kernel
theorem dX6_finish_23 : decode cX6_finish 23 = .ok (.ifCond .le 6, 3) := by decide +kernel
theorem dX6_finish_26 : decode cX6_finish 26 = .ok (.bipush (-5), 2) := by decide +kernel
theorem dX6_finish_28 : decode cX6_finish 28 = .ok (.ireturn, 1) := by decide +kernel
theorem dX6_finish_29 : decode cX6_finish 29 = .ok (.aload_n 0, 1) := by decide +kernel
theorem dX6_finish_30 : decode cX6_finish 30 = .ok (.invokevirtual 96, 3) := by decide +kernel
theorem dX6_finish_33 : decode cX6_finish 33 = .ok (.aload_n 0, 1) := by decide +kernel
theorem dX6_finish_34 : decode cX6_finish 34 = .ok (.iload_n 1, 1) := by decide +kernel
theorem dX6_finish_35 : decode cX6_finish 35 = .ok (.invokevirtual 72, 3) := by decide +kernel
theorem dX6_finish_38 : decode cX6_finish 38 = .ok (.istore_n 2, 1) := by decide +kernel
theorem dX6_finish_39 : decode cX6_finish 39 = .ok (.aload_n 0, 1) := by decide +kernel
theorem dX6_finish_40 : decode cX6_finish 40 = .ok (.iload_n 1, 1) := by decide +kernel
theorem dX6_finish_41 : decode cX6_finish 41 = .ok (.iconst 0, 1) := by decide +kernel
theorem dX6_finish_42 : decode cX6_finish 42 = .ok (.iload_n 2, 1) := by decide +kernel
theorem dX6_finish_43 : decode cX6_finish 43 = .ok (.ifCond .eq 7, 3) := by decide +kernel
theorem dX6_finish_46 : decode cX6_finish 46 = .ok (.iconst 2, 1) := by decide +kernel
theorem dX6_finish_47 : decode cX6_finish 47 = .ok (.goto 4, 3) := by decide +kernel
theorem dX6_finish_50 : decode cX6_finish 50 = .ok (.iconst 4, 1) := by decide +kernel
theorem dX6_finish_51 : decode cX6_finish 51 = .ok (.invokevirtual 28, 3) := by decide +kernel
theorem dX6_finish_54 : decode cX6_finish 54 = .ok (.aload_n 0, 1) := by decide +kernel
theorem dX6_finish_55 : decode cX6_finish 55 = .ok (.iload_n 1, 1) := by decide +kernel
theorem dX6_finish_56 : decode cX6_finish 56 = .ok (.iconst 4, 1) := by decide +kernel
theorem dX6_finish_57 : decode cX6_finish 57 = .ok (.iload_n 2, 1) := by decide +kernel
theorem dX6_finish_58 : decode cX6_finish 58 = .ok (.ifCond .eq 12, 3) := by decide +kernel
theorem dX6_finish_61 : decode cX6_finish 61 = .ok (.aload_n 0, 1) := by decide +kernel
theorem dX6_finish_62 : decode cX6_finish 62 = .ok (.getfield 7, 3) := by decide +kernel
theorem dX6_finish_65 : decode cX6_finish 65 = .ok (.iconst 0, 1) := by decide +kernel
theorem dX6_finish_66 : decode cX6_finish 66 = .ok (.iaload, 1) := by decide +kernel
theorem dX6_finish_67 : decode cX6_finish 67 = .ok (.goto 4, 3) := by decide +kernel
theorem dX6_finish_70 : decode cX6_finish 70 = .ok (.iconst 0, 1) := by decide +kernel
theorem dX6_finish_71 : decode cX6_finish 71 = .ok (.invokevirtual 28, 3) := by decide +kernel
theorem dX6_finish_74 : decode cX6_finish 74 = .ok (.iload_n 2, 1) := by decide +kernel
theorem dX6_finish_75 : decode cX6_finish 75 = .ok (.ifCond .eq 7, 3) := by decide +kernel
theorem dX6_finish_78 : decode cX6_finish 78 = .ok (.iconst 1, 1) := by decide +kernel
theorem dX6_finish_79 : decode cX6_finish 79 = .ok (.goto 4, 3) := by decide +kernel
theorem dX6_finish_82 : decode cX6_finish 82 = .ok (.iconst 0, 1) := by decide +kernel
theorem dX6_finish_83 : decode cX6_finish 83 = .ok (.ireturn, 1) := by decide +kernel
theorem dX6_damage_0 : decode cX6_damage 0 = .ok (.iload_n 1, 1) := by decide +kernel
theorem dX6_damage_1 : decode cX6_damage 1 = .ok (.invokestatic 99, 3) := by decide +kernel
theorem dX6_damage_4 : decode cX6_damage 4 = .ok (.ifCond .eq 13, 3) := by decide +kernel
theorem dX6_damage_7 : decode cX6_damage 7 = .ok (.iload_n 2, 1) := by decide +kernel
theorem dX6_damage_8 : decode cX6_damage 8 = .ok (.iconst 0, 1) := by decide +kernel
theorem dX6_damage_9 : decode cX6_damage 9 = .ok (.bipush 31, 2) := by decide +kernel
theorem dX6_damage_11 : decode cX6_damage 11 = .ok (.invokestatic 40, 3) := by decide +kernel
theorem dX6_damage_14 : decode cX6_damage 14 = .ok (.ifCond .ne 5, 3) := by decide +kernel
theorem dX6_damage_17 : decode cX6_damage 17 = .ok (.iconst (-1), 1) := by decide +kernel
theorem dX6_damage_18 : decode cX6_damage 18 = .ok (.ireturn, 1) := by decide +kernel
theorem dX6_damage_19 : decode cX6_damage 19 = .ok (.iload_n 3, 1) := by decide +kernel
theorem dX6_damage_20 : decode cX6_damage 20 = .ok (.iconst 1, 1) := by decide +kernel
theorem dX6_damage_21 : decode cX6_damage 21 = .ok (.sipush 255, 3) := by decide +kernel
theorem dX6_damage_24 : decode cX6_damage 24 = .ok (.invokestatic 40, 3) := by decide +kernel
theorem dX6_damage_27 : decode cX6_damage 27 = .ok (.ifCond .ne 6, 3) := by decide +kernel
theorem dX6_damage_30 : decode cX6_damage 30 = .ok (.bipush (-2), 2) := by decide +kernel
theorem dX6_damage_32 : decode cX6_damage 32 = .ok (.ireturn, 1) := by decide +kernel
theorem dX6_damage_33 : decode cX6_damage 33 = .ok (.aload_n 0, 1) := by decide +kernel
theorem dX6_damage_34 : decode cX6_damage 34 = .ok (.invokevirtual 96, 3) := by decide +kernel
theorem dX6_damage_37 : decode cX6_damage 37 = .ok (.aload_n 0, 1) := by decide +kernel
theorem dX6_damage_38 : decode cX6_damage 38 = .ok (.iload_n 1, 1) := by decide +kernel
theorem dX6_damage_39 : decode cX6_damage 39 = .ok (.bipush 14, 2) := by decide +kernel
theorem dX6_damage_41 : decode cX6_damage 41 = .ok (.iload_n 2, 1) := by decide +kernel
theorem dX6_damage_42 : decode cX6_damage 42 = .ok (.iadd, 1) := by decide +kernel
theorem dX6_damage_43 : decode cX6_damage 43 = .ok (.aload_n 0, 1) := by decide +kernel
theorem dX6_damage_44 : decode cX6_damage 44 = .ok (.iload_n 1, 1) := by decide +kernel
theorem dX6_damage_45 : decode cX6_damage 45 = .ok (.bipush 14, 2) := by decide +kernel
theorem dX6_damage_47 : decode cX6_damage 47 = .ok (.iload_n 2, 1) := by decide +kernel
theorem dX6_damage_48 : decode cX6_damage 48 = .ok (.iadd, 1) := by decide +kernel
theorem dX6_damage_49 : decode cX6_damage 49 = .ok (.invokevirtual 44, 3) := by decide +kernel
theorem dX6_damage_52 : decode cX6_damage 52 = .ok (.iload_n 3, 1) := by decide +kernel
theorem dX6_damage_53 : decode cX6_damage 53 = .ok (.ixor, 1) := by decide +kernel
theorem dX6_damage_54 : decode cX6_damage 54 = .ok (.invokevirtual 28, 3) := by decide +kernel
theorem dX6_damage_57 : decode cX6_damage 57 = .ok (.aload_n 0, 1) := by decide +kernel
theorem dX6_damage_58 : decode cX6_damage 58 = .ok (.iload_n 1, 1) := by decide +kernel
theorem dX6_damage_59 : decode cX6_damage 59 = .ok (.bipush 14, 2) := by decide +kernel
theorem dX6_damage_61 : decode cX6_damage 61 = .ok (.iload_n 2, 1) := by decide +kernel
theorem dX6_damage_62 : decode cX6_damage 62 = .ok (.iadd, 1) := by decide +kernel
theorem dX6_damage_63 : decode cX6_damage 63 = .ok (.invokevirtual 44, 3) := by decide +kernel
theorem dX6_damage_66 : decode cX6_damage 66 = .ok (.ireturn, 1) := by decide +kernel
theorem dX6_repair_0 : decode cX6_repair 0 = .ok (.iload_n 1, 1) := by decide +kernel
theorem dX6_repair_1 : decode cX6_repair 1 = .ok (.invokestatic 99, 3) := by decide +kernel
theorem dX6_repair_4 : decode cX6_repair 4 = .ok (.ifCond .ne 5, 3) := by decide +kernel
theorem dX6_repair_7 : decode cX6_repair 7 = .ok (.iconst (-1), 1) := by decide +kernel
theorem dX6_repair_8 : decode cX6_repair 8 = .ok (.ireturn, 1) := by decide +kernel
theorem dX6_repair_9 : decode cX6_repair 9 = .ok (.aload_n 0, 1) := by decide +kernel
theorem dX6_repair_10 : decode cX6_repair 10 = .ok (.getfield 7, 3) := by decide +kernel
theorem dX6_repair_13 : decode cX6_repair 13 = .ok (.iconst 3, 1) := by decide +kernel
theorem dX6_repair_14 : decode cX6_repair 14 = .ok (.iaload, 1) := by decide +kernel
theorem dX6_repair_15 : decode cX6_repair 15 = .ok (.iconst 2, 1) := by decide +kernel
theorem dX6_repair_16 : decode cX6_repair 16 = .ok (.if_icmp .ne 22, 3) := by decide +kernel
theorem dX6_repair_19 : decode cX6_repair 19 = .ok (.aload_n 0, 1) := by decide +kernel
theorem dX6_repair_20 : decode cX6_repair 20 = .ok (.iload_n 1, 1) := by decide +kernel
theorem dX6_repair_21 : decode cX6_repair 21 = .ok (.iconst 0, 1) := by decide +kernel
theorem dX6_repair_22 : decode cX6_repair 22 = .ok (.invokevirtual 55, 3) := by decide +kernel
theorem dX6_repair_25 : decode cX6_repair 25 = .ok (.ifCond .ne 13, 3) := by decide +kernel
theorem dX6_repair_28 : decode cX6_repair 28 = .ok (.aload_n 0, 1) := by decide +kernel
theorem dX6_repair_29 : decode cX6_repair 29 = .ok (.getfield 7, 3) := by decide +kernel
theorem dX6_repair_32 : decode cX6_repair 32 = .ok (.bipush 6, 2) := by decide +kernel
theorem dX6_repair_34 : decode cX6_repair 34 = .ok (.iaload, 1) := by decide +kernel
theorem dX6_repair_35 : decode cX6_repair 35 = .ok (.ifCond .le 6, 3) := by decide +kernel
theorem dX6_repair_38 : decode cX6_repair 38 = .ok (.bipush (-5), 2) := by decide +kernel
theorem dX6_repair_40 : decode cX6_repair 40 = .ok (.ireturn, 1) := by decide +kernel
theorem dX6_repair_41 : decode cX6_repair 41 = .ok (.aload_n 0, 1) := by decide +kernel
theorem dX6_repair_42 : decode cX6_repair 42 = .ok (.invokevirtual 96, 3) := by decide +kernel
theorem dX6_repair_45 : decode cX6_repair 45 = .ok (.aload_n 0, 1) := by decide +kernel
theorem dX6_repair_46 : decode cX6_repair 46 = .ok (.iload_n 1, 1) := by decide +kernel
theorem dX6_repair_47 : decode cX6_repair 47 = .ok (.iconst 0, 1) := by decide +kernel
theorem dX6_repair_48 : decode cX6_repair 48 = .ok (.invokevirtual 108, 3) := by decide +kernel
theorem dX6_repair_51 : decode cX6_repair 51 = .ok (.aload_n 0, 1) := by decide +kernel
theorem dX6_repair_52 : decode cX6_repair 52 = .ok (.iload_n 1, 1) := by decide +kernel
theorem dX6_repair_53 : decode cX6_repair 53 = .ok (.iconst 0, 1) := by decide +kernel
theorem dX6_repair_54 : decode cX6_repair 54 = .ok (.iconst 3, 1) := by decide +kernel
theorem dX6_repair_55 : decode cX6_repair 55 = .ok (.invokevirtual 28, 3) := by decide +kernel
theorem dX6_repair_58 : decode cX6_repair 58 = .ok (.aload_n 0, 1) := by decide +kernel
theorem dX6_repair_59 : decode cX6_repair 59 = .ok (.iload_n 1, 1) := by decide +kernel
theorem dX6_repair_60 : decode cX6_repair 60 = .ok (.iconst 1, 1) := by decide +kernel
theorem dX6_repair_61 : decode cX6_repair 61 = .ok (.iconst 0, 1) := by decide +kernel
theorem dX6_repair_62 : decode cX6_repair 62 = .ok (.invokevirtual 28, 3) := by decide +kernel
theorem dX6_repair_65 : decode cX6_repair 65 = .ok (.aload_n 0, 1) := by decide +kernel
theorem dX6_repair_66 : decode cX6_repair 66 = .ok (.iload_n 1, 1) := by decide +kernel
theorem dX6_repair_67 : decode cX6_repair 67 = .ok (.iconst 2, 1) := by decide +kernel
theorem dX6_repair_68 : decode cX6_repair 68 = .ok (.iconst 2, 1) := by decide +kernel
theorem dX6_repair_69 : decode cX6_repair 69 = .ok (.invokevirtual 28, 3) := by decide +kernel
theorem dX6_repair_72 : decode cX6_repair 72 = .ok (.aload_n 0, 1) := by decide +kernel
theorem dX6_repair_73 : decode cX6_repair 73 = .ok (.iload_n 1, 1) := by decide +kernel
theorem dX6_repair_74 : decode cX6_repair 74 = .ok (.iconst 3, 1) := by decide +kernel
theorem dX6_repair_75 : decode cX6_repair 75 = .ok (.aload_n 0, 1) := by decide +kernel
theorem dX6_repair_76 : decode cX6_repair 76 = .ok (.iconst 2, 1) := by decide +kernel
theorem dX6_repair_77 : decode cX6_repair 77 = .ok (.invokevirtual 51, 3) := by decide +kernel
theorem dX6_repair_80 : decode cX6_repair 80 = .ok (.invokevirtual 28, 3) := by decide +kernel
theorem dX6_repair_83 : decode cX6_repair 83 = .ok (.aload_n 0, 1) := by decide +kernel
theorem dX6_repair_84 : decode cX6_repair 84 = .ok (.iload_n 1, 1) := by decide +kernel
theorem dX6_repair_85 : decode cX6_repair 85 = .ok (.iconst 4, 1) := by decide +kernel
theorem dX6_repair_86 : decode cX6_repair 86 = .ok (.iconst 0, 1) := by decide +kernel
theorem dX6_repair_87 : decode cX6_repair 87 = .ok (.invokevirtual 28, 3) := by decide +kernel
theorem dX6_repair_90 : decode cX6_repair 90 = .ok (.aload_n 0, 1) := by decide +kernel
theorem dX6_repair_91 : decode cX6_repair 91 = .ok (.iload_n 1, 1) := by decide +kernel
theorem dX6_repair_92 : decode cX6_repair 92 = .ok (.iconst 5, 1) := by decide +kernel
theorem dX6_repair_93 : decode cX6_repair 93 = .ok (.iconst 2, 1) := by decide +kernel
theorem dX6_repair_94 : decode cX6_repair 94 = .ok (.invokevirtual 28, 3) := by decide +kernel
theorem dX6_repair_97 : decode cX6_repair 97 = .ok (.iconst 0, 1) := by decide +kernel
theorem dX6_repair_98 : decode cX6_repair 98 = .ok (.istore_n 2, 1) := by decide +kernel
theorem dX6_repair_99 : decode cX6_repair 99 = .ok (.iload_n 2, 1) := by decide +kernel
theorem dX6_repair_100 : decode cX6_repair 100 = .ok (.iconst 2, 1) := by decide +kernel
theorem dX6_repair_101 : decode cX6_repair 101 = .ok (.if_icmp .ge 24, 3) := by decide +kernel
theorem dX6_repair_104 : decode cX6_repair 104 = .ok (.aload_n 0, 1) := by decide +kernel
theorem dX6_repair_105 : decode cX6_repair 105 = .ok (.iload_n 1, 1) := by decide +kernel
theorem dX6_repair_106 : decode cX6_repair 106 = .ok (.bipush 14, 2) := by decide +kernel
theorem dX6_repair_108 : decode cX6_repair 108 = .ok (.iload_n 2, 1) := by decide +kernel
theorem dX6_repair_109 : decode cX6_repair 109 = .ok (.iadd, 1) := by decide +kernel
theorem dX6_repair_110 : decode cX6_repair 110 = .ok (.aload_n 0, 1) := by decide +kernel
theorem dX6_repair_111 : decode cX6_repair 111 = .ok (.iconst 2, 1) := by decide +kernel
theorem dX6_repair_112 : decode cX6_repair 112 = .ok (.iload_n 2, 1) := by decide +kernel
theorem dX6_repair_113 : decode cX6_repair 113 = .ok (.invokevirtual 48, 3) := by decide +kernel
theorem dX6_repair_116 : decode cX6_repair 116 = .ok (.invokevirtual 28, 3) := by decide +kernel
theorem dX6_repair_119 : decode cX6_repair 119 = .ok (.iinc 2 1, 3) := by decide +kernel
theorem dX6_repair_122 : decode cX6_repair 122 = .ok (.goto (-23), 3) := by decide +kernel
theorem dX6_repair_125 : decode cX6_repair 125 = .ok (.aload_n 0, 1) := by decide +kernel
theorem dX6_repair_126 : decode cX6_repair 126 = .ok (.iload_n 1, 1) := by decide +kernel
theorem dX6_repair_127 : decode cX6_repair 127 = .ok (.bipush 6, 2) := by decide +kernel
theorem dX6_repair_129 : decode cX6_repair 129 = .ok (.invokevirtual 44, 3) := by decide +kernel
theorem dX6_repair_132 : decode cX6_repair 132 = .ok (.ireturn, 1) := by decide +kernel
theorem dX6_start_0 : decode cX6_start 0 = .ok (.aload_n 0, 1) := by decide +kernel
theorem dX6_start_1 : decode cX6_start 1 = .ok (.invokevirtual 96, 3) := by decide +kernel
theorem dX6_start_4 : decode cX6_start 4 = .ok (.aload_n 0, 1) := by decide +kernel
theorem dX6_start_5 : decode cX6_start 5 = .ok (.iload_n 1, 1) := by decide +kernel
theorem dX6_start_6 : decode cX6_start 6 = .ok (.ifCond .eq 7, 3) := by decide +kernel
theorem dX6_start_9 : decode cX6_start 9 = .ok (.iconst 2, 1) := by decide +kernel
theorem dX6_start_10 : decode cX6_start 10 = .ok (.goto 4, 3) := by decide +kernel
theorem dX6_start_13 : decode cX6_start 13 = .ok (.iconst 0, 1) := by decide +kernel
theorem dX6_start_14 : decode cX6_start 14 = .ok (.invokevirtual 87, 3) := by decide +kernel
theorem dX6_start_17 : decode cX6_start 17 = .ok (.aload_n 0, 1) := by decide +kernel
theorem dX6_start_18 : decode cX6_start 18 = .ok (.getfield 7, 3) := by decide +kernel
theorem dX6_start_21 : decode cX6_start 21 = .ok (.iconst 3, 1) := by decide +kernel
theorem dX6_start_22 : decode cX6_start 22 = .ok (.iaload, 1) := by decide +kernel
theorem dX6_start_23 : decode cX6_start 23 = .ok (.ireturn, 1) := by decide +kernel
theorem dX6_pass_0 : decode cX6_pass 0 = .ok (.iload_n 1, 1) := by decide +kernel
theorem dX6_pass_1 : decode cX6_pass 1 = .ok (.iconst 1, 1) := by decide +kernel
theorem dX6_pass_2 : decode cX6_pass 2 = .ok (.sipush 500, 3) := by decide +kernel
theorem dX6_pass_5 : decode cX6_pass 5 = .ok (.invokestatic 40, 3) := by decide +kernel
theorem dX6_pass_8 : decode cX6_pass 8 = .ok (.ifCond .ne 6, 3) := by decide +kernel
theorem dX6_pass_11 : decode cX6_pass 11 = .ok (.bipush (-2), 2) := by decide +kernel
theorem dX6_pass_13 : decode cX6_pass 13 = .ok (.ireturn, 1) := by decide +kernel
theorem dX6_pass_14 : decode cX6_pass 14 = .ok (.aload_n 0, 1) := by decide +kernel
theorem dX6_pass_15 : decode cX6_pass 15 = .ok (.invokevirtual 96, 3) := by decide +kernel
theorem dX6_pass_18 : decode cX6_pass 18 = .ok (.aload_n 0, 1) := by decide +kernel
theorem dX6_pass_19 : decode cX6_pass 19 = .ok (.iload_n 1, 1) := by decide +kernel
theorem dX6_pass_20 : decode cX6_pass 20 = .ok (.invokevirtual 130, 3) := by decide +kernel
theorem dX6_pass_23 : decode cX6_pass 23 = .ok (.ireturn, 1) := by decide +kernel
theorem dX6_wornMany_0 : decode cX6_wornMany 0 = .ok (.iconst 0, 1) := by decide +kernel
theorem dX6_wornMany_1 : decode cX6_wornMany 1 = .ok (.istore_n 2, 1) := by decide +kernel
theorem dX6_wornMany_2 : decode cX6_wornMany 2 = .ok (.iconst 0, 1) := by decide +kernel
theorem dX6_wornMany_3 : decode cX6_wornMany 3 = .ok (.istore_n 3, 1) := by decide +kernel
theorem dX6_wornMany_4 : decode cX6_wornMany 4 = .ok (.iload_n 3, 1) := by decide +kernel
theorem dX6_wornMany_5 : decode cX6_wornMany 5 = .ok (.bipush 8, 2) := by decide +kernel
theorem dX6_wornMany_7 : decode cX6_wornMany 7 = .ok (.if_icmp .ge 26, 3) := by decide +kernel
theorem dX6_wornMany_10 : decode cX6_wornMany 10 = .ok (.iload_n 2, 1) := by decide +kernel
theorem dX6_wornMany_11 : decode cX6_wornMany 11 = .ok (.aload_n 0, 1) := by decide +kernel
theorem dX6_wornMany_12 : decode cX6_wornMany 12 = .ok (.iload_n 1, 1) := by decide +kernel
theorem dX6_wornMany_13 : decode cX6_wornMany 13 = .ok (.iload_n 3, 1) := by decide +kernel
theorem dX6_wornMany_14 : decode cX6_wornMany 14 = .ok (.invokevirtual 55, 3) := by decide +kernel
theorem dX6_wornMany_17 : decode cX6_wornMany 17 = .ok (.ifCond .eq 7, 3) := by decide +kernel
theorem dX6_wornMany_20 : decode cX6_wornMany 20 = .ok (.iconst 1, 1) := by decide +kernel
theorem dX6_wornMany_21 : decode cX6_wornMany 21 = .ok (.goto 4, 3) := by decide +kernel
theorem dX6_wornMany_24 : decode cX6_wornMany 24 = .ok (.iconst 0, 1) := by decide +kernel
theorem dX6_wornMany_25 : decode cX6_wornMany 25 = .ok (.iadd, 1) := by decide +kernel
theorem dX6_wornMany_26 : decode cX6_wornMany 26 = .ok (.istore_n 2, 1) := by decide +kernel
theorem dX6_wornMany_27 : decode cX6_wornMany 27 = .ok (.iinc 3 1, 3) := by decide +kernel
theorem dX6_wornMany_30 : decode cX6_wornMany 30 = .ok (.goto (-26), 3) := by decide +kernel
theorem dX6_wornMany_33 : decode cX6_wornMany 33 = .ok (.iload_n 2, 1) := by decide +kernel
theorem dX6_wornMany_34 : decode cX6_wornMany 34 = .ok (.ireturn, 1) := by decide +kernel
theorem dX6_slot_0 : decode cX6_slot 0 = .ok (.iload_n 1, 1) := by decide +kernel
theorem dX6_slot_1 : decode cX6_slot 1 = .ok (.invokestatic 99, 3) := by decide +kernel
theorem dX6_slot_4 : decode cX6_slot 4 = .ok (.ifCond .ne 5, 3) := by decide +kernel
theorem dX6_slot_7 : decode cX6_slot 7 = .ok (.iconst (-1), 1) := by decide +kernel
theorem dX6_slot_8 : decode cX6_slot 8 = .ok (.ireturn, 1) := by decide +kernel
theorem dX6_slot_9 : decode cX6_slot 9 = .ok (.iload_n 2, 1) := by decide +kernel
theorem dX6_slot_10 : decode cX6_slot 10 = .ok (.tableswitch 91 0 8 #[50, 50, 50, 50, 50, 50, 57, 77, 85], 50) := by decide +kernel
theorem dX6_slot_60 : decode cX6_slot 60 = .ok (.aload_n 0, 1) := by decide +kernel
theorem dX6_slot_61 : decode cX6_slot 61 = .ok (.iload_n 1, 1) := by decide +kernel
theorem dX6_slot_62 : decode cX6_slot 62 = .ok (.iload_n 2, 1) := by decide +kernel
theorem dX6_slot_63 : decode cX6_slot 63 = .ok (.invokevirtual 44, 3) := by decide +kernel
theorem dX6_slot_66 : decode cX6_slot 66 = .ok (.ireturn, 1) := by decide +kernel
theorem dX6_slot_67 : decode cX6_slot 67 = .ok (.aload_n 0, 1) := by decide +kernel
theorem dX6_slot_68 : decode cX6_slot 68 = .ok (.iload_n 1, 1) := by decide +kernel
theorem dX6_slot_69 : decode cX6_slot 69 = .ok (.iconst 2, 1) := by decide +kernel
theorem dX6_slot_70 : decode cX6_slot 70 = .ok (.invokevirtual 44, 3) := by decide +kernel
theorem dX6_slot_73 : decode cX6_slot 73 = .ok (.ifCond .ne 8, 3) := by decide +kernel
theorem dX6_slot_76 : decode cX6_slot 76 = .ok (.bipush (-6), 2) := by decide +kernel
theorem dX6_slot_78 : decode cX6_slot 78 = .ok (.goto 8, 3) := by decide +kernel
theorem dX6_slot_81 : decode cX6_slot 81 = .ok (.aload_n 0, 1) := by decide +kernel
theorem dX6_slot_82 : decode cX6_slot 82 = .ok (.iload_n 1, 1) := by decide +kernel
theorem dX6_slot_83 : decode cX6_slot 83 = .ok (.invokevirtual 51, 3) := by decide +kernel
theorem dX6_slot_86 : decode cX6_slot 86 = .ok (.ireturn, 1) := by decide +kernel
theorem dX6_slot_87 : decode cX6_slot 87 = .ok (.aload_n 0, 1) := by decide +kernel
theorem dX6_slot_88 : decode cX6_slot 88 = .ok (.iload_n 1, 1) := by decide +kernel
theorem dX6_slot_89 : decode cX6_slot 89 = .ok (.bipush 8, 2) := by decide +kernel
theorem dX6_slot_91 : decode cX6_slot 91 = .ok (.invokevirtual 112, 3) := by decide +kernel
theorem dX6_slot_94 : decode cX6_slot 94 = .ok (.ireturn, 1) := by decide +kernel
theorem dX6_slot_95 : decode cX6_slot 95 = .ok (.aload_n 0, 1) := by decide +kernel
theorem dX6_slot_96 : decode cX6_slot 96 = .ok (.iload_n 1, 1) := by decide +kernel
theorem dX6_slot_97 : decode cX6_slot 97 = .ok (.invokevirtual 133, 3) := by decide +kernel
theorem dX6_slot_100 : decode cX6_slot 100 = .ok (.ireturn, 1) := by decide +kernel
theorem dX6_slot_101 : decode cX6_slot 101 = .ok (.bipush (-2), 2) := by decide +kernel
theorem dX6_slot_103 : decode cX6_slot 103 = .ok (.ireturn, 1) := by decide +kernel
theorem dX6_word_0 : decode cX6_word 0 = .ok (.iload_n 1, 1) := by decide +kernel
theorem dX6_word_1 : decode cX6_word 1 = .ok (.iconst 0, 1) := by decide +kernel
theorem dX6_word_2 : decode cX6_word 2 = .ok (.iconst 2, 1) := by decide +kernel
theorem dX6_word_3 : decode cX6_word 3 = .ok (.invokestatic 40, 3) := by decide +kernel
theorem dX6_word_6 : decode cX6_word 6 = .ok (.ifCond .eq 22, 3) := by decide +kernel
theorem dX6_word_9 : decode cX6_word 9 = .ok (.iload_n 2, 1) := by decide +kernel
theorem dX6_word_10 : decode cX6_word 10 = .ok (.iconst 0, 1) := by decide +kernel
theorem dX6_word_11 : decode cX6_word 11 = .ok (.bipush 31, 2) := by decide +kernel
theorem dX6_word_13 : decode cX6_word 13 = .ok (.invokestatic 40, 3) := by decide +kernel
theorem dX6_word_16 : decode cX6_word 16 = .ok (.ifCond .eq 12, 3) := by decide +kernel
theorem dX6_word_19 : decode cX6_word 19 = .ok (.aload_n 0, 1) := by decide +kernel
theorem dX6_word_20 : decode cX6_word 20 = .ok (.iload_n 1, 1) := by decide +kernel
theorem dX6_word_21 : decode cX6_word 21 = .ok (.iload_n 2, 1) := by decide +kernel
theorem dX6_word_22 : decode cX6_word 22 = .ok (.invokevirtual 48, 3) := by decide +kernel
theorem dX6_word_25 : decode cX6_word 25 = .ok (.goto 4, 3) := by decide +kernel
theorem dX6_word_28 : decode cX6_word 28 = .ok (.iconst (-1), 1) := by decide +kernel
theorem dX6_word_29 : decode cX6_word 29 = .ok (.ireturn, 1) := by decide +kernel
theorem dX6_wear_0 : decode cX6_wear 0 = .ok (.iload_n 1, 1) := by decide +kernel
theorem dX6_wear_1 : decode cX6_wear 1 = .ok (.invokestatic 99, 3) := by decide +kernel
theorem dX6_wear_4 : decode cX6_wear 4 = .ok (.ifCond .eq 25, 3) := by decide +kernel
theorem dX6_wear_7 : decode cX6_wear 7 = .ok (.iload_n 2, 1) := by decide +kernel
theorem dX6_wear_8 : decode cX6_wear 8 = .ok (.iconst 0, 1) := by decide +kernel
theorem dX6_wear_9 : decode cX6_wear 9 = .ok (.bipush 7, 2) := by decide +kernel
theorem dX6_wear_11 : decode cX6_wear 11 = .ok (.invokestatic 40, 3) := by decide +kernel
theorem dX6_wear_14 : decode cX6_wear 14 = .ok (.ifCond .eq 15, 3) := by decide +kernel
theorem dX6_wear_17 : decode cX6_wear 17 = .ok (.aload_n 0, 1) := by decide +kernel
theorem dX6_wear_18 : decode cX6_wear 18 = .ok (.iload_n 1, 1) := by decide +kernel
theorem dX6_wear_19 : decode cX6_wear 19 = .ok (.bipush 6, 2) := by decide +kernel
theorem dX6_wear_21 : decode cX6_wear 21 = .ok (.iload_n 2, 1) := by decide +kernel
theorem dX6_wear_22 : decode cX6_wear 22 = .ok (.iadd, 1) := by decide +kernel
theorem dX6_wear_23 : decode cX6_wear 23 = .ok (.invokevirtual 44, 3) := by decide +kernel
theorem dX6_wear_26 : decode cX6_wear 26 = .ok (.goto 4, 3) := by decide +kernel
theorem dX6_wear_29 : decode cX6_wear 29 = .ok (.iconst (-1), 1) := by decide +kernel
theorem dX6_wear_30 : decode cX6_wear 30 = .ok (.ireturn, 1) := by decide +kernel
theorem dX6_past_0 : decode cX6_past 0 = .ok (.iload_n 1, 1) := by decide +kernel
theorem dX6_past_1 : decode cX6_past 1 = .ok (.iconst 0, 1) := by decide +kernel
theorem dX6_past_2 : decode cX6_past 2 = .ok (.aload_n 0, 1) := by decide +kernel
theorem dX6_past_3 : decode cX6_past 3 = .ok (.getfield 7, 3) := by decide +kernel
theorem dX6_past_6 : decode cX6_past 6 = .ok (.bipush 10, 2) := by decide +kernel
theorem dX6_past_8 : decode cX6_past 8 = .ok (.iaload, 1) := by decide +kernel
theorem dX6_past_9 : decode cX6_past 9 = .ok (.iconst 1, 1) := by decide +kernel
theorem dX6_past_10 : decode cX6_past 10 = .ok (.isub, 1) := by decide +kernel
theorem dX6_past_11 : decode cX6_past 11 = .ok (.invokestatic 40, 3) := by decide +kernel
theorem dX6_past_14 : decode cX6_past 14 = .ok (.ifCond .ne 5, 3) := by decide +kernel
theorem dX6_past_17 : decode cX6_past 17 = .ok (.iconst (-1), 1) := by decide +kernel
theorem dX6_past_18 : decode cX6_past 18 = .ok (.ireturn, 1) := by decide +kernel
theorem dX6_past_19 : decode cX6_past 19 = .ok (.iload_n 2, 1) := by decide +kernel
theorem dX6_past_20 : decode cX6_past 20 = .ok (.iconst 0, 1) := by decide +kernel
theorem dX6_past_21 : decode cX6_past 21 = .ok (.iconst 2, 1) := by decide +kernel
theorem dX6_past_22 : decode cX6_past 22 = .ok (.invokestatic 40, 3) := by decide +kernel
theorem dX6_past_25 : decode cX6_past 25 = .ok (.ifCond .eq 19, 3) := by decide +kernel
theorem dX6_past_28 : decode cX6_past 28 = .ok (.aload_n 0, 1) := by decide +kernel
theorem dX6_past_29 : decode cX6_past 29 = .ok (.getfield 7, 3) := by decide +kernel
theorem dX6_past_32 : decode cX6_past 32 = .ok (.bipush 103, 2) := by decide +kernel
theorem dX6_past_34 : decode cX6_past 34 = .ok (.iconst 3, 1) := by decide +kernel
theorem dX6_past_35 : decode cX6_past 35 = .ok (.iload_n 1, 1) := by decide +kernel
theorem dX6_past_36 : decode cX6_past 36 = .ok (.imul, 1) := by decide +kernel
theorem dX6_past_37 : decode cX6_past 37 = .ok (.iadd, 1) := by decide +kernel
theorem dX6_past_38 : decode cX6_past 38 = .ok (.iload_n 2, 1) := by decide +kernel
theorem dX6_past_39 : decode cX6_past 39 = .ok (.iadd, 1) := by decide +kernel
theorem dX6_past_40 : decode cX6_past 40 = .ok (.iaload, 1) := by decide +kernel
theorem dX6_past_41 : decode cX6_past 41 = .ok (.goto 5, 3) := by decide +kernel
theorem dX6_past_44 : decode cX6_past 44 = .ok (.bipush (-2), 2) := by decide +kernel
theorem dX6_past_46 : decode cX6_past 46 = .ok (.ireturn, 1) := by decide +kernel
theorem dX6_count_0 : decode cX6_count 0 = .ok (.iload_n 1, 1) := by decide +kernel
theorem dX6_count_1 : decode cX6_count 1 = .ok (.tableswitch 146 0 12 #[67, 74, 81, 88, 96, 104, 112, 120, 126, 126, 126, 136, 141], 67) := by decide +kernel
theorem dX6_count_68 : decode cX6_count 68 = .ok (.aload_n 0, 1) := by decide +kernel
theorem dX6_count_69 : decode cX6_count 69 = .ok (.getfield 7, 3) := by decide +kernel
theorem dX6_count_72 : decode cX6_count 72 = .ok (.iconst 3, 1) := by decide +kernel
theorem dX6_count_73 : decode cX6_count 73 = .ok (.iaload, 1) := by decide +kernel
theorem dX6_count_74 : decode cX6_count 74 = .ok (.ireturn, 1) := by decide +kernel
theorem dX6_count_75 : decode cX6_count 75 = .ok (.aload_n 0, 1) := by decide +kernel
theorem dX6_count_76 : decode cX6_count 76 = .ok (.getfield 7, 3) := by decide +kernel
theorem dX6_count_79 : decode cX6_count 79 = .ok (.iconst 4, 1) := by decide +kernel
theorem dX6_count_80 : decode cX6_count 80 = .ok (.iaload, 1) := by decide +kernel
theorem dX6_count_81 : decode cX6_count 81 = .ok (.ireturn, 1) := by decide +kernel
theorem dX6_count_82 : decode cX6_count 82 = .ok (.aload_n 0, 1) := by decide +kernel
theorem dX6_count_83 : decode cX6_count 83 = .ok (.getfield 7, 3) := by decide +kernel
theorem dX6_count_86 : decode cX6_count 86 = .ok (.iconst 5, 1) := by decide +kernel
theorem dX6_count_87 : decode cX6_count 87 = .ok (.iaload, 1) := by decide +kernel
theorem dX6_count_88 : decode cX6_count 88 = .ok (.ireturn, 1) := by decide +kernel
theorem dX6_count_89 : decode cX6_count 89 = .ok (.aload_n 0, 1) := by decide +kernel
theorem dX6_count_90 : decode cX6_count 90 = .ok (.getfield 7, 3) := by decide +kernel
theorem dX6_count_93 : decode cX6_count 93 = .ok (.bipush 6, 2) := by decide +kernel
theorem dX6_count_95 : decode cX6_count 95 = .ok (.iaload, 1) := by decide +kernel
theorem dX6_count_96 : decode cX6_count 96 = .ok (.ireturn, 1) := by decide +kernel
theorem dX6_count_97 : decode cX6_count 97 = .ok (.aload_n 0, 1) := by decide +kernel
theorem dX6_count_98 : decode cX6_count 98 = .ok (.getfield 7, 3) := by decide +kernel
theorem dX6_count_101 : decode cX6_count 101 = .ok (.bipush 7, 2) := by decide +kernel
theorem dX6_count_103 : decode cX6_count 103 = .ok (.iaload, 1) := by decide +kernel
theorem dX6_count_104 : decode cX6_count 104 = .ok (.ireturn, 1) := by decide +kernel
theorem dX6_count_105 : decode cX6_count 105 = .ok (.aload_n 0, 1) := by decide +kernel
theorem dX6_count_106 : decode cX6_count 106 = .ok (.getfield 7, 3) := by decide +kernel
theorem dX6_count_109 : decode cX6_count 109 = .ok (.bipush 8, 2) := by decide +kernel
theorem dX6_count_111 : decode cX6_count 111 = .ok (.iaload, 1) := by decide +kernel
theorem dX6_count_112 : decode cX6_count 112 = .ok (.ireturn, 1) := by decide +kernel
theorem dX6_count_113 : decode cX6_count 113 = .ok (.aload_n 0, 1) := by decide +kernel
theorem dX6_count_114 : decode cX6_count 114 = .ok (.getfield 7, 3) := by decide +kernel
theorem dX6_count_117 : decode cX6_count 117 = .ok (.bipush 9, 2) := by decide +kernel
theorem dX6_count_119 : decode cX6_count 119 = .ok (.iaload, 1) := by decide +kernel
theorem dX6_count_120 : decode cX6_count 120 = .ok (.ireturn, 1) := by decide +kernel
theorem dX6_count_121 : decode cX6_count 121 = .ok (.aload_n 0, 1) := by decide +kernel
theorem dX6_count_122 : decode cX6_count 122 = .ok (.iconst 2, 1) := by decide +kernel
theorem dX6_count_123 : decode cX6_count 123 = .ok (.invokevirtual 51, 3) := by decide +kernel
theorem dX6_count_126 : decode cX6_count 126 = .ok (.ireturn, 1) := by decide +kernel
theorem dX6_count_127 : decode cX6_count 127 = .ok (.aload_n 0, 1) := by decide +kernel
theorem dX6_count_128 : decode cX6_count 128 = .ok (.getfield 7, 3) := by decide +kernel
theorem dX6_count_131 : decode cX6_count 131 = .ok (.iload_n 1, 1) := by decide +kernel
theorem dX6_count_132 : decode cX6_count 132 = .ok (.bipush 8, 2) := by decide +kernel
theorem dX6_count_134 : decode cX6_count 134 = .ok (.isub, 1) := by decide +kernel
theorem dX6_count_135 : decode cX6_count 135 = .ok (.iaload, 1) := by decide +kernel
theorem dX6_count_136 : decode cX6_count 136 = .ok (.ireturn, 1) := by decide +kernel
theorem dX6_count_137 : decode cX6_count 137 = .ok (.aload_n 0, 1) := by decide +kernel
theorem dX6_count_138 : decode cX6_count 138 = .ok (.getfield 124, 3) := by decide +kernel
theorem dX6_count_141 : decode cX6_count 141 = .ok (.ireturn, 1) := by decide +kernel
theorem dX6_count_142 : decode cX6_count 142 = .ok (.aload_n 0, 1) := by decide +kernel
theorem dX6_count_143 : decode cX6_count 143 = .ok (.getfield 32, 3) := by decide +kernel
theorem dX6_count_146 : decode cX6_count 146 = .ok (.ireturn, 1) := by decide +kernel
theorem dX6_count_147 : decode cX6_count 147 = .ok (.bipush (-2), 2) := by decide +kernel
theorem dX6_count_149 : decode cX6_count 149 = .ok (.ireturn, 1) := by decide +kernel
theorem dX6_padSum_0 : decode cX6_padSum 0 = .ok (.aload_n 0, 1) := by decide +kernel
theorem dX6_padSum_1 : decode cX6_padSum 1 = .ok (.invokevirtual 121, 3) := by decide +kernel
theorem dX6_padSum_4 : decode cX6_padSum 4 = .ok (.bipush (-6), 2) := by decide +kernel
theorem dX6_padSum_6 : decode cX6_padSum 6 = .ok (.if_icmp .eq 6, 3) := by decide +kernel
theorem dX6_padSum_9 : decode cX6_padSum 9 = .ok (.bipush (-3), 2) := by decide +kernel
theorem dX6_padSum_11 : decode cX6_padSum 11 = .ok (.ireturn, 1) := by decide +kernel
theorem dX6_padSum_12 : decode cX6_padSum 12 = .ok (.iconst 1, 1) := by decide +kernel
theorem dX6_padSum_13 : decode cX6_padSum 13 = .ok (.istore_n 1, 1) := by decide +kernel
theorem dX6_padSum_14 : decode cX6_padSum 14 = .ok (.iconst 0, 1) := by decide +kernel
theorem dX6_padSum_15 : decode cX6_padSum 15 = .ok (.istore_n 2, 1) := by decide +kernel
theorem dX6_padSum_16 : decode cX6_padSum 16 = .ok (.iload_n 2, 1) := by decide +kernel
theorem dX6_padSum_17 : decode cX6_padSum 17 = .ok (.aload_n 0, 1) := by decide +kernel
theorem dX6_padSum_18 : decode cX6_padSum 18 = .ok (.getfield 124, 3) := by decide +kernel
theorem dX6_padSum_21 : decode cX6_padSum 21 = .ok (.iconst 2, 1) := by decide +kernel
theorem dX6_padSum_22 : decode cX6_padSum 22 = .ok (.idiv, 1) := by decide +kernel
theorem dX6_padSum_23 : decode cX6_padSum 23 = .ok (.if_icmp .ge 23, 3) := by decide +kernel
theorem dX6_padSum_26 : decode cX6_padSum 26 = .ok (.iconst 3, 1) := by decide +kernel
theorem dX6_padSum_27 : decode cX6_padSum 27 = .ok (.iload_n 1, 1) := by decide +kernel
theorem dX6_padSum_28 : decode cX6_padSum 28 = .ok (.imul, 1) := by decide +kernel
theorem dX6_padSum_29 : decode cX6_padSum 29 = .ok (.aload_n 0, 1) := by decide +kernel
theorem dX6_padSum_30 : decode cX6_padSum 30 = .ok (.iload_n 2, 1) := by decide +kernel
theorem dX6_padSum_31 : decode cX6_padSum 31 = .ok (.invokevirtual 127, 3) := by decide +kernel
theorem dX6_padSum_34 : decode cX6_padSum 34 = .ok (.iadd, 1) := by decide +kernel
theorem dX6_padSum_35 : decode cX6_padSum 35 = .ok (.sipush 251, 3) := by decide +kernel
theorem dX6_padSum_38 : decode cX6_padSum 38 = .ok (.irem, 1) := by decide +kernel
theorem dX6_padSum_39 : decode cX6_padSum 39 = .ok (.istore_n 1, 1) := by decide +kernel
theorem dX6_padSum_40 : decode cX6_padSum 40 = .ok (.iinc 2 1, 3) := by decide +kernel
theorem dX6_padSum_43 : decode cX6_padSum 43 = .ok (.goto (-27), 3) := by decide +kernel
theorem dX6_padSum_46 : decode cX6_padSum 46 = .ok (.iload_n 1, 1) := by decide +kernel
theorem dX6_padSum_47 : decode cX6_padSum 47 = .ok (.ireturn, 1) := by decide +kernel
theorem dX6_badMany_0 : decode cX6_badMany 0 = .ok (.aload_n 0, 1) := by decide +kernel
theorem dX6_badMany_1 : decode cX6_badMany 1 = .ok (.iconst 0, 1) := by decide +kernel
theorem dX6_badMany_2 : decode cX6_badMany 2 = .ok (.iconst 4, 1) := by decide +kernel
theorem dX6_badMany_3 : decode cX6_badMany 3 = .ok (.invokevirtual 59, 3) := by decide +kernel
theorem dX6_badMany_6 : decode cX6_badMany 6 = .ok (.ifCond .eq 7, 3) := by decide +kernel
theorem dX6_badMany_9 : decode cX6_badMany 9 = .ok (.iconst 1, 1) := by decide +kernel
theorem dX6_badMany_10 : decode cX6_badMany 10 = .ok (.goto 4, 3) := by decide +kernel
theorem dX6_badMany_13 : decode cX6_badMany 13 = .ok (.iconst 0, 1) := by decide +kernel
theorem dX6_badMany_14 : decode cX6_badMany 14 = .ok (.aload_n 0, 1) := by decide +kernel
theorem dX6_badMany_15 : decode cX6_badMany 15 = .ok (.iconst 1, 1) := by decide +kernel
theorem dX6_badMany_16 : decode cX6_badMany 16 = .ok (.iconst 4, 1) := by decide +kernel
theorem dX6_badMany_17 : decode cX6_badMany 17 = .ok (.invokevirtual 59, 3) := by decide +kernel
theorem dX6_badMany_20 : decode cX6_badMany 20 = .ok (.ifCond .eq 7, 3) := by decide +kernel
theorem dX6_badMany_23 : decode cX6_badMany 23 = .ok (.iconst 1, 1) := by decide +kernel
theorem dX6_badMany_24 : decode cX6_badMany 24 = .ok (.goto 4, 3) := by decide +kernel
theorem dX6_badMany_27 : decode cX6_badMany 27 = .ok (.iconst 0, 1) := by decide +kernel
theorem dX6_badMany_28 : decode cX6_badMany 28 = .ok (.iadd, 1) := by decide +kernel
theorem dX6_badMany_29 : decode cX6_badMany 29 = .ok (.ireturn, 1) := by decide +kernel
theorem dX6_ifStarted_0 : decode cX6_ifStarted 0 = .ok (.aload_n 0, 1) := by decide +kernel
theorem dX6_ifStarted_1 : decode cX6_ifStarted 1 = .ok (.getfield 7, 3) := by decide +kernel
theorem dX6_ifStarted_4 : decode cX6_ifStarted 4 = .ok (.iconst 0, 1) := by decide +kernel
theorem dX6_ifStarted_5 : decode cX6_ifStarted 5 = .ok (.aload_n 0, 1) := by decide +kernel
theorem dX6_ifStarted_6 : decode cX6_ifStarted 6 = .ok (.getfield 13, 3) := by decide +kernel
theorem dX6_ifStarted_9 : decode cX6_ifStarted 9 = .ok (.iconst 0, 1) := by decide +kernel
theorem dX6_ifStarted_10 : decode cX6_ifStarted 10 = .ok (.invokestatic 36, 3) := by decide +kernel
theorem dX6_ifStarted_13 : decode cX6_ifStarted 13 = .ok (.aload_n 0, 1) := by decide +kernel
theorem dX6_ifStarted_14 : decode cX6_ifStarted 14 = .ok (.invokevirtual 136, 3) := by decide +kernel
theorem dX6_ifStarted_17 : decode cX6_ifStarted 17 = .ok (.istore_n 2, 1) := by decide +kernel
theorem dX6_ifStarted_18 : decode cX6_ifStarted 18 = .ok (.aload_n 0, 1) := by decide +kernel
theorem dX6_ifStarted_19 : decode cX6_ifStarted 19 = .ok (.iload_n 1, 1) := by decide +kernel
theorem dX6_ifStarted_20 : decode cX6_ifStarted 20 = .ok (.ifCond .eq 7, 3) := by decide +kernel
theorem dX6_ifStarted_23 : decode cX6_ifStarted 23 = .ok (.iconst 2, 1) := by decide +kernel
theorem dX6_ifStarted_24 : decode cX6_ifStarted 24 = .ok (.goto 4, 3) := by decide +kernel
theorem dX6_ifStarted_27 : decode cX6_ifStarted 27 = .ok (.iconst 0, 1) := by decide +kernel
theorem dX6_ifStarted_28 : decode cX6_ifStarted 28 = .ok (.invokevirtual 87, 3) := by decide +kernel
theorem dX6_ifStarted_31 : decode cX6_ifStarted 31 = .ok (.aload_n 0, 1) := by decide +kernel
theorem dX6_ifStarted_32 : decode cX6_ifStarted 32 = .ok (.getfield 7, 3) := by decide +kernel
theorem dX6_ifStarted_35 : decode cX6_ifStarted 35 = .ok (.iconst 3, 1) := by decide +kernel
theorem dX6_ifStarted_36 : decode cX6_ifStarted 36 = .ok (.iaload, 1) := by decide +kernel
theorem dX6_ifStarted_37 : decode cX6_ifStarted 37 = .ok (.bipush 10, 2) := by decide +kernel
theorem dX6_ifStarted_39 : decode cX6_ifStarted 39 = .ok (.aload_n 0, 1) := by decide +kernel
theorem dX6_ifStarted_40 : decode cX6_ifStarted 40 = .ok (.invokevirtual 136, 3) := by decide +kernel
theorem dX6_ifStarted_43 : decode cX6_ifStarted 43 = .ok (.iload_n 2, 1) := by decide +kernel
theorem dX6_ifStarted_44 : decode cX6_ifStarted 44 = .ok (.isub, 1) := by decide +kernel
theorem dX6_ifStarted_45 : decode cX6_ifStarted 45 = .ok (.imul, 1) := by decide +kernel
theorem dX6_ifStarted_46 : decode cX6_ifStarted 46 = .ok (.iadd, 1) := by decide +kernel
theorem dX6_ifStarted_47 : decode cX6_ifStarted 47 = .ok (.istore_n 3, 1) := by decide +kernel
theorem dX6_ifStarted_48 : decode cX6_ifStarted 48 = .ok (.aload_n 0, 1) := by decide +kernel
theorem dX6_ifStarted_49 : decode cX6_ifStarted 49 = .ok (.getfield 13, 3) := by decide +kernel
theorem dX6_ifStarted_52 : decode cX6_ifStarted 52 = .ok (.iconst 0, 1) := by decide +kernel
theorem dX6_ifStarted_53 : decode cX6_ifStarted 53 = .ok (.aload_n 0, 1) := by decide +kernel
theorem dX6_ifStarted_54 : decode cX6_ifStarted 54 = .ok (.getfield 7, 3) := by decide +kernel
theorem dX6_ifStarted_57 : decode cX6_ifStarted 57 = .ok (.iconst 0, 1) := by decide +kernel
theorem dX6_ifStarted_58 : decode cX6_ifStarted 58 = .ok (.invokestatic 36, 3) := by decide +kernel
theorem dX6_ifStarted_61 : decode cX6_ifStarted 61 = .ok (.iload_n 3, 1) := by decide +kernel
theorem dX6_ifStarted_62 : decode cX6_ifStarted 62 = .ok (.ireturn, 1) := by decide +kernel
theorem dX6_ifPassed_0 : decode cX6_ifPassed 0 = .ok (.iload_n 1, 1) := by decide +kernel
theorem dX6_ifPassed_1 : decode cX6_ifPassed 1 = .ok (.iconst 1, 1) := by decide +kernel
theorem dX6_ifPassed_2 : decode cX6_ifPassed 2 = .ok (.sipush 500, 3) := by decide +kernel
theorem dX6_ifPassed_5 : decode cX6_ifPassed 5 = .ok (.invokestatic 40, 3) := by decide +kernel
theorem dX6_ifPassed_8 : decode cX6_ifPassed 8 = .ok (.ifCond .eq 12, 3) := by decide +kernel
theorem dX6_ifPassed_11 : decode cX6_ifPassed 11 = .ok (.iload_n 2, 1) := by decide +kernel
theorem dX6_ifPassed_12 : decode cX6_ifPassed 12 = .ok (.iconst 0, 1) := by decide +kernel
theorem dX6_ifPassed_13 : decode cX6_ifPassed 13 = .ok (.iconst 3, 1) := by decide +kernel
theorem dX6_ifPassed_14 : decode cX6_ifPassed 14 = .ok (.invokestatic 40, 3) := by decide +kernel
theorem dX6_ifPassed_17 : decode cX6_ifPassed 17 = .ok (.ifCond .ne 6, 3) := by decide +kernel
theorem dX6_ifPassed_20 : decode cX6_ifPassed 20 = .ok (.bipush (-2), 2) := by decide +kernel
theorem dX6_ifPassed_22 : decode cX6_ifPassed 22 = .ok (.ireturn, 1) := by decide +kernel
theorem dX6_ifPassed_23 : decode cX6_ifPassed 23 = .ok (.aload_n 0, 1) := by decide +kernel
theorem dX6_ifPassed_24 : decode cX6_ifPassed 24 = .ok (.getfield 7, 3) := by decide +kernel
theorem dX6_ifPassed_27 : decode cX6_ifPassed 27 = .ok (.iconst 0, 1) := by decide +kernel
theorem dX6_ifPassed_28 : decode cX6_ifPassed 28 = .ok (.aload_n 0, 1) := by decide +kernel
theorem dX6_ifPassed_29 : decode cX6_ifPassed 29 = .ok (.getfield 13, 3) := by decide +kernel
theorem dX6_ifPassed_32 : decode cX6_ifPassed 32 = .ok (.iconst 0, 1) := by decide +kernel
theorem dX6_ifPassed_33 : decode cX6_ifPassed 33 = .ok (.invokestatic 36, 3) := by decide +kernel
theorem dX6_ifPassed_36 : decode cX6_ifPassed 36 = .ok (.aload_n 0, 1) := by decide +kernel
theorem dX6_ifPassed_37 : decode cX6_ifPassed 37 = .ok (.iload_n 1, 1) := by decide +kernel
theorem dX6_ifPassed_38 : decode cX6_ifPassed 38 = .ok (.invokevirtual 130, 3) := by decide +kernel
theorem dX6_ifPassed_41 : decode cX6_ifPassed 41 = .ok (.istore_n 3, 1) := by decide +kernel
theorem dX6_ifPassed_42 : decode cX6_ifPassed 42 = .ok (.iload_n 2, 1) := by decide +kernel
theorem dX6_ifPassed_43 : decode cX6_ifPassed 43 = .ok (.ifCond .ne 7, 3) := by decide +kernel
theorem dX6_ifPassed_46 : decode cX6_ifPassed 46 = .ok (.iload_n 3, 1) := by decide +kernel
theorem dX6_ifPassed_47 : decode cX6_ifPassed 47 = .ok (.goto 25, 3) := by decide +kernel
theorem dX6_ifPassed_50 : decode cX6_ifPassed 50 = .ok (.iload_n 2, 1) := by decide +kernel
theorem dX6_ifPassed_51 : decode cX6_ifPassed 51 = .ok (.iconst 1, 1) := by decide +kernel
theorem dX6_ifPassed_52 : decode cX6_ifPassed 52 = .ok (.if_icmp .ne 12, 3) := by decide +kernel
theorem dX6_ifPassed_55 : decode cX6_ifPassed 55 = .ok (.aload_n 0, 1) := by decide +kernel
theorem dX6_ifPassed_56 : decode cX6_ifPassed 56 = .ok (.getfield 7, 3) := by decide +kernel
theorem dX6_ifPassed_59 : decode cX6_ifPassed 59 = .ok (.iconst 3, 1) := by decide +kernel
theorem dX6_ifPassed_60 : decode cX6_ifPassed 60 = .ok (.iaload, 1) := by decide +kernel
theorem dX6_ifPassed_61 : decode cX6_ifPassed 61 = .ok (.goto 11, 3) := by decide +kernel
theorem dX6_ifPassed_64 : decode cX6_ifPassed 64 = .ok (.aload_n 0, 1) := by decide +kernel
theorem dX6_ifPassed_65 : decode cX6_ifPassed 65 = .ok (.iload_n 2, 1) := by decide +kernel
theorem dX6_ifPassed_66 : decode cX6_ifPassed 66 = .ok (.iconst 2, 1) := by decide +kernel
theorem dX6_ifPassed_67 : decode cX6_ifPassed 67 = .ok (.isub, 1) := by decide +kernel
theorem dX6_ifPassed_68 : decode cX6_ifPassed 68 = .ok (.iconst 0, 1) := by decide +kernel
theorem dX6_ifPassed_69 : decode cX6_ifPassed 69 = .ok (.invokevirtual 44, 3) := by decide +kernel
theorem dX6_ifPassed_72 : decode cX6_ifPassed 72 = .ok (.istore 4, 2) := by decide +kernel
theorem dX6_ifPassed_74 : decode cX6_ifPassed 74 = .ok (.aload_n 0, 1) := by decide +kernel
theorem dX6_ifPassed_75 : decode cX6_ifPassed 75 = .ok (.getfield 13, 3) := by decide +kernel
theorem dX6_ifPassed_78 : decode cX6_ifPassed 78 = .ok (.iconst 0, 1) := by decide +kernel
theorem dX6_ifPassed_79 : decode cX6_ifPassed 79 = .ok (.aload_n 0, 1) := by decide +kernel
theorem dX6_ifPassed_80 : decode cX6_ifPassed 80 = .ok (.getfield 7, 3) := by decide +kernel
theorem dX6_ifPassed_83 : decode cX6_ifPassed 83 = .ok (.iconst 0, 1) := by decide +kernel
theorem dX6_ifPassed_84 : decode cX6_ifPassed 84 = .ok (.invokestatic 36, 3) := by decide +kernel
theorem dX6_ifPassed_87 : decode cX6_ifPassed 87 = .ok (.iload 4, 2) := by decide +kernel
theorem dX6_ifPassed_89 : decode cX6_ifPassed 89 = .ok (.ireturn, 1) := by decide +kernel
theorem dX6_nextStart_0 : decode cX6_nextStart 0 = .ok (.aload_n 0, 1) := by decide +kernel
theorem dX6_nextStart_1 : decode cX6_nextStart 1 = .ok (.getfield 7, 3) := by decide +kernel
theorem dX6_nextStart_4 : decode cX6_nextStart 4 = .ok (.iconst 0, 1) := by decide +kernel
theorem dX6_nextStart_5 : decode cX6_nextStart 5 = .ok (.aload_n 0, 1) := by decide +kernel
theorem dX6_nextStart_6 : decode cX6_nextStart 6 = .ok (.getfield 13, 3) := by decide +kernel
theorem dX6_nextStart_9 : decode cX6_nextStart 9 = .ok (.iconst 0, 1) := by decide +kernel
theorem dX6_nextStart_10 : decode cX6_nextStart 10 = .ok (.invokestatic 36, 3) := by decide +kernel
theorem dX6_nextStart_13 : decode cX6_nextStart 13 = .ok (.iconst 0, 1) := by decide +kernel
theorem dX6_nextStart_14 : decode cX6_nextStart 14 = .ok (.istore_n 1, 1) := by decide +kernel
theorem dX6_nextStart_15 : decode cX6_nextStart 15 = .ok (.iconst 0, 1) := by decide +kernel
theorem dX6_nextStart_16 : decode cX6_nextStart 16 = .ok (.istore_n 2, 1) := by decide +kernel
theorem dX6_nextStart_17 : decode cX6_nextStart 17 = .ok (.iload_n 2, 1) := by decide +kernel
theorem dX6_nextStart_18 : decode cX6_nextStart 18 = .ok (.ifCond .ne 21, 3) := by decide +kernel
theorem dX6_nextStart_21 : decode cX6_nextStart 21 = .ok (.iload_n 1, 1) := by decide +kernel
theorem dX6_nextStart_22 : decode cX6_nextStart 22 = .ok (.sipush 2000, 3) := by decide +kernel
theorem dX6_nextStart_25 : decode cX6_nextStart 25 = .ok (.if_icmp .ge 14, 3) := by decide +kernel
theorem dX6_nextStart_28 : decode cX6_nextStart 28 = .ok (.aload_n 0, 1) := by decide +kernel
theorem dX6_nextStart_29 : decode cX6_nextStart 29 = .ok (.invokevirtual 90, 3) := by decide +kernel
theorem dX6_nextStart_32 : decode cX6_nextStart 32 = .ok (.istore_n 2, 1) := by decide +kernel
theorem dX6_nextStart_33 : decode cX6_nextStart 33 = .ok (.iinc 1 1, 3) := by decide +kernel
theorem dX6_nextStart_36 : decode cX6_nextStart 36 = .ok (.goto (-19), 3) := by decide +kernel
theorem dX6_nextStart_39 : decode cX6_nextStart 39 = .ok (.aload_n 0, 1) := by decide +kernel
theorem dX6_nextStart_40 : decode cX6_nextStart 40 = .ok (.getfield 13, 3) := by decide +kernel
theorem dX6_nextStart_43 : decode cX6_nextStart 43 = .ok (.iconst 0, 1) := by decide +kernel
theorem dX6_nextStart_44 : decode cX6_nextStart 44 = .ok (.aload_n 0, 1) := by decide +kernel
theorem dX6_nextStart_45 : decode cX6_nextStart 45 = .ok (.getfield 7, 3) := by decide +kernel
theorem dX6_nextStart_48 : decode cX6_nextStart 48 = .ok (.iconst 0, 1) := by decide +kernel
theorem dX6_nextStart_49 : decode cX6_nextStart 49 = .ok (.invokestatic 36, 3) := by decide +kernel
theorem dX6_nextStart_52 : decode cX6_nextStart 52 = .ok (.iload_n 2, 1) := by decide +kernel
theorem dX6_nextStart_53 : decode cX6_nextStart 53 = .ok (.ifCond .eq 7, 3) := by decide +kernel
theorem dX6_nextStart_56 : decode cX6_nextStart 56 = .ok (.iload_n 1, 1) := by decide +kernel
theorem dX6_nextStart_57 : decode cX6_nextStart 57 = .ok (.goto 5, 3) := by decide +kernel
theorem dX6_nextStart_60 : decode cX6_nextStart 60 = .ok (.bipush (-6), 2) := by decide +kernel
theorem dX6_nextStart_62 : decode cX6_nextStart 62 = .ok (.ireturn, 1) := by decide +kernel
theorem dX6_lasts_0 : decode cX6_lasts 0 = .ok (.iload_n 1, 1) := by decide +kernel
theorem dX6_lasts_1 : decode cX6_lasts 1 = .ok (.invokestatic 99, 3) := by decide +kernel
theorem dX6_lasts_4 : decode cX6_lasts 4 = .ok (.ifCond .ne 5, 3) := by decide +kernel
theorem dX6_lasts_7 : decode cX6_lasts 7 = .ok (.iconst (-1), 1) := by decide +kernel
theorem dX6_lasts_8 : decode cX6_lasts 8 = .ok (.ireturn, 1) := by decide +kernel
theorem dX6_lasts_9 : decode cX6_lasts 9 = .ok (.iload_n 2, 1) := by decide +kernel
theorem dX6_lasts_10 : decode cX6_lasts 10 = .ok (.iconst 2, 1) := by decide +kernel
theorem dX6_lasts_11 : decode cX6_lasts 11 = .ok (.bipush 32, 2) := by decide +kernel
theorem dX6_lasts_13 : decode cX6_lasts 13 = .ok (.invokestatic 40, 3) := by decide +kernel
theorem dX6_lasts_16 : decode cX6_lasts 16 = .ok (.ifCond .ne 6, 3) := by decide +kernel
theorem dX6_lasts_19 : decode cX6_lasts 19 = .ok (.bipush (-2), 2) := by decide +kernel
theorem dX6_lasts_21 : decode cX6_lasts 21 = .ok (.ireturn, 1) := by decide +kernel
theorem dX6_lasts_22 : decode cX6_lasts 22 = .ok (.aload_n 0, 1) := by decide +kernel
theorem dX6_lasts_23 : decode cX6_lasts 23 = .ok (.getfield 7, 3) := by decide +kernel
theorem dX6_lasts_26 : decode cX6_lasts 26 = .ok (.iconst 2, 1) := by decide +kernel
theorem dX6_lasts_27 : decode cX6_lasts 27 = .ok (.iaload, 1) := by decide +kernel
theorem dX6_lasts_28 : decode cX6_lasts 28 = .ok (.aload_n 0, 1) := by decide +kernel
theorem dX6_lasts_29 : decode cX6_lasts 29 = .ok (.iload_n 1, 1) := by decide +kernel
theorem dX6_lasts_30 : decode cX6_lasts 30 = .ok (.iload_n 2, 1) := by decide +kernel
theorem dX6_lasts_31 : decode cX6_lasts 31 = .ok (.invokestatic 102, 3) := by decide +kernel
theorem dX6_lasts_34 : decode cX6_lasts 34 = .ok (.invokevirtual 112, 3) := by decide +kernel
theorem dX6_lasts_37 : decode cX6_lasts 37 = .ok (.isub, 1) := by decide +kernel
theorem dX6_lasts_38 : decode cX6_lasts 38 = .ok (.istore_n 3, 1) := by decide +kernel
theorem dX6_lasts_39 : decode cX6_lasts 39 = .ok (.iload_n 3, 1) := by decide +kernel
theorem dX6_lasts_40 : decode cX6_lasts 40 = .ok (.ifCond .ge 7, 3) := by decide +kernel
theorem dX6_lasts_43 : decode cX6_lasts 43 = .ok (.iconst 0, 1) := by decide +kernel
theorem dX6_lasts_44 : decode cX6_lasts 44 = .ok (.goto 4, 3) := by decide +kernel
theorem dX6_lasts_47 : decode cX6_lasts 47 = .ok (.iload_n 3, 1) := by decide +kernel
theorem dX6_lasts_48 : decode cX6_lasts 48 = .ok (.ireturn, 1) := by decide +kernel
theorem dX6_put_0 : decode cX6_put 0 = .ok (.iconst 0, 1) := by decide +kernel
theorem dX6_put_1 : decode cX6_put 1 = .ok (.istore_n 3, 1) := by decide +kernel
theorem dX6_put_2 : decode cX6_put 2 = .ok (.lload_n 1, 1) := by decide +kernel
theorem dX6_put_3 : decode cX6_put 3 = .ok (.lstore 4, 2) := by decide +kernel
theorem dX6_put_5 : decode cX6_put 5 = .ok (.iconst 1, 1) := by decide +kernel
theorem dX6_put_6 : decode cX6_put 6 = .ok (.istore 6, 2) := by decide +kernel
theorem dX6_put_8 : decode cX6_put 8 = .ok (.iload_n 3, 1) := by decide +kernel
theorem dX6_put_9 : decode cX6_put 9 = .ok (.bipush 8, 2) := by decide +kernel
theorem dX6_put_11 : decode cX6_put 11 = .ok (.if_icmp .ge 56, 3) := by decide +kernel
theorem dX6_put_14 : decode cX6_put 14 = .ok (.lload 4, 2) := by decide +kernel
theorem dX6_put_16 : decode cX6_put 16 = .ok (.ldc2_w 139, 3) := by decide +kernel
theorem dX6_put_19 : decode cX6_put 19 = .ok (.land, 1) := by decide +kernel
theorem dX6_put_20 : decode cX6_put 20 = .ok (.lconst 0, 1) := by decide +kernel
theorem dX6_put_21 : decode cX6_put 21 = .ok (.lcmp, 1) := by decide +kernel
theorem dX6_put_22 : decode cX6_put 22 = .ok (.ifCond .eq 45, 3) := by decide +kernel
theorem dX6_put_25 : decode cX6_put 25 = .ok (.iload 6, 2) := by decide +kernel
theorem dX6_put_27 : decode cX6_put 27 = .ok (.ifCond .eq 24, 3) := by decide +kernel
theorem dX6_put_30 : decode cX6_put 30 = .ok (.lload 4, 2) := by decide +kernel
theorem dX6_put_32 : decode cX6_put 32 = .ok (.ldc2_w 139, 3) := by decide +kernel
theorem dX6_put_35 : decode cX6_put 35 = .ok (.land, 1) := by decide +kernel
theorem dX6_put_36 : decode cX6_put 36 = .ok (.l2i, 1) := by decide +kernel
theorem dX6_put_37 : decode cX6_put 37 = .ok (.bipush 33, 2) := by decide +kernel
theorem dX6_put_39 : decode cX6_put 39 = .ok (.bipush 126, 2) := by decide +kernel
theorem dX6_put_41 : decode cX6_put 41 = .ok (.invokestatic 40, 3) := by decide +kernel
theorem dX6_put_44 : decode cX6_put 44 = .ok (.ifCond .eq 7, 3) := by decide +kernel
theorem dX6_put_47 : decode cX6_put 47 = .ok (.iconst 1, 1) := by decide +kernel
theorem dX6_put_48 : decode cX6_put 48 = .ok (.goto 4, 3) := by decide +kernel
theorem dX6_put_51 : decode cX6_put 51 = .ok (.iconst 0, 1) := by decide +kernel
theorem dX6_put_52 : decode cX6_put 52 = .ok (.istore 6, 2) := by decide +kernel
theorem dX6_put_54 : decode cX6_put 54 = .ok (.lload 4, 2) := by decide +kernel
theorem dX6_put_56 : decode cX6_put 56 = .ok (.bipush 8, 2) := by decide +kernel
theorem dX6_put_58 : decode cX6_put 58 = .ok (.lushr, 1) := by decide +kernel
theorem dX6_put_59 : decode cX6_put 59 = .ok (.lstore 4, 2) := by decide +kernel
theorem dX6_put_61 : decode cX6_put 61 = .ok (.iinc 3 1, 3) := by decide +kernel
theorem dX6_put_64 : decode cX6_put 64 = .ok (.goto (-56), 3) := by decide +kernel
theorem dX6_put_67 : decode cX6_put 67 = .ok (.iload_n 3, 1) := by decide +kernel
theorem dX6_put_68 : decode cX6_put 68 = .ok (.ifCond .eq 15, 3) := by decide +kernel
theorem dX6_put_71 : decode cX6_put 71 = .ok (.iload 6, 2) := by decide +kernel
theorem dX6_put_73 : decode cX6_put 73 = .ok (.ifCond .eq 10, 3) := by decide +kernel
theorem dX6_put_76 : decode cX6_put 76 = .ok (.lload 4, 2) := by decide +kernel
theorem dX6_put_78 : decode cX6_put 78 = .ok (.lconst 0, 1) := by decide +kernel
theorem dX6_put_79 : decode cX6_put 79 = .ok (.lcmp, 1) := by decide +kernel
theorem dX6_put_80 : decode cX6_put 80 = .ok (.ifCond .eq 6, 3) := by decide +kernel
theorem dX6_put_83 : decode cX6_put 83 = .ok (.bipush (-2), 2) := by decide +kernel
theorem dX6_put_85 : decode cX6_put 85 = .ok (.ireturn, 1) := by decide +kernel
theorem dX6_put_86 : decode cX6_put 86 = .ok (.aload_n 0, 1) := by decide +kernel
theorem dX6_put_87 : decode cX6_put 87 = .ok (.getfield 124, 3) := by decide +kernel
theorem dX6_put_90 : decode cX6_put 90 = .ok (.iload_n 3, 1) := by decide +kernel
theorem dX6_put_91 : decode cX6_put 91 = .ok (.iadd, 1) := by decide +kernel
theorem dX6_put_92 : decode cX6_put 92 = .ok (.bipush 64, 2) := by decide +kernel
theorem dX6_put_94 : decode cX6_put 94 = .ok (.if_icmp .le 6, 3) := by decide +kernel
theorem dX6_put_97 : decode cX6_put 97 = .ok (.bipush (-4), 2) := by decide +kernel
theorem dX6_put_99 : decode cX6_put 99 = .ok (.ireturn, 1) := by decide +kernel
theorem dX6_put_100 : decode cX6_put 100 = .ok (.iload_n 3, 1) := by decide +kernel
theorem dX6_put_101 : decode cX6_put 101 = .ok (.iconst 1, 1) := by decide +kernel
theorem dX6_put_102 : decode cX6_put 102 = .ok (.isub, 1) := by decide +kernel
theorem dX6_put_103 : decode cX6_put 103 = .ok (.istore 7, 2) := by decide +kernel
theorem dX6_put_105 : decode cX6_put 105 = .ok (.iload 7, 2) := by decide +kernel
theorem dX6_put_107 : decode cX6_put 107 = .ok (.ifCond .lt 40, 3) := by decide +kernel
theorem dX6_put_110 : decode cX6_put 110 = .ok (.aload_n 0, 1) := by decide +kernel
theorem dX6_put_111 : decode cX6_put 111 = .ok (.getfield 25, 3) := by decide +kernel
theorem dX6_put_114 : decode cX6_put 114 = .ok (.aload_n 0, 1) := by decide +kernel
theorem dX6_put_115 : decode cX6_put 115 = .ok (.getfield 124, 3) := by decide +kernel
theorem dX6_put_118 : decode cX6_put 118 = .ok (.lload_n 1, 1) := by decide +kernel
theorem dX6_put_119 : decode cX6_put 119 = .ok (.bipush 8, 2) := by decide +kernel
theorem dX6_put_121 : decode cX6_put 121 = .ok (.iload 7, 2) := by decide +kernel
theorem dX6_put_123 : decode cX6_put 123 = .ok (.imul, 1) := by decide +kernel
theorem dX6_put_124 : decode cX6_put 124 = .ok (.lushr, 1) := by decide +kernel
theorem dX6_put_125 : decode cX6_put 125 = .ok (.ldc2_w 139, 3) := by decide +kernel
theorem dX6_put_128 : decode cX6_put 128 = .ok (.land, 1) := by decide +kernel
theorem dX6_put_129 : decode cX6_put 129 = .ok (.l2i, 1) := by decide +kernel
theorem dX6_put_130 : decode cX6_put 130 = .ok (.iastore, 1) := by decide +kernel
theorem dX6_put_131 : decode cX6_put 131 = .ok (.aload_n 0, 1) := by decide +kernel
theorem dX6_put_132 : decode cX6_put 132 = .ok (.dup, 1) := by decide +kernel
theorem dX6_put_133 : decode cX6_put 133 = .ok (.getfield 124, 3) := by decide +kernel
theorem dX6_put_136 : decode cX6_put 136 = .ok (.iconst 1, 1) := by decide +kernel
theorem dX6_put_137 : decode cX6_put 137 = .ok (.iadd, 1) := by decide +kernel
theorem dX6_put_138 : decode cX6_put 138 = .ok (.putfield 124, 3) := by decide +kernel
theorem dX6_put_141 : decode cX6_put 141 = .ok (.iinc 7 (-1), 3) := by decide +kernel
theorem dX6_put_144 : decode cX6_put 144 = .ok (.goto (-39), 3) := by decide +kernel
theorem dX6_put_147 : decode cX6_put 147 = .ok (.aload_n 0, 1) := by decide +kernel
theorem dX6_put_148 : decode cX6_put 148 = .ok (.getfield 124, 3) := by decide +kernel
theorem dX6_put_151 : decode cX6_put 151 = .ok (.ireturn, 1) := by decide +kernel
theorem dX6_wipe_0 : decode cX6_wipe 0 = .ok (.aload_n 0, 1) := by decide +kernel
theorem dX6_wipe_1 : decode cX6_wipe 1 = .ok (.getfield 124, 3) := by decide +kernel
theorem dX6_wipe_4 : decode cX6_wipe 4 = .ok (.istore_n 1, 1) := by decide +kernel
theorem dX6_wipe_5 : decode cX6_wipe 5 = .ok (.aload_n 0, 1) := by decide +kernel
theorem dX6_wipe_6 : decode cX6_wipe 6 = .ok (.iconst 0, 1) := by decide +kernel
theorem dX6_wipe_7 : decode cX6_wipe 7 = .ok (.putfield 124, 3) := by decide +kernel
theorem dX6_wipe_10 : decode cX6_wipe 10 = .ok (.iload_n 1, 1) := by decide +kernel
theorem dX6_wipe_11 : decode cX6_wipe 11 = .ok (.ireturn, 1) := by decide +kernel
theorem dX6_digitOf_0 : decode cX6_digitOf 0 = .ok (.iload_n 0, 1) := by decide +kernel
theorem dX6_digitOf_1 : decode cX6_digitOf 1 = .ok (.bipush 48, 2) := by decide +kernel
theorem dX6_digitOf_3 : decode cX6_digitOf 3 = .ok (.bipush 57, 2) := by decide +kernel
theorem dX6_digitOf_5 : decode cX6_digitOf 5 = .ok (.invokestatic 40, 3) := by decide +kernel
theorem dX6_digitOf_8 : decode cX6_digitOf 8 = .ok (.ifCond .eq 10, 3) := by decide +kernel
theorem dX6_digitOf_11 : decode cX6_digitOf 11 = .ok (.iload_n 0, 1) := by decide +kernel
theorem dX6_digitOf_12 : decode cX6_digitOf 12 = .ok (.bipush 48, 2) := by decide +kernel
theorem dX6_digitOf_14 : decode cX6_digitOf 14 = .ok (.isub, 1) := by decide +kernel
theorem dX6_digitOf_15 : decode cX6_digitOf 15 = .ok (.goto 26, 3) := by decide +kernel
theorem dX6_digitOf_18 : decode cX6_digitOf 18 = .ok (.iload_n 0, 1) := by decide +kernel
theorem dX6_digitOf_19 : decode cX6_digitOf 19 = .ok (.bipush 97, 2) := by decide +kernel
theorem dX6_digitOf_21 : decode cX6_digitOf 21 = .ok (.bipush 102, 2) := by decide +kernel
theorem dX6_digitOf_23 : decode cX6_digitOf 23 = .ok (.invokestatic 40, 3) := by decide +kernel
theorem dX6_digitOf_26 : decode cX6_digitOf 26 = .ok (.ifCond .eq 13, 3) := by decide +kernel
theorem dX6_digitOf_29 : decode cX6_digitOf 29 = .ok (.iload_n 0, 1) := by decide +kernel
theorem dX6_digitOf_30 : decode cX6_digitOf 30 = .ok (.bipush 97, 2) := by decide +kernel
theorem dX6_digitOf_32 : decode cX6_digitOf 32 = .ok (.isub, 1) := by decide +kernel
theorem dX6_digitOf_33 : decode cX6_digitOf 33 = .ok (.bipush 10, 2) := by decide +kernel
theorem dX6_digitOf_35 : decode cX6_digitOf 35 = .ok (.iadd, 1) := by decide +kernel
theorem dX6_digitOf_36 : decode cX6_digitOf 36 = .ok (.goto 5, 3) := by decide +kernel
theorem dX6_digitOf_39 : decode cX6_digitOf 39 = .ok (.bipush (-6), 2) := by decide +kernel
theorem dX6_digitOf_41 : decode cX6_digitOf 41 = .ok (.ireturn, 1) := by decide +kernel
theorem dX6_padWord_0 : decode cX6_padWord 0 = .ok (.bipush 16, 2) := by decide +kernel
theorem dX6_padWord_2 : decode cX6_padWord 2 = .ok (.aload_n 0, 1) := by decide +kernel
theorem dX6_padWord_3 : decode cX6_padWord 3 = .ok (.getfield 25, 3) := by decide +kernel
theorem dX6_padWord_6 : decode cX6_padWord 6 = .ok (.iconst 2, 1) := by decide +kernel
theorem dX6_padWord_7 : decode cX6_padWord 7 = .ok (.iload_n 1, 1) := by decide +kernel
theorem dX6_padWord_8 : decode cX6_padWord 8 = .ok (.imul, 1) := by decide +kernel
theorem dX6_padWord_9 : decode cX6_padWord 9 = .ok (.iaload, 1) := by decide +kernel
theorem dX6_padWord_10 : decode cX6_padWord 10 = .ok (.invokestatic 141, 3) := by decide +kernel
theorem dX6_padWord_13 : decode cX6_padWord 13 = .ok (.imul, 1) := by decide +kernel
theorem dX6_padWord_14 : decode cX6_padWord 14 = .ok (.aload_n 0, 1) := by decide +kernel
theorem dX6_padWord_15 : decode cX6_padWord 15 = .ok (.getfield 25, 3) := by decide +kernel
theorem dX6_padWord_18 : decode cX6_padWord 18 = .ok (.iconst 2, 1) := by decide +kernel
theorem dX6_padWord_19 : decode cX6_padWord 19 = .ok (.iload_n 1, 1) := by decide +kernel
theorem dX6_padWord_20 : decode cX6_padWord 20 = .ok (.imul, 1) := by decide +kernel
theorem dX6_padWord_21 : decode cX6_padWord 21 = .ok (.iconst 1, 1) := by decide +kernel
theorem dX6_padWord_22 : decode cX6_padWord 22 = .ok (.iadd, 1) := by decide +kernel
theorem dX6_padWord_23 : decode cX6_padWord 23 = .ok (.iaload, 1) := by decide +kernel
theorem dX6_padWord_24 : decode cX6_padWord 24 = .ok (.invokestatic 141, 3) := by decide +kernel
theorem dX6_padWord_27 : decode cX6_padWord 27 = .ok (.iadd, 1) := by decide +kernel
theorem dX6_padWord_28 : decode cX6_padWord 28 = .ok (.ireturn, 1) := by decide +kernel
theorem dX6_findFault_0 : decode cX6_findFault 0 = .ok (.iconst 0, 1) := by decide +kernel
theorem dX6_findFault_1 : decode cX6_findFault 1 = .ok (.istore_n 1, 1) := by decide +kernel
theorem dX6_findFault_2 : decode cX6_findFault 2 = .ok (.iload_n 1, 1) := by decide +kernel
theorem dX6_findFault_3 : decode cX6_findFault 3 = .ok (.aload_n 0, 1) := by decide +kernel
theorem dX6_findFault_4 : decode cX6_findFault 4 = .ok (.getfield 124, 3) := by decide +kernel
theorem dX6_findFault_7 : decode cX6_findFault 7 = .ok (.if_icmp .ge 25, 3) := by decide +kernel
theorem dX6_findFault_10 : decode cX6_findFault 10 = .ok (.aload_n 0, 1) := by decide +kernel
theorem dX6_findFault_11 : decode cX6_findFault 11 = .ok (.getfield 25, 3) := by decide +kernel
theorem dX6_findFault_14 : decode cX6_findFault 14 = .ok (.iload_n 1, 1) := by decide +kernel
theorem dX6_findFault_15 : decode cX6_findFault 15 = .ok (.iaload, 1) := by decide +kernel
theorem dX6_findFault_16 : decode cX6_findFault 16 = .ok (.invokestatic 141, 3) := by decide +kernel
theorem dX6_findFault_19 : decode cX6_findFault 19 = .ok (.bipush (-6), 2) := by decide +kernel
theorem dX6_findFault_21 : decode cX6_findFault 21 = .ok (.if_icmp .ne 5, 3) := by decide +kernel
theorem dX6_findFault_24 : decode cX6_findFault 24 = .ok (.iload_n 1, 1) := by decide +kernel
theorem dX6_findFault_25 : decode cX6_findFault 25 = .ok (.ireturn, 1) := by decide +kernel
theorem dX6_findFault_26 : decode cX6_findFault 26 = .ok (.iinc 1 1, 3) := by decide +kernel
theorem dX6_findFault_29 : decode cX6_findFault 29 = .ok (.goto (-27), 3) := by decide +kernel
theorem dX6_findFault_32 : decode cX6_findFault 32 = .ok (.aload_n 0, 1) := by decide +kernel
theorem dX6_findFault_33 : decode cX6_findFault 33 = .ok (.getfield 124, 3) := by decide +kernel
theorem dX6_findFault_36 : decode cX6_findFault 36 = .ok (.ifCond .le 17, 3) := by decide +kernel
theorem dX6_findFault_39 : decode cX6_findFault 39 = .ok (.aload_n 0, 1) := by decide +kernel
theorem dX6_findFault_40 : decode cX6_findFault 40 = .ok (.getfield 124, 3) := by decide +kernel
theorem dX6_findFault_43 : decode cX6_findFault 43 = .ok (.iconst 2, 1) := by decide +kernel
theorem dX6_findFault_44 : decode cX6_findFault 44 = .ok (.irem, 1) := by decide +kernel
theorem dX6_findFault_45 : decode cX6_findFault 45 = .ok (.ifCond .ne 8, 3) := by decide +kernel
theorem dX6_findFault_48 : decode cX6_findFault 48 = .ok (.bipush (-6), 2) := by decide +kernel
theorem dX6_findFault_50 : decode cX6_findFault 50 = .ok (.goto 7, 3) := by decide +kernel
theorem dX6_findFault_53 : decode cX6_findFault 53 = .ok (.aload_n 0, 1) := by decide +kernel
theorem dX6_findFault_54 : decode cX6_findFault 54 = .ok (.getfield 124, 3) := by decide +kernel
theorem dX6_findFault_57 : decode cX6_findFault 57 = .ok (.ireturn, 1) := by decide +kernel
theorem dX6_fault_0 : decode cX6_fault 0 = .ok (.aload_n 0, 1) := by decide +kernel
theorem dX6_fault_1 : decode cX6_fault 1 = .ok (.invokevirtual 121, 3) := by decide +kernel
theorem dX6_fault_4 : decode cX6_fault 4 = .ok (.ireturn, 1) := by decide +kernel
theorem dX6_undo_0 : decode cX6_undo 0 = .ok (.aload_n 0, 1) := by decide +kernel
theorem dX6_undo_1 : decode cX6_undo 1 = .ok (.getfield 32, 3) := by decide +kernel
theorem dX6_undo_4 : decode cX6_undo 4 = .ok (.ifCond .ne 6, 3) := by decide +kernel
theorem dX6_undo_7 : decode cX6_undo 7 = .ok (.bipush (-5), 2) := by decide +kernel
theorem dX6_undo_9 : decode cX6_undo 9 = .ok (.ireturn, 1) := by decide +kernel
theorem dX6_undo_10 : decode cX6_undo 10 = .ok (.aload_n 0, 1) := by decide +kernel
theorem dX6_undo_11 : decode cX6_undo 11 = .ok (.dup, 1) := by decide +kernel
theorem dX6_undo_12 : decode cX6_undo 12 = .ok (.getfield 32, 3) := by decide +kernel
theorem dX6_undo_15 : decode cX6_undo 15 = .ok (.iconst 1, 1) := by decide +kernel
theorem dX6_undo_16 : decode cX6_undo 16 = .ok (.isub, 1) := by decide +kernel
theorem dX6_undo_17 : decode cX6_undo 17 = .ok (.putfield 32, 3) := by decide +kernel
theorem dX6_undo_20 : decode cX6_undo 20 = .ok (.aload_n 0, 1) := by decide +kernel
theorem dX6_undo_21 : decode cX6_undo 21 = .ok (.getfield 16, 3) := by decide +kernel
theorem dX6_undo_24 : decode cX6_undo 24 = .ok (.aload_n 0, 1) := by decide +kernel
theorem dX6_undo_25 : decode cX6_undo 25 = .ok (.getfield 32, 3) := by decide +kernel
theorem dX6_undo_28 : decode cX6_undo 28 = .ok (.sipush 139, 3) := by decide +kernel
theorem dX6_undo_31 : decode cX6_undo 31 = .ok (.imul, 1) := by decide +kernel
theorem dX6_undo_32 : decode cX6_undo 32 = .ok (.aload_n 0, 1) := by decide +kernel
theorem dX6_undo_33 : decode cX6_undo 33 = .ok (.getfield 7, 3) := by decide +kernel
theorem dX6_undo_36 : decode cX6_undo 36 = .ok (.iconst 0, 1) := by decide +kernel
theorem dX6_undo_37 : decode cX6_undo 37 = .ok (.invokestatic 36, 3) := by decide +kernel
theorem dX6_undo_40 : decode cX6_undo 40 = .ok (.aload_n 0, 1) := by decide +kernel
theorem dX6_undo_41 : decode cX6_undo 41 = .ok (.getfield 32, 3) := by decide +kernel
theorem dX6_undo_44 : decode cX6_undo 44 = .ok (.ireturn, 1) := by decide +kernel
theorem dX6_save_0 : decode cX6_save 0 = .ok (.iload_n 1, 1) := by decide +kernel
theorem dX6_save_1 : decode cX6_save 1 = .ok (.iconst 0, 1) := by decide +kernel
theorem dX6_save_2 : decode cX6_save 2 = .ok (.iconst 1, 1) := by decide +kernel
theorem dX6_save_3 : decode cX6_save 3 = .ok (.invokestatic 40, 3) := by decide +kernel
theorem dX6_save_6 : decode cX6_save 6 = .ok (.ifCond .ne 6, 3) := by decide +kernel
theorem dX6_save_9 : decode cX6_save 9 = .ok (.bipush (-2), 2) := by decide +kernel
theorem dX6_save_11 : decode cX6_save 11 = .ok (.ireturn, 1) := by decide +kernel
theorem dX6_save_12 : decode cX6_save 12 = .ok (.aload_n 0, 1) := by decide +kernel
theorem dX6_save_13 : decode cX6_save 13 = .ok (.getfield 7, 3) := by decide +kernel
theorem dX6_save_16 : decode cX6_save 16 = .ok (.iconst 0, 1) := by decide +kernel
theorem dX6_save_17 : decode cX6_save 17 = .ok (.aload_n 0, 1) := by decide +kernel
theorem dX6_save_18 : decode cX6_save 18 = .ok (.getfield 19, 3) := by decide +kernel
theorem dX6_save_21 : decode cX6_save 21 = .ok (.sipush 139, 3) := by decide +kernel
theorem dX6_save_24 : decode cX6_save 24 = .ok (.iload_n 1, 1) := by decide +kernel
theorem dX6_save_25 : decode cX6_save 25 = .ok (.imul, 1) := by decide +kernel
theorem dX6_save_26 : decode cX6_save 26 = .ok (.invokestatic 36, 3) := by decide +kernel
theorem dX6_save_29 : decode cX6_save 29 = .ok (.aload_n 0, 1) := by decide +kernel
theorem dX6_save_30 : decode cX6_save 30 = .ok (.getfield 22, 3) := by decide +kernel
theorem dX6_save_33 : decode cX6_save 33 = .ok (.iload_n 1, 1) := by decide +kernel
theorem dX6_save_34 : decode cX6_save 34 = .ok (.iconst 1, 1) := by decide +kernel
theorem dX6_save_35 : decode cX6_save 35 = .ok (.iastore, 1) := by decide +kernel
theorem dX6_save_36 : decode cX6_save 36 = .ok (.aload_n 0, 1) := by decide +kernel
theorem dX6_save_37 : decode cX6_save 37 = .ok (.getfield 7, 3) := by decide +kernel
theorem dX6_save_40 : decode cX6_save 40 = .ok (.iconst 3, 1) := by decide +kernel
theorem dX6_save_41 : decode cX6_save 41 = .ok (.iaload, 1) := by decide +kernel
theorem dX6_save_42 : decode cX6_save 42 = .ok (.ireturn, 1) := by decide +kernel
theorem dX6_restore_0 : decode cX6_restore 0 = .ok (.iload_n 1, 1) := by decide +kernel
theorem dX6_restore_1 : decode cX6_restore 1 = .ok (.iconst 0, 1) := by decide +kernel
theorem dX6_restore_2 : decode cX6_restore 2 = .ok (.iconst 1, 1) := by decide +kernel
theorem dX6_restore_3 : decode cX6_restore 3 = .ok (.invokestatic 40, 3) := by decide +kernel
theorem dX6_restore_6 : decode cX6_restore 6 = .ok (.ifCond .ne 6, 3) := by decide +kernel
theorem dX6_restore_9 : decode cX6_restore 9 = .ok (.bipush (-2), 2) := by decide +kernel
theorem dX6_restore_11 : decode cX6_restore 11 = .ok (.ireturn, 1) := by decide +kernel
theorem dX6_restore_12 : decode cX6_restore 12 = .ok (.aload_n 0, 1) := by decide +kernel
theorem dX6_restore_13 : decode cX6_restore 13 = .ok (.getfield 22, 3) := by decide +kernel
theorem dX6_restore_16 : decode cX6_restore 16 = .ok (.iload_n 1, 1) := by decide +kernel
theorem dX6_restore_17 : decode cX6_restore 17 = .ok (.iaload, 1) := by decide +kernel
theorem dX6_restore_18 : decode cX6_restore 18 = .ok (.ifCond .ne 6, 3) := by decide +kernel
theorem dX6_restore_21 : decode cX6_restore 21 = .ok (.bipush (-5), 2) := by decide +kernel
theorem dX6_restore_23 : decode cX6_restore 23 = .ok (.ireturn, 1) := by decide +kernel
theorem dX6_restore_24 : decode cX6_restore 24 = .ok (.aload_n 0, 1) := by decide +kernel
theorem dX6_restore_25 : decode cX6_restore 25 = .ok (.invokevirtual 96, 3) := by decide +kernel
theorem dX6_restore_28 : decode cX6_restore 28 = .ok (.aload_n 0, 1) := by decide +kernel
theorem dX6_restore_29 : decode cX6_restore 29 = .ok (.getfield 19, 3) := by decide +kernel
theorem dX6_restore_32 : decode cX6_restore 32 = .ok (.sipush 139, 3) := by decide +kernel
theorem dX6_restore_35 : decode cX6_restore 35 = .ok (.iload_n 1, 1) := by decide +kernel
theorem dX6_restore_36 : decode cX6_restore 36 = .ok (.imul, 1) := by decide +kernel
theorem dX6_restore_37 : decode cX6_restore 37 = .ok (.aload_n 0, 1) := by decide +kernel
theorem dX6_restore_38 : decode cX6_restore 38 = .ok (.getfield 7, 3) := by decide +kernel
theorem dX6_restore_41 : decode cX6_restore 41 = .ok (.iconst 0, 1) := by decide +kernel
theorem dX6_restore_42 : decode cX6_restore 42 = .ok (.invokestatic 36, 3) := by decide +kernel
theorem dX6_restore_45 : decode cX6_restore 45 = .ok (.aload_n 0, 1) := by decide +kernel
theorem dX6_restore_46 : decode cX6_restore 46 = .ok (.getfield 7, 3) := by decide +kernel
theorem dX6_restore_49 : decode cX6_restore 49 = .ok (.iconst 3, 1) := by decide +kernel
theorem dX6_restore_50 : decode cX6_restore 50 = .ok (.iaload, 1) := by decide +kernel
theorem dX6_restore_51 : decode cX6_restore 51 = .ok (.ireturn, 1) := by decide +kernel
end
section
theorem dL_law_0 : decode cL_law 0 = .ok (.new 7, 3) := by decide +kernel
theorem dL_law_3 : decode cL_law 3 = .ok (.dup, 1) := by decide +kernel
theorem dL_law_4 : decode cL_law 4 = .ok (.invokespecial 9, 3) := by decide +kernel
theorem dL_law_7 : decode cL_law 7 = .ok (.astore_n 1, 1) := by decide +kernel
theorem dL_law_8 : decode cL_law 8 = .ok (.new 10, 3) := by decide +kernel
theorem dL_law_11 : decode cL_law 11 = .ok (.dup, 1) := by decide +kernel
theorem dL_law_12 : decode cL_law 12 = .ok (.invokespecial 12, 3) := by decide +kernel
theorem dL_law_15 : decode cL_law 15 = .ok (.astore_n 2, 1) := by decide +kernel
theorem dL_law_16 : decode cL_law 16 = .ok (.iconst 0, 1) := by decide +kernel
theorem dL_law_17 : decode cL_law 17 = .ok (.istore_n 3, 1) := by decide +kernel
theorem dL_law_18 : decode cL_law 18 = .ok (.iload_n 3, 1) := by decide +kernel
theorem dL_law_19 : decode cL_law 19 = .ok (.aload_n 0, 1) := by decide +kernel
theorem dL_law_20 : decode cL_law 20 = .ok (.arraylength, 1) := by decide +kernel
theorem dL_law_21 : decode cL_law 21 = .ok (.iconst 5, 1) := by decide +kernel
theorem dL_law_22 : decode cL_law 22 = .ok (.isub, 1) := by decide +kernel
theorem dL_law_23 : decode cL_law 23 = .ok (.if_icmp .gt 848, 3) := by decide +kernel
theorem dL_law_26 : decode cL_law 26 = .ok (.aload_n 0, 1) := by decide +kernel
theorem dL_law_27 : decode cL_law 27 = .ok (.iload_n 3, 1) := by decide +kernel
theorem dL_law_28 : decode cL_law 28 = .ok (.iaload, 1) := by decide +kernel
theorem dL_law_29 : decode cL_law 29 = .ok (.bipush 31, 2) := by decide +kernel
theorem dL_law_31 : decode cL_law 31 = .ok (.iand, 1) := by decide +kernel
theorem dL_law_32 : decode cL_law 32 = .ok (.tableswitch 833 0 24 #[116, 149, 202, 235, 258, 281, 324, 347, 386, 409, 442, 475, 508, 541, 564, 577, 616, 649, 662, 695, 748, 761, 774, 787, 810], 116) := by decide +kernel
theorem dL_law_148 : decode cL_law 148 = .ok (.aload_n 1, 1) := by decide +kernel
theorem dL_law_149 : decode cL_law 149 = .ok (.aload_n 0, 1) := by decide +kernel
theorem dL_law_150 : decode cL_law 150 = .ok (.iload_n 3, 1) := by decide +kernel
theorem dL_law_151 : decode cL_law 151 = .ok (.iconst 1, 1) := by decide +kernel
theorem dL_law_152 : decode cL_law 152 = .ok (.iadd, 1) := by decide +kernel
theorem dL_law_153 : decode cL_law 153 = .ok (.iaload, 1) := by decide +kernel
theorem dL_law_154 : decode cL_law 154 = .ok (.aload_n 0, 1) := by decide +kernel
theorem dL_law_155 : decode cL_law 155 = .ok (.iload_n 3, 1) := by decide +kernel
theorem dL_law_156 : decode cL_law 156 = .ok (.iconst 2, 1) := by decide +kernel
theorem dL_law_157 : decode cL_law 157 = .ok (.iadd, 1) := by decide +kernel
theorem dL_law_158 : decode cL_law 158 = .ok (.iaload, 1) := by decide +kernel
theorem dL_law_159 : decode cL_law 159 = .ok (.invokevirtual 13, 3) := by decide +kernel
theorem dL_law_162 : decode cL_law 162 = .ok (.aload_n 2, 1) := by decide +kernel
theorem dL_law_163 : decode cL_law 163 = .ok (.aload_n 0, 1) := by decide +kernel
theorem dL_law_164 : decode cL_law 164 = .ok (.iload_n 3, 1) := by decide +kernel
theorem dL_law_165 : decode cL_law 165 = .ok (.iconst 1, 1) := by decide +kernel
theorem dL_law_166 : decode cL_law 166 = .ok (.iadd, 1) := by decide +kernel
theorem dL_law_167 : decode cL_law 167 = .ok (.iaload, 1) := by decide +kernel
theorem dL_law_168 : decode cL_law 168 = .ok (.aload_n 0, 1) := by decide +kernel
theorem dL_law_169 : decode cL_law 169 = .ok (.iload_n 3, 1) := by decide +kernel
theorem dL_law_170 : decode cL_law 170 = .ok (.iconst 2, 1) := by decide +kernel
theorem dL_law_171 : decode cL_law 171 = .ok (.iadd, 1) := by decide +kernel
theorem dL_law_172 : decode cL_law 172 = .ok (.iaload, 1) := by decide +kernel
theorem dL_law_173 : decode cL_law 173 = .ok (.invokevirtual 17, 3) := by decide +kernel
theorem dL_law_176 : decode cL_law 176 = .ok (.if_icmp .eq 689, 3) := by decide +kernel
theorem dL_law_179 : decode cL_law 179 = .ok (.iconst 0, 1) := by decide +kernel
theorem dL_law_180 : decode cL_law 180 = .ok (.ireturn, 1) := by decide +kernel
theorem dL_law_181 : decode cL_law 181 = .ok (.aload_n 1, 1) := by decide +kernel
theorem dL_law_182 : decode cL_law 182 = .ok (.aload_n 0, 1) := by decide +kernel
theorem dL_law_183 : decode cL_law 183 = .ok (.iload_n 3, 1) := by decide +kernel
theorem dL_law_184 : decode cL_law 184 = .ok (.iconst 1, 1) := by decide +kernel
theorem dL_law_185 : decode cL_law 185 = .ok (.iadd, 1) := by decide +kernel
theorem dL_law_186 : decode cL_law 186 = .ok (.iaload, 1) := by decide +kernel
theorem dL_law_187 : decode cL_law 187 = .ok (.aload_n 0, 1) := by decide +kernel
theorem dL_law_188 : decode cL_law 188 = .ok (.iload_n 3, 1) := by decide +kernel
theorem dL_law_189 : decode cL_law 189 = .ok (.iconst 2, 1) := by decide +kernel
theorem dL_law_190 : decode cL_law 190 = .ok (.iadd, 1) := by decide +kernel
theorem dL_law_191 : decode cL_law 191 = .ok (.iaload, 1) := by decide +kernel
theorem dL_law_192 : decode cL_law 192 = .ok (.aload_n 0, 1) := by decide +kernel
theorem dL_law_193 : decode cL_law 193 = .ok (.iload_n 3, 1) := by decide +kernel
theorem dL_law_194 : decode cL_law 194 = .ok (.iconst 3, 1) := by decide +kernel
theorem dL_law_195 : decode cL_law 195 = .ok (.iadd, 1) := by decide +kernel
theorem dL_law_196 : decode cL_law 196 = .ok (.iaload, 1) := by decide +kernel
theorem dL_law_197 : decode cL_law 197 = .ok (.aload_n 0, 1) := by decide +kernel
theorem dL_law_198 : decode cL_law 198 = .ok (.iload_n 3, 1) := by decide +kernel
theorem dL_law_199 : decode cL_law 199 = .ok (.iconst 4, 1) := by decide +kernel
theorem dL_law_200 : decode cL_law 200 = .ok (.iadd, 1) := by decide +kernel
theorem dL_law_201 : decode cL_law 201 = .ok (.iaload, 1) := by decide +kernel
theorem dL_law_202 : decode cL_law 202 = .ok (.invokevirtual 18, 3) := by decide +kernel
theorem dL_law_205 : decode cL_law 205 = .ok (.aload_n 2, 1) := by decide +kernel
theorem dL_law_206 : decode cL_law 206 = .ok (.aload_n 0, 1) := by decide +kernel
theorem dL_law_207 : decode cL_law 207 = .ok (.iload_n 3, 1) := by decide +kernel
theorem dL_law_208 : decode cL_law 208 = .ok (.iconst 1, 1) := by decide +kernel
theorem dL_law_209 : decode cL_law 209 = .ok (.iadd, 1) := by decide +kernel
theorem dL_law_210 : decode cL_law 210 = .ok (.iaload, 1) := by decide +kernel
theorem dL_law_211 : decode cL_law 211 = .ok (.aload_n 0, 1) := by decide +kernel
theorem dL_law_212 : decode cL_law 212 = .ok (.iload_n 3, 1) := by decide +kernel
theorem dL_law_213 : decode cL_law 213 = .ok (.iconst 2, 1) := by decide +kernel
theorem dL_law_214 : decode cL_law 214 = .ok (.iadd, 1) := by decide +kernel
theorem dL_law_215 : decode cL_law 215 = .ok (.iaload, 1) := by decide +kernel
theorem dL_law_216 : decode cL_law 216 = .ok (.aload_n 0, 1) := by decide +kernel
theorem dL_law_217 : decode cL_law 217 = .ok (.iload_n 3, 1) := by decide +kernel
theorem dL_law_218 : decode cL_law 218 = .ok (.iconst 3, 1) := by decide +kernel
theorem dL_law_219 : decode cL_law 219 = .ok (.iadd, 1) := by decide +kernel
theorem dL_law_220 : decode cL_law 220 = .ok (.iaload, 1) := by decide +kernel
theorem dL_law_221 : decode cL_law 221 = .ok (.aload_n 0, 1) := by decide +kernel
theorem dL_law_222 : decode cL_law 222 = .ok (.iload_n 3, 1) := by decide +kernel
theorem dL_law_223 : decode cL_law 223 = .ok (.iconst 4, 1) := by decide +kernel
theorem dL_law_224 : decode cL_law 224 = .ok (.iadd, 1) := by decide +kernel
theorem dL_law_225 : decode cL_law 225 = .ok (.iaload, 1) := by decide +kernel
theorem dL_law_226 : decode cL_law 226 = .ok (.invokevirtual 22, 3) := by decide +kernel
theorem dL_law_229 : decode cL_law 229 = .ok (.if_icmp .eq 636, 3) := by decide +kernel
theorem dL_law_232 : decode cL_law 232 = .ok (.iconst 0, 1) := by decide +kernel
theorem dL_law_233 : decode cL_law 233 = .ok (.ireturn, 1) := by decide +kernel
theorem dL_law_234 : decode cL_law 234 = .ok (.aload_n 1, 1) := by decide +kernel
theorem dL_law_235 : decode cL_law 235 = .ok (.aload_n 0, 1) := by decide +kernel
theorem dL_law_236 : decode cL_law 236 = .ok (.iload_n 3, 1) := by decide +kernel
theorem dL_law_237 : decode cL_law 237 = .ok (.iconst 1, 1) := by decide +kernel
theorem dL_law_238 : decode cL_law 238 = .ok (.iadd, 1) := by decide +kernel
theorem dL_law_239 : decode cL_law 239 = .ok (.iaload, 1) := by decide +kernel
theorem dL_law_240 : decode cL_law 240 = .ok (.aload_n 0, 1) := by decide +kernel
theorem dL_law_241 : decode cL_law 241 = .ok (.iload_n 3, 1) := by decide +kernel
theorem dL_law_242 : decode cL_law 242 = .ok (.iconst 2, 1) := by decide +kernel
theorem dL_law_243 : decode cL_law 243 = .ok (.iadd, 1) := by decide +kernel
theorem dL_law_244 : decode cL_law 244 = .ok (.iaload, 1) := by decide +kernel
theorem dL_law_245 : decode cL_law 245 = .ok (.invokevirtual 23, 3) := by decide +kernel
theorem dL_law_248 : decode cL_law 248 = .ok (.aload_n 2, 1) := by decide +kernel
theorem dL_law_249 : decode cL_law 249 = .ok (.aload_n 0, 1) := by decide +kernel
theorem dL_law_250 : decode cL_law 250 = .ok (.iload_n 3, 1) := by decide +kernel
theorem dL_law_251 : decode cL_law 251 = .ok (.iconst 1, 1) := by decide +kernel
theorem dL_law_252 : decode cL_law 252 = .ok (.iadd, 1) := by decide +kernel
theorem dL_law_253 : decode cL_law 253 = .ok (.iaload, 1) := by decide +kernel
theorem dL_law_254 : decode cL_law 254 = .ok (.aload_n 0, 1) := by decide +kernel
theorem dL_law_255 : decode cL_law 255 = .ok (.iload_n 3, 1) := by decide +kernel
theorem dL_law_256 : decode cL_law 256 = .ok (.iconst 2, 1) := by decide +kernel
theorem dL_law_257 : decode cL_law 257 = .ok (.iadd, 1) := by decide +kernel
theorem dL_law_258 : decode cL_law 258 = .ok (.iaload, 1) := by decide +kernel
theorem dL_law_259 : decode cL_law 259 = .ok (.invokevirtual 26, 3) := by decide +kernel
theorem dL_law_262 : decode cL_law 262 = .ok (.if_icmp .eq 603, 3) := by decide +kernel
theorem dL_law_265 : decode cL_law 265 = .ok (.iconst 0, 1) := by decide +kernel
theorem dL_law_266 : decode cL_law 266 = .ok (.ireturn, 1) := by decide +kernel
theorem dL_law_267 : decode cL_law 267 = .ok (.aload_n 1, 1) := by decide +kernel
theorem dL_law_268 : decode cL_law 268 = .ok (.aload_n 0, 1) := by decide +kernel
theorem dL_law_269 : decode cL_law 269 = .ok (.iload_n 3, 1) := by decide +kernel
theorem dL_law_270 : decode cL_law 270 = .ok (.iconst 1, 1) := by decide +kernel
theorem dL_law_271 : decode cL_law 271 = .ok (.iadd, 1) := by decide +kernel
theorem dL_law_272 : decode cL_law 272 = .ok (.iaload, 1) := by decide +kernel
theorem dL_law_273 : decode cL_law 273 = .ok (.invokevirtual 27, 3) := by decide +kernel
theorem dL_law_276 : decode cL_law 276 = .ok (.aload_n 2, 1) := by decide +kernel
theorem dL_law_277 : decode cL_law 277 = .ok (.aload_n 0, 1) := by decide +kernel
theorem dL_law_278 : decode cL_law 278 = .ok (.iload_n 3, 1) := by decide +kernel
theorem dL_law_279 : decode cL_law 279 = .ok (.iconst 1, 1) := by decide +kernel
theorem dL_law_280 : decode cL_law 280 = .ok (.iadd, 1) := by decide +kernel
theorem dL_law_281 : decode cL_law 281 = .ok (.iaload, 1) := by decide +kernel
theorem dL_law_282 : decode cL_law 282 = .ok (.invokevirtual 31, 3) := by decide +kernel
theorem dL_law_285 : decode cL_law 285 = .ok (.if_icmp .eq 580, 3) := by decide +kernel
theorem dL_law_288 : decode cL_law 288 = .ok (.iconst 0, 1) := by decide +kernel
theorem dL_law_289 : decode cL_law 289 = .ok (.ireturn, 1) := by decide +kernel
theorem dL_law_290 : decode cL_law 290 = .ok (.aload_n 1, 1) := by decide +kernel
theorem dL_law_291 : decode cL_law 291 = .ok (.aload_n 0, 1) := by decide +kernel
theorem dL_law_292 : decode cL_law 292 = .ok (.iload_n 3, 1) := by decide +kernel
theorem dL_law_293 : decode cL_law 293 = .ok (.iconst 1, 1) := by decide +kernel
theorem dL_law_294 : decode cL_law 294 = .ok (.iadd, 1) := by decide +kernel
theorem dL_law_295 : decode cL_law 295 = .ok (.iaload, 1) := by decide +kernel
theorem dL_law_296 : decode cL_law 296 = .ok (.invokevirtual 32, 3) := by decide +kernel
theorem dL_law_299 : decode cL_law 299 = .ok (.aload_n 2, 1) := by decide +kernel
theorem dL_law_300 : decode cL_law 300 = .ok (.aload_n 0, 1) := by decide +kernel
theorem dL_law_301 : decode cL_law 301 = .ok (.iload_n 3, 1) := by decide +kernel
theorem dL_law_302 : decode cL_law 302 = .ok (.iconst 1, 1) := by decide +kernel
theorem dL_law_303 : decode cL_law 303 = .ok (.iadd, 1) := by decide +kernel
theorem dL_law_304 : decode cL_law 304 = .ok (.iaload, 1) := by decide +kernel
theorem dL_law_305 : decode cL_law 305 = .ok (.invokevirtual 35, 3) := by decide +kernel
theorem dL_law_308 : decode cL_law 308 = .ok (.if_icmp .eq 557, 3) := by decide +kernel
theorem dL_law_311 : decode cL_law 311 = .ok (.iconst 0, 1) := by decide +kernel
theorem dL_law_312 : decode cL_law 312 = .ok (.ireturn, 1) := by decide +kernel
theorem dL_law_313 : decode cL_law 313 = .ok (.aload_n 1, 1) := by decide +kernel
theorem dL_law_314 : decode cL_law 314 = .ok (.aload_n 0, 1) := by decide +kernel
theorem dL_law_315 : decode cL_law 315 = .ok (.iload_n 3, 1) := by decide +kernel
theorem dL_law_316 : decode cL_law 316 = .ok (.iconst 1, 1) := by decide +kernel
theorem dL_law_317 : decode cL_law 317 = .ok (.iadd, 1) := by decide +kernel
theorem dL_law_318 : decode cL_law 318 = .ok (.iaload, 1) := by decide +kernel
theorem dL_law_319 : decode cL_law 319 = .ok (.aload_n 0, 1) := by decide +kernel
theorem dL_law_320 : decode cL_law 320 = .ok (.iload_n 3, 1) := by decide +kernel
theorem dL_law_321 : decode cL_law 321 = .ok (.iconst 2, 1) := by decide +kernel
theorem dL_law_322 : decode cL_law 322 = .ok (.iadd, 1) := by decide +kernel
theorem dL_law_323 : decode cL_law 323 = .ok (.iaload, 1) := by decide +kernel
theorem dL_law_324 : decode cL_law 324 = .ok (.aload_n 0, 1) := by decide +kernel
theorem dL_law_325 : decode cL_law 325 = .ok (.iload_n 3, 1) := by decide +kernel
theorem dL_law_326 : decode cL_law 326 = .ok (.iconst 3, 1) := by decide +kernel
theorem dL_law_327 : decode cL_law 327 = .ok (.iadd, 1) := by decide +kernel
theorem dL_law_328 : decode cL_law 328 = .ok (.iaload, 1) := by decide +kernel
theorem dL_law_329 : decode cL_law 329 = .ok (.invokevirtual 36, 3) := by decide +kernel
theorem dL_law_332 : decode cL_law 332 = .ok (.aload_n 2, 1) := by decide +kernel
theorem dL_law_333 : decode cL_law 333 = .ok (.aload_n 0, 1) := by decide +kernel
theorem dL_law_334 : decode cL_law 334 = .ok (.iload_n 3, 1) := by decide +kernel
theorem dL_law_335 : decode cL_law 335 = .ok (.iconst 1, 1) := by decide +kernel
theorem dL_law_336 : decode cL_law 336 = .ok (.iadd, 1) := by decide +kernel
theorem dL_law_337 : decode cL_law 337 = .ok (.iaload, 1) := by decide +kernel
theorem dL_law_338 : decode cL_law 338 = .ok (.aload_n 0, 1) := by decide +kernel
theorem dL_law_339 : decode cL_law 339 = .ok (.iload_n 3, 1) := by decide +kernel
theorem dL_law_340 : decode cL_law 340 = .ok (.iconst 2, 1) := by decide +kernel
theorem dL_law_341 : decode cL_law 341 = .ok (.iadd, 1) := by decide +kernel
theorem dL_law_342 : decode cL_law 342 = .ok (.iaload, 1) := by decide +kernel
theorem dL_law_343 : decode cL_law 343 = .ok (.aload_n 0, 1) := by decide +kernel
theorem dL_law_344 : decode cL_law 344 = .ok (.iload_n 3, 1) := by decide +kernel
theorem dL_law_345 : decode cL_law 345 = .ok (.iconst 3, 1) := by decide +kernel
theorem dL_law_346 : decode cL_law 346 = .ok (.iadd, 1) := by decide +kernel
theorem dL_law_347 : decode cL_law 347 = .ok (.iaload, 1) := by decide +kernel
theorem dL_law_348 : decode cL_law 348 = .ok (.invokevirtual 40, 3) := by decide +kernel
theorem dL_law_351 : decode cL_law 351 = .ok (.if_icmp .eq 514, 3) := by decide +kernel
theorem dL_law_354 : decode cL_law 354 = .ok (.iconst 0, 1) := by decide +kernel
theorem dL_law_355 : decode cL_law 355 = .ok (.ireturn, 1) := by decide +kernel
theorem dL_law_356 : decode cL_law 356 = .ok (.aload_n 1, 1) := by decide +kernel
theorem dL_law_357 : decode cL_law 357 = .ok (.aload_n 0, 1) := by decide +kernel
theorem dL_law_358 : decode cL_law 358 = .ok (.iload_n 3, 1) := by decide +kernel
theorem dL_law_359 : decode cL_law 359 = .ok (.iconst 1, 1) := by decide +kernel
theorem dL_law_360 : decode cL_law 360 = .ok (.iadd, 1) := by decide +kernel
theorem dL_law_361 : decode cL_law 361 = .ok (.iaload, 1) := by decide +kernel
theorem dL_law_362 : decode cL_law 362 = .ok (.invokevirtual 41, 3) := by decide +kernel
theorem dL_law_365 : decode cL_law 365 = .ok (.aload_n 2, 1) := by decide +kernel
theorem dL_law_366 : decode cL_law 366 = .ok (.aload_n 0, 1) := by decide +kernel
theorem dL_law_367 : decode cL_law 367 = .ok (.iload_n 3, 1) := by decide +kernel
theorem dL_law_368 : decode cL_law 368 = .ok (.iconst 1, 1) := by decide +kernel
theorem dL_law_369 : decode cL_law 369 = .ok (.iadd, 1) := by decide +kernel
theorem dL_law_370 : decode cL_law 370 = .ok (.iaload, 1) := by decide +kernel
theorem dL_law_371 : decode cL_law 371 = .ok (.invokevirtual 44, 3) := by decide +kernel
theorem dL_law_374 : decode cL_law 374 = .ok (.if_icmp .eq 491, 3) := by decide +kernel
theorem dL_law_377 : decode cL_law 377 = .ok (.iconst 0, 1) := by decide +kernel
theorem dL_law_378 : decode cL_law 378 = .ok (.ireturn, 1) := by decide +kernel
theorem dL_law_379 : decode cL_law 379 = .ok (.aload_n 1, 1) := by decide +kernel
theorem dL_law_380 : decode cL_law 380 = .ok (.aload_n 0, 1) := by decide +kernel
theorem dL_law_381 : decode cL_law 381 = .ok (.iload_n 3, 1) := by decide +kernel
theorem dL_law_382 : decode cL_law 382 = .ok (.iconst 1, 1) := by decide +kernel
theorem dL_law_383 : decode cL_law 383 = .ok (.iadd, 1) := by decide +kernel
theorem dL_law_384 : decode cL_law 384 = .ok (.iaload, 1) := by decide +kernel
theorem dL_law_385 : decode cL_law 385 = .ok (.ifCond .eq 7, 3) := by decide +kernel
theorem dL_law_388 : decode cL_law 388 = .ok (.iconst 1, 1) := by decide +kernel
theorem dL_law_389 : decode cL_law 389 = .ok (.goto 4, 3) := by decide +kernel
theorem dL_law_392 : decode cL_law 392 = .ok (.iconst 0, 1) := by decide +kernel
theorem dL_law_393 : decode cL_law 393 = .ok (.invokevirtual 45, 3) := by decide +kernel
theorem dL_law_396 : decode cL_law 396 = .ok (.aload_n 2, 1) := by decide +kernel
theorem dL_law_397 : decode cL_law 397 = .ok (.aload_n 0, 1) := by decide +kernel
theorem dL_law_398 : decode cL_law 398 = .ok (.iload_n 3, 1) := by decide +kernel
theorem dL_law_399 : decode cL_law 399 = .ok (.iconst 1, 1) := by decide +kernel
theorem dL_law_400 : decode cL_law 400 = .ok (.iadd, 1) := by decide +kernel
theorem dL_law_401 : decode cL_law 401 = .ok (.iaload, 1) := by decide +kernel
theorem dL_law_402 : decode cL_law 402 = .ok (.ifCond .eq 7, 3) := by decide +kernel
theorem dL_law_405 : decode cL_law 405 = .ok (.iconst 1, 1) := by decide +kernel
theorem dL_law_406 : decode cL_law 406 = .ok (.goto 4, 3) := by decide +kernel
theorem dL_law_409 : decode cL_law 409 = .ok (.iconst 0, 1) := by decide +kernel
theorem dL_law_410 : decode cL_law 410 = .ok (.invokevirtual 49, 3) := by decide +kernel
theorem dL_law_413 : decode cL_law 413 = .ok (.if_icmp .eq 452, 3) := by decide +kernel
theorem dL_law_416 : decode cL_law 416 = .ok (.iconst 0, 1) := by decide +kernel
theorem dL_law_417 : decode cL_law 417 = .ok (.ireturn, 1) := by decide +kernel
theorem dL_law_418 : decode cL_law 418 = .ok (.aload_n 1, 1) := by decide +kernel
theorem dL_law_419 : decode cL_law 419 = .ok (.aload_n 0, 1) := by decide +kernel
theorem dL_law_420 : decode cL_law 420 = .ok (.iload_n 3, 1) := by decide +kernel
theorem dL_law_421 : decode cL_law 421 = .ok (.iconst 1, 1) := by decide +kernel
theorem dL_law_422 : decode cL_law 422 = .ok (.iadd, 1) := by decide +kernel
theorem dL_law_423 : decode cL_law 423 = .ok (.iaload, 1) := by decide +kernel
theorem dL_law_424 : decode cL_law 424 = .ok (.invokevirtual 50, 3) := by decide +kernel
theorem dL_law_427 : decode cL_law 427 = .ok (.aload_n 2, 1) := by decide +kernel
theorem dL_law_428 : decode cL_law 428 = .ok (.aload_n 0, 1) := by decide +kernel
theorem dL_law_429 : decode cL_law 429 = .ok (.iload_n 3, 1) := by decide +kernel
theorem dL_law_430 : decode cL_law 430 = .ok (.iconst 1, 1) := by decide +kernel
theorem dL_law_431 : decode cL_law 431 = .ok (.iadd, 1) := by decide +kernel
theorem dL_law_432 : decode cL_law 432 = .ok (.iaload, 1) := by decide +kernel
theorem dL_law_433 : decode cL_law 433 = .ok (.invokevirtual 53, 3) := by decide +kernel
theorem dL_law_436 : decode cL_law 436 = .ok (.if_icmp .eq 429, 3) := by decide +kernel
theorem dL_law_439 : decode cL_law 439 = .ok (.iconst 0, 1) := by decide +kernel
theorem dL_law_440 : decode cL_law 440 = .ok (.ireturn, 1) := by decide +kernel
theorem dL_law_441 : decode cL_law 441 = .ok (.aload_n 1, 1) := by decide +kernel
theorem dL_law_442 : decode cL_law 442 = .ok (.aload_n 0, 1) := by decide +kernel
theorem dL_law_443 : decode cL_law 443 = .ok (.iload_n 3, 1) := by decide +kernel
theorem dL_law_444 : decode cL_law 444 = .ok (.iconst 1, 1) := by decide +kernel
theorem dL_law_445 : decode cL_law 445 = .ok (.iadd, 1) := by decide +kernel
theorem dL_law_446 : decode cL_law 446 = .ok (.iaload, 1) := by decide +kernel
theorem dL_law_447 : decode cL_law 447 = .ok (.aload_n 0, 1) := by decide +kernel
theorem dL_law_448 : decode cL_law 448 = .ok (.iload_n 3, 1) := by decide +kernel
theorem dL_law_449 : decode cL_law 449 = .ok (.iconst 2, 1) := by decide +kernel
theorem dL_law_450 : decode cL_law 450 = .ok (.iadd, 1) := by decide +kernel
theorem dL_law_451 : decode cL_law 451 = .ok (.iaload, 1) := by decide +kernel
theorem dL_law_452 : decode cL_law 452 = .ok (.invokevirtual 54, 3) := by decide +kernel
theorem dL_law_455 : decode cL_law 455 = .ok (.aload_n 2, 1) := by decide +kernel
theorem dL_law_456 : decode cL_law 456 = .ok (.aload_n 0, 1) := by decide +kernel
theorem dL_law_457 : decode cL_law 457 = .ok (.iload_n 3, 1) := by decide +kernel
theorem dL_law_458 : decode cL_law 458 = .ok (.iconst 1, 1) := by decide +kernel
theorem dL_law_459 : decode cL_law 459 = .ok (.iadd, 1) := by decide +kernel
theorem dL_law_460 : decode cL_law 460 = .ok (.iaload, 1) := by decide +kernel
theorem dL_law_461 : decode cL_law 461 = .ok (.aload_n 0, 1) := by decide +kernel
theorem dL_law_462 : decode cL_law 462 = .ok (.iload_n 3, 1) := by decide +kernel
theorem dL_law_463 : decode cL_law 463 = .ok (.iconst 2, 1) := by decide +kernel
theorem dL_law_464 : decode cL_law 464 = .ok (.iadd, 1) := by decide +kernel
theorem dL_law_465 : decode cL_law 465 = .ok (.iaload, 1) := by decide +kernel
theorem dL_law_466 : decode cL_law 466 = .ok (.invokevirtual 57, 3) := by decide +kernel
theorem dL_law_469 : decode cL_law 469 = .ok (.if_icmp .eq 396, 3) := by decide +kernel
theorem dL_law_472 : decode cL_law 472 = .ok (.iconst 0, 1) := by decide +kernel
theorem dL_law_473 : decode cL_law 473 = .ok (.ireturn, 1) := by decide +kernel
theorem dL_law_474 : decode cL_law 474 = .ok (.aload_n 1, 1) := by decide +kernel
theorem dL_law_475 : decode cL_law 475 = .ok (.aload_n 0, 1) := by decide +kernel
theorem dL_law_476 : decode cL_law 476 = .ok (.iload_n 3, 1) := by decide +kernel
theorem dL_law_477 : decode cL_law 477 = .ok (.iconst 1, 1) := by decide +kernel
theorem dL_law_478 : decode cL_law 478 = .ok (.iadd, 1) := by decide +kernel
theorem dL_law_479 : decode cL_law 479 = .ok (.iaload, 1) := by decide +kernel
theorem dL_law_480 : decode cL_law 480 = .ok (.aload_n 0, 1) := by decide +kernel
theorem dL_law_481 : decode cL_law 481 = .ok (.iload_n 3, 1) := by decide +kernel
theorem dL_law_482 : decode cL_law 482 = .ok (.iconst 2, 1) := by decide +kernel
theorem dL_law_483 : decode cL_law 483 = .ok (.iadd, 1) := by decide +kernel
theorem dL_law_484 : decode cL_law 484 = .ok (.iaload, 1) := by decide +kernel
theorem dL_law_485 : decode cL_law 485 = .ok (.invokevirtual 58, 3) := by decide +kernel
theorem dL_law_488 : decode cL_law 488 = .ok (.aload_n 2, 1) := by decide +kernel
theorem dL_law_489 : decode cL_law 489 = .ok (.aload_n 0, 1) := by decide +kernel
theorem dL_law_490 : decode cL_law 490 = .ok (.iload_n 3, 1) := by decide +kernel
theorem dL_law_491 : decode cL_law 491 = .ok (.iconst 1, 1) := by decide +kernel
theorem dL_law_492 : decode cL_law 492 = .ok (.iadd, 1) := by decide +kernel
theorem dL_law_493 : decode cL_law 493 = .ok (.iaload, 1) := by decide +kernel
theorem dL_law_494 : decode cL_law 494 = .ok (.aload_n 0, 1) := by decide +kernel
theorem dL_law_495 : decode cL_law 495 = .ok (.iload_n 3, 1) := by decide +kernel
theorem dL_law_496 : decode cL_law 496 = .ok (.iconst 2, 1) := by decide +kernel
theorem dL_law_497 : decode cL_law 497 = .ok (.iadd, 1) := by decide +kernel
theorem dL_law_498 : decode cL_law 498 = .ok (.iaload, 1) := by decide +kernel
theorem dL_law_499 : decode cL_law 499 = .ok (.invokevirtual 61, 3) := by decide +kernel
theorem dL_law_502 : decode cL_law 502 = .ok (.if_icmp .eq 363, 3) := by decide +kernel
theorem dL_law_505 : decode cL_law 505 = .ok (.iconst 0, 1) := by decide +kernel
theorem dL_law_506 : decode cL_law 506 = .ok (.ireturn, 1) := by decide +kernel
theorem dL_law_507 : decode cL_law 507 = .ok (.aload_n 1, 1) := by decide +kernel
theorem dL_law_508 : decode cL_law 508 = .ok (.aload_n 0, 1) := by decide +kernel
theorem dL_law_509 : decode cL_law 509 = .ok (.iload_n 3, 1) := by decide +kernel
theorem dL_law_510 : decode cL_law 510 = .ok (.iconst 1, 1) := by decide +kernel
theorem dL_law_511 : decode cL_law 511 = .ok (.iadd, 1) := by decide +kernel
theorem dL_law_512 : decode cL_law 512 = .ok (.iaload, 1) := by decide +kernel
theorem dL_law_513 : decode cL_law 513 = .ok (.aload_n 0, 1) := by decide +kernel
theorem dL_law_514 : decode cL_law 514 = .ok (.iload_n 3, 1) := by decide +kernel
theorem dL_law_515 : decode cL_law 515 = .ok (.iconst 2, 1) := by decide +kernel
theorem dL_law_516 : decode cL_law 516 = .ok (.iadd, 1) := by decide +kernel
theorem dL_law_517 : decode cL_law 517 = .ok (.iaload, 1) := by decide +kernel
theorem dL_law_518 : decode cL_law 518 = .ok (.invokevirtual 62, 3) := by decide +kernel
theorem dL_law_521 : decode cL_law 521 = .ok (.aload_n 2, 1) := by decide +kernel
theorem dL_law_522 : decode cL_law 522 = .ok (.aload_n 0, 1) := by decide +kernel
theorem dL_law_523 : decode cL_law 523 = .ok (.iload_n 3, 1) := by decide +kernel
theorem dL_law_524 : decode cL_law 524 = .ok (.iconst 1, 1) := by decide +kernel
theorem dL_law_525 : decode cL_law 525 = .ok (.iadd, 1) := by decide +kernel
theorem dL_law_526 : decode cL_law 526 = .ok (.iaload, 1) := by decide +kernel
theorem dL_law_527 : decode cL_law 527 = .ok (.aload_n 0, 1) := by decide +kernel
theorem dL_law_528 : decode cL_law 528 = .ok (.iload_n 3, 1) := by decide +kernel
theorem dL_law_529 : decode cL_law 529 = .ok (.iconst 2, 1) := by decide +kernel
theorem dL_law_530 : decode cL_law 530 = .ok (.iadd, 1) := by decide +kernel
theorem dL_law_531 : decode cL_law 531 = .ok (.iaload, 1) := by decide +kernel
theorem dL_law_532 : decode cL_law 532 = .ok (.invokevirtual 65, 3) := by decide +kernel
theorem dL_law_535 : decode cL_law 535 = .ok (.if_icmp .eq 330, 3) := by decide +kernel
theorem dL_law_538 : decode cL_law 538 = .ok (.iconst 0, 1) := by decide +kernel
theorem dL_law_539 : decode cL_law 539 = .ok (.ireturn, 1) := by decide +kernel
theorem dL_law_540 : decode cL_law 540 = .ok (.aload_n 1, 1) := by decide +kernel
theorem dL_law_541 : decode cL_law 541 = .ok (.aload_n 0, 1) := by decide +kernel
theorem dL_law_542 : decode cL_law 542 = .ok (.iload_n 3, 1) := by decide +kernel
theorem dL_law_543 : decode cL_law 543 = .ok (.iconst 1, 1) := by decide +kernel
theorem dL_law_544 : decode cL_law 544 = .ok (.iadd, 1) := by decide +kernel
theorem dL_law_545 : decode cL_law 545 = .ok (.iaload, 1) := by decide +kernel
theorem dL_law_546 : decode cL_law 546 = .ok (.aload_n 0, 1) := by decide +kernel
theorem dL_law_547 : decode cL_law 547 = .ok (.iload_n 3, 1) := by decide +kernel
theorem dL_law_548 : decode cL_law 548 = .ok (.iconst 2, 1) := by decide +kernel
theorem dL_law_549 : decode cL_law 549 = .ok (.iadd, 1) := by decide +kernel
theorem dL_law_550 : decode cL_law 550 = .ok (.iaload, 1) := by decide +kernel
theorem dL_law_551 : decode cL_law 551 = .ok (.invokevirtual 66, 3) := by decide +kernel
theorem dL_law_554 : decode cL_law 554 = .ok (.aload_n 2, 1) := by decide +kernel
theorem dL_law_555 : decode cL_law 555 = .ok (.aload_n 0, 1) := by decide +kernel
theorem dL_law_556 : decode cL_law 556 = .ok (.iload_n 3, 1) := by decide +kernel
theorem dL_law_557 : decode cL_law 557 = .ok (.iconst 1, 1) := by decide +kernel
theorem dL_law_558 : decode cL_law 558 = .ok (.iadd, 1) := by decide +kernel
theorem dL_law_559 : decode cL_law 559 = .ok (.iaload, 1) := by decide +kernel
theorem dL_law_560 : decode cL_law 560 = .ok (.aload_n 0, 1) := by decide +kernel
theorem dL_law_561 : decode cL_law 561 = .ok (.iload_n 3, 1) := by decide +kernel
theorem dL_law_562 : decode cL_law 562 = .ok (.iconst 2, 1) := by decide +kernel
theorem dL_law_563 : decode cL_law 563 = .ok (.iadd, 1) := by decide +kernel
theorem dL_law_564 : decode cL_law 564 = .ok (.iaload, 1) := by decide +kernel
theorem dL_law_565 : decode cL_law 565 = .ok (.invokevirtual 69, 3) := by decide +kernel
theorem dL_law_568 : decode cL_law 568 = .ok (.if_icmp .eq 297, 3) := by decide +kernel
theorem dL_law_571 : decode cL_law 571 = .ok (.iconst 0, 1) := by decide +kernel
theorem dL_law_572 : decode cL_law 572 = .ok (.ireturn, 1) := by decide +kernel
theorem dL_law_573 : decode cL_law 573 = .ok (.aload_n 1, 1) := by decide +kernel
theorem dL_law_574 : decode cL_law 574 = .ok (.aload_n 0, 1) := by decide +kernel
theorem dL_law_575 : decode cL_law 575 = .ok (.iload_n 3, 1) := by decide +kernel
theorem dL_law_576 : decode cL_law 576 = .ok (.iconst 1, 1) := by decide +kernel
theorem dL_law_577 : decode cL_law 577 = .ok (.iadd, 1) := by decide +kernel
theorem dL_law_578 : decode cL_law 578 = .ok (.iaload, 1) := by decide +kernel
theorem dL_law_579 : decode cL_law 579 = .ok (.invokevirtual 70, 3) := by decide +kernel
theorem dL_law_582 : decode cL_law 582 = .ok (.aload_n 2, 1) := by decide +kernel
theorem dL_law_583 : decode cL_law 583 = .ok (.aload_n 0, 1) := by decide +kernel
theorem dL_law_584 : decode cL_law 584 = .ok (.iload_n 3, 1) := by decide +kernel
theorem dL_law_585 : decode cL_law 585 = .ok (.iconst 1, 1) := by decide +kernel
theorem dL_law_586 : decode cL_law 586 = .ok (.iadd, 1) := by decide +kernel
theorem dL_law_587 : decode cL_law 587 = .ok (.iaload, 1) := by decide +kernel
theorem dL_law_588 : decode cL_law 588 = .ok (.invokevirtual 73, 3) := by decide +kernel
theorem dL_law_591 : decode cL_law 591 = .ok (.if_icmp .eq 274, 3) := by decide +kernel
theorem dL_law_594 : decode cL_law 594 = .ok (.iconst 0, 1) := by decide +kernel
theorem dL_law_595 : decode cL_law 595 = .ok (.ireturn, 1) := by decide +kernel
theorem dL_law_596 : decode cL_law 596 = .ok (.aload_n 1, 1) := by decide +kernel
theorem dL_law_597 : decode cL_law 597 = .ok (.invokevirtual 74, 3) := by decide +kernel
theorem dL_law_600 : decode cL_law 600 = .ok (.aload_n 2, 1) := by decide +kernel
theorem dL_law_601 : decode cL_law 601 = .ok (.invokevirtual 78, 3) := by decide +kernel
theorem dL_law_604 : decode cL_law 604 = .ok (.if_icmp .eq 261, 3) := by decide +kernel
theorem dL_law_607 : decode cL_law 607 = .ok (.iconst 0, 1) := by decide +kernel
theorem dL_law_608 : decode cL_law 608 = .ok (.ireturn, 1) := by decide +kernel
theorem dL_law_609 : decode cL_law 609 = .ok (.aload_n 1, 1) := by decide +kernel
theorem dL_law_610 : decode cL_law 610 = .ok (.aload_n 0, 1) := by decide +kernel
theorem dL_law_611 : decode cL_law 611 = .ok (.iload_n 3, 1) := by decide +kernel
theorem dL_law_612 : decode cL_law 612 = .ok (.iconst 1, 1) := by decide +kernel
theorem dL_law_613 : decode cL_law 613 = .ok (.iadd, 1) := by decide +kernel
theorem dL_law_614 : decode cL_law 614 = .ok (.iaload, 1) := by decide +kernel
theorem dL_law_615 : decode cL_law 615 = .ok (.ifCond .eq 7, 3) := by decide +kernel
theorem dL_law_618 : decode cL_law 618 = .ok (.iconst 1, 1) := by decide +kernel
theorem dL_law_619 : decode cL_law 619 = .ok (.goto 4, 3) := by decide +kernel
theorem dL_law_622 : decode cL_law 622 = .ok (.iconst 0, 1) := by decide +kernel
theorem dL_law_623 : decode cL_law 623 = .ok (.invokevirtual 79, 3) := by decide +kernel
theorem dL_law_626 : decode cL_law 626 = .ok (.aload_n 2, 1) := by decide +kernel
theorem dL_law_627 : decode cL_law 627 = .ok (.aload_n 0, 1) := by decide +kernel
theorem dL_law_628 : decode cL_law 628 = .ok (.iload_n 3, 1) := by decide +kernel
theorem dL_law_629 : decode cL_law 629 = .ok (.iconst 1, 1) := by decide +kernel
theorem dL_law_630 : decode cL_law 630 = .ok (.iadd, 1) := by decide +kernel
theorem dL_law_631 : decode cL_law 631 = .ok (.iaload, 1) := by decide +kernel
theorem dL_law_632 : decode cL_law 632 = .ok (.ifCond .eq 7, 3) := by decide +kernel
theorem dL_law_635 : decode cL_law 635 = .ok (.iconst 1, 1) := by decide +kernel
theorem dL_law_636 : decode cL_law 636 = .ok (.goto 4, 3) := by decide +kernel
theorem dL_law_639 : decode cL_law 639 = .ok (.iconst 0, 1) := by decide +kernel
theorem dL_law_640 : decode cL_law 640 = .ok (.invokevirtual 82, 3) := by decide +kernel
theorem dL_law_643 : decode cL_law 643 = .ok (.if_icmp .eq 222, 3) := by decide +kernel
theorem dL_law_646 : decode cL_law 646 = .ok (.iconst 0, 1) := by decide +kernel
theorem dL_law_647 : decode cL_law 647 = .ok (.ireturn, 1) := by decide +kernel
theorem dL_law_648 : decode cL_law 648 = .ok (.aload_n 1, 1) := by decide +kernel
theorem dL_law_649 : decode cL_law 649 = .ok (.aload_n 0, 1) := by decide +kernel
theorem dL_law_650 : decode cL_law 650 = .ok (.iload_n 3, 1) := by decide +kernel
theorem dL_law_651 : decode cL_law 651 = .ok (.iconst 1, 1) := by decide +kernel
theorem dL_law_652 : decode cL_law 652 = .ok (.iadd, 1) := by decide +kernel
theorem dL_law_653 : decode cL_law 653 = .ok (.iaload, 1) := by decide +kernel
theorem dL_law_654 : decode cL_law 654 = .ok (.aload_n 0, 1) := by decide +kernel
theorem dL_law_655 : decode cL_law 655 = .ok (.iload_n 3, 1) := by decide +kernel
theorem dL_law_656 : decode cL_law 656 = .ok (.iconst 2, 1) := by decide +kernel
theorem dL_law_657 : decode cL_law 657 = .ok (.iadd, 1) := by decide +kernel
theorem dL_law_658 : decode cL_law 658 = .ok (.iaload, 1) := by decide +kernel
theorem dL_law_659 : decode cL_law 659 = .ok (.invokevirtual 83, 3) := by decide +kernel
theorem dL_law_662 : decode cL_law 662 = .ok (.aload_n 2, 1) := by decide +kernel
theorem dL_law_663 : decode cL_law 663 = .ok (.aload_n 0, 1) := by decide +kernel
theorem dL_law_664 : decode cL_law 664 = .ok (.iload_n 3, 1) := by decide +kernel
theorem dL_law_665 : decode cL_law 665 = .ok (.iconst 1, 1) := by decide +kernel
theorem dL_law_666 : decode cL_law 666 = .ok (.iadd, 1) := by decide +kernel
theorem dL_law_667 : decode cL_law 667 = .ok (.iaload, 1) := by decide +kernel
theorem dL_law_668 : decode cL_law 668 = .ok (.aload_n 0, 1) := by decide +kernel
theorem dL_law_669 : decode cL_law 669 = .ok (.iload_n 3, 1) := by decide +kernel
theorem dL_law_670 : decode cL_law 670 = .ok (.iconst 2, 1) := by decide +kernel
theorem dL_law_671 : decode cL_law 671 = .ok (.iadd, 1) := by decide +kernel
theorem dL_law_672 : decode cL_law 672 = .ok (.iaload, 1) := by decide +kernel
theorem dL_law_673 : decode cL_law 673 = .ok (.invokevirtual 86, 3) := by decide +kernel
theorem dL_law_676 : decode cL_law 676 = .ok (.if_icmp .eq 189, 3) := by decide +kernel
theorem dL_law_679 : decode cL_law 679 = .ok (.iconst 0, 1) := by decide +kernel
theorem dL_law_680 : decode cL_law 680 = .ok (.ireturn, 1) := by decide +kernel
theorem dL_law_681 : decode cL_law 681 = .ok (.aload_n 1, 1) := by decide +kernel
theorem dL_law_682 : decode cL_law 682 = .ok (.invokevirtual 87, 3) := by decide +kernel
theorem dL_law_685 : decode cL_law 685 = .ok (.aload_n 2, 1) := by decide +kernel
theorem dL_law_686 : decode cL_law 686 = .ok (.invokevirtual 90, 3) := by decide +kernel
theorem dL_law_689 : decode cL_law 689 = .ok (.if_icmp .eq 176, 3) := by decide +kernel
theorem dL_law_692 : decode cL_law 692 = .ok (.iconst 0, 1) := by decide +kernel
theorem dL_law_693 : decode cL_law 693 = .ok (.ireturn, 1) := by decide +kernel
theorem dL_law_694 : decode cL_law 694 = .ok (.aload_n 1, 1) := by decide +kernel
theorem dL_law_695 : decode cL_law 695 = .ok (.aload_n 0, 1) := by decide +kernel
theorem dL_law_696 : decode cL_law 696 = .ok (.iload_n 3, 1) := by decide +kernel
theorem dL_law_697 : decode cL_law 697 = .ok (.iconst 1, 1) := by decide +kernel
theorem dL_law_698 : decode cL_law 698 = .ok (.iadd, 1) := by decide +kernel
theorem dL_law_699 : decode cL_law 699 = .ok (.iaload, 1) := by decide +kernel
theorem dL_law_700 : decode cL_law 700 = .ok (.aload_n 0, 1) := by decide +kernel
theorem dL_law_701 : decode cL_law 701 = .ok (.iload_n 3, 1) := by decide +kernel
theorem dL_law_702 : decode cL_law 702 = .ok (.iconst 2, 1) := by decide +kernel
theorem dL_law_703 : decode cL_law 703 = .ok (.iadd, 1) := by decide +kernel
theorem dL_law_704 : decode cL_law 704 = .ok (.iaload, 1) := by decide +kernel
theorem dL_law_705 : decode cL_law 705 = .ok (.invokevirtual 91, 3) := by decide +kernel
theorem dL_law_708 : decode cL_law 708 = .ok (.aload_n 2, 1) := by decide +kernel
theorem dL_law_709 : decode cL_law 709 = .ok (.aload_n 0, 1) := by decide +kernel
theorem dL_law_710 : decode cL_law 710 = .ok (.iload_n 3, 1) := by decide +kernel
theorem dL_law_711 : decode cL_law 711 = .ok (.iconst 1, 1) := by decide +kernel
theorem dL_law_712 : decode cL_law 712 = .ok (.iadd, 1) := by decide +kernel
theorem dL_law_713 : decode cL_law 713 = .ok (.iaload, 1) := by decide +kernel
theorem dL_law_714 : decode cL_law 714 = .ok (.aload_n 0, 1) := by decide +kernel
theorem dL_law_715 : decode cL_law 715 = .ok (.iload_n 3, 1) := by decide +kernel
theorem dL_law_716 : decode cL_law 716 = .ok (.iconst 2, 1) := by decide +kernel
theorem dL_law_717 : decode cL_law 717 = .ok (.iadd, 1) := by decide +kernel
theorem dL_law_718 : decode cL_law 718 = .ok (.iaload, 1) := by decide +kernel
theorem dL_law_719 : decode cL_law 719 = .ok (.invokevirtual 94, 3) := by decide +kernel
theorem dL_law_722 : decode cL_law 722 = .ok (.if_icmp .eq 143, 3) := by decide +kernel
theorem dL_law_725 : decode cL_law 725 = .ok (.iconst 0, 1) := by decide +kernel
theorem dL_law_726 : decode cL_law 726 = .ok (.ireturn, 1) := by decide +kernel
theorem dL_law_727 : decode cL_law 727 = .ok (.aload_n 1, 1) := by decide +kernel
theorem dL_law_728 : decode cL_law 728 = .ok (.aload_n 0, 1) := by decide +kernel
theorem dL_law_729 : decode cL_law 729 = .ok (.iload_n 3, 1) := by decide +kernel
theorem dL_law_730 : decode cL_law 730 = .ok (.iconst 1, 1) := by decide +kernel
theorem dL_law_731 : decode cL_law 731 = .ok (.iadd, 1) := by decide +kernel
theorem dL_law_732 : decode cL_law 732 = .ok (.iaload, 1) := by decide +kernel
theorem dL_law_733 : decode cL_law 733 = .ok (.i2l, 1) := by decide +kernel
theorem dL_law_734 : decode cL_law 734 = .ok (.bipush 32, 2) := by decide +kernel
theorem dL_law_736 : decode cL_law 736 = .ok (.lshl, 1) := by decide +kernel
theorem dL_law_737 : decode cL_law 737 = .ok (.aload_n 0, 1) := by decide +kernel
theorem dL_law_738 : decode cL_law 738 = .ok (.iload_n 3, 1) := by decide +kernel
theorem dL_law_739 : decode cL_law 739 = .ok (.iconst 2, 1) := by decide +kernel
theorem dL_law_740 : decode cL_law 740 = .ok (.iadd, 1) := by decide +kernel
theorem dL_law_741 : decode cL_law 741 = .ok (.iaload, 1) := by decide +kernel
theorem dL_law_742 : decode cL_law 742 = .ok (.i2l, 1) := by decide +kernel
theorem dL_law_743 : decode cL_law 743 = .ok (.ldc2_w 95, 3) := by decide +kernel
theorem dL_law_746 : decode cL_law 746 = .ok (.land, 1) := by decide +kernel
theorem dL_law_747 : decode cL_law 747 = .ok (.lor, 1) := by decide +kernel
theorem dL_law_748 : decode cL_law 748 = .ok (.invokevirtual 97, 3) := by decide +kernel
theorem dL_law_751 : decode cL_law 751 = .ok (.aload_n 2, 1) := by decide +kernel
theorem dL_law_752 : decode cL_law 752 = .ok (.aload_n 0, 1) := by decide +kernel
theorem dL_law_753 : decode cL_law 753 = .ok (.iload_n 3, 1) := by decide +kernel
theorem dL_law_754 : decode cL_law 754 = .ok (.iconst 1, 1) := by decide +kernel
theorem dL_law_755 : decode cL_law 755 = .ok (.iadd, 1) := by decide +kernel
theorem dL_law_756 : decode cL_law 756 = .ok (.iaload, 1) := by decide +kernel
theorem dL_law_757 : decode cL_law 757 = .ok (.i2l, 1) := by decide +kernel
theorem dL_law_758 : decode cL_law 758 = .ok (.bipush 32, 2) := by decide +kernel
theorem dL_law_760 : decode cL_law 760 = .ok (.lshl, 1) := by decide +kernel
theorem dL_law_761 : decode cL_law 761 = .ok (.aload_n 0, 1) := by decide +kernel
theorem dL_law_762 : decode cL_law 762 = .ok (.iload_n 3, 1) := by decide +kernel
theorem dL_law_763 : decode cL_law 763 = .ok (.iconst 2, 1) := by decide +kernel
theorem dL_law_764 : decode cL_law 764 = .ok (.iadd, 1) := by decide +kernel
theorem dL_law_765 : decode cL_law 765 = .ok (.iaload, 1) := by decide +kernel
theorem dL_law_766 : decode cL_law 766 = .ok (.i2l, 1) := by decide +kernel
theorem dL_law_767 : decode cL_law 767 = .ok (.ldc2_w 95, 3) := by decide +kernel
theorem dL_law_770 : decode cL_law 770 = .ok (.land, 1) := by decide +kernel
theorem dL_law_771 : decode cL_law 771 = .ok (.lor, 1) := by decide +kernel
theorem dL_law_772 : decode cL_law 772 = .ok (.invokevirtual 101, 3) := by decide +kernel
theorem dL_law_775 : decode cL_law 775 = .ok (.if_icmp .eq 90, 3) := by decide +kernel
theorem dL_law_778 : decode cL_law 778 = .ok (.iconst 0, 1) := by decide +kernel
theorem dL_law_779 : decode cL_law 779 = .ok (.ireturn, 1) := by decide +kernel
theorem dL_law_780 : decode cL_law 780 = .ok (.aload_n 1, 1) := by decide +kernel
theorem dL_law_781 : decode cL_law 781 = .ok (.invokevirtual 102, 3) := by decide +kernel
theorem dL_law_784 : decode cL_law 784 = .ok (.aload_n 2, 1) := by decide +kernel
theorem dL_law_785 : decode cL_law 785 = .ok (.invokevirtual 105, 3) := by decide +kernel
theorem dL_law_788 : decode cL_law 788 = .ok (.if_icmp .eq 77, 3) := by decide +kernel
theorem dL_law_791 : decode cL_law 791 = .ok (.iconst 0, 1) := by decide +kernel
theorem dL_law_792 : decode cL_law 792 = .ok (.ireturn, 1) := by decide +kernel
theorem dL_law_793 : decode cL_law 793 = .ok (.aload_n 1, 1) := by decide +kernel
theorem dL_law_794 : decode cL_law 794 = .ok (.invokevirtual 106, 3) := by decide +kernel
theorem dL_law_797 : decode cL_law 797 = .ok (.aload_n 2, 1) := by decide +kernel
theorem dL_law_798 : decode cL_law 798 = .ok (.invokevirtual 109, 3) := by decide +kernel
theorem dL_law_801 : decode cL_law 801 = .ok (.if_icmp .eq 64, 3) := by decide +kernel
theorem dL_law_804 : decode cL_law 804 = .ok (.iconst 0, 1) := by decide +kernel
theorem dL_law_805 : decode cL_law 805 = .ok (.ireturn, 1) := by decide +kernel
theorem dL_law_806 : decode cL_law 806 = .ok (.aload_n 1, 1) := by decide +kernel
theorem dL_law_807 : decode cL_law 807 = .ok (.invokevirtual 110, 3) := by decide +kernel
theorem dL_law_810 : decode cL_law 810 = .ok (.aload_n 2, 1) := by decide +kernel
theorem dL_law_811 : decode cL_law 811 = .ok (.invokevirtual 113, 3) := by decide +kernel
theorem dL_law_814 : decode cL_law 814 = .ok (.if_icmp .eq 51, 3) := by decide +kernel
theorem dL_law_817 : decode cL_law 817 = .ok (.iconst 0, 1) := by decide +kernel
theorem dL_law_818 : decode cL_law 818 = .ok (.ireturn, 1) := by decide +kernel
theorem dL_law_819 : decode cL_law 819 = .ok (.aload_n 1, 1) := by decide +kernel
theorem dL_law_820 : decode cL_law 820 = .ok (.aload_n 0, 1) := by decide +kernel
theorem dL_law_821 : decode cL_law 821 = .ok (.iload_n 3, 1) := by decide +kernel
theorem dL_law_822 : decode cL_law 822 = .ok (.iconst 1, 1) := by decide +kernel
theorem dL_law_823 : decode cL_law 823 = .ok (.iadd, 1) := by decide +kernel
theorem dL_law_824 : decode cL_law 824 = .ok (.iaload, 1) := by decide +kernel
theorem dL_law_825 : decode cL_law 825 = .ok (.invokevirtual 114, 3) := by decide +kernel
theorem dL_law_828 : decode cL_law 828 = .ok (.aload_n 2, 1) := by decide +kernel
theorem dL_law_829 : decode cL_law 829 = .ok (.aload_n 0, 1) := by decide +kernel
theorem dL_law_830 : decode cL_law 830 = .ok (.iload_n 3, 1) := by decide +kernel
theorem dL_law_831 : decode cL_law 831 = .ok (.iconst 1, 1) := by decide +kernel
theorem dL_law_832 : decode cL_law 832 = .ok (.iadd, 1) := by decide +kernel
theorem dL_law_833 : decode cL_law 833 = .ok (.iaload, 1) := by decide +kernel
theorem dL_law_834 : decode cL_law 834 = .ok (.invokevirtual 117, 3) := by decide +kernel
theorem dL_law_837 : decode cL_law 837 = .ok (.if_icmp .eq 28, 3) := by decide +kernel
theorem dL_law_840 : decode cL_law 840 = .ok (.iconst 0, 1) := by decide +kernel
theorem dL_law_841 : decode cL_law 841 = .ok (.ireturn, 1) := by decide +kernel
theorem dL_law_842 : decode cL_law 842 = .ok (.aload_n 1, 1) := by decide +kernel
theorem dL_law_843 : decode cL_law 843 = .ok (.aload_n 0, 1) := by decide +kernel
theorem dL_law_844 : decode cL_law 844 = .ok (.iload_n 3, 1) := by decide +kernel
theorem dL_law_845 : decode cL_law 845 = .ok (.iconst 1, 1) := by decide +kernel
theorem dL_law_846 : decode cL_law 846 = .ok (.iadd, 1) := by decide +kernel
theorem dL_law_847 : decode cL_law 847 = .ok (.iaload, 1) := by decide +kernel
theorem dL_law_848 : decode cL_law 848 = .ok (.invokevirtual 118, 3) := by decide +kernel
theorem dL_law_851 : decode cL_law 851 = .ok (.aload_n 2, 1) := by decide +kernel
theorem dL_law_852 : decode cL_law 852 = .ok (.aload_n 0, 1) := by decide +kernel
theorem dL_law_853 : decode cL_law 853 = .ok (.iload_n 3, 1) := by decide +kernel
theorem dL_law_854 : decode cL_law 854 = .ok (.iconst 1, 1) := by decide +kernel
theorem dL_law_855 : decode cL_law 855 = .ok (.iadd, 1) := by decide +kernel
theorem dL_law_856 : decode cL_law 856 = .ok (.iaload, 1) := by decide +kernel
theorem dL_law_857 : decode cL_law 857 = .ok (.invokevirtual 121, 3) := by decide +kernel
theorem dL_law_860 : decode cL_law 860 = .ok (.if_icmp .eq 5, 3) := by decide +kernel
theorem dL_law_863 : decode cL_law 863 = .ok (.iconst 0, 1) := by decide +kernel
theorem dL_law_864 : decode cL_law 864 = .ok (.ireturn, 1) := by decide +kernel
theorem dL_law_865 : decode cL_law 865 = .ok (.iinc 3 5, 3) := by decide +kernel
theorem dL_law_868 : decode cL_law 868 = .ok (.goto (-850), 3) := by decide +kernel
theorem dL_law_871 : decode cL_law 871 = .ok (.iconst 1, 1) := by decide +kernel
theorem dL_law_872 : decode cL_law 872 = .ok (.ireturn, 1) := by decide +kernel
end
section
set_option maxRecDepth 20000 in
theorem wm_good : wsL_law.all goodWord = true := by decide +kernel
theorem wm_0 : Cond.classLink RL 7 RX5 ∈ wsL_law := List.mem_of_getElem? (i := 0) (by decide +kernel)
theorem wm_1 : Cond.instantiable RX5 6 ∈ wsL_law := List.mem_of_getElem? (i := 1) (by decide +kernel)
theorem wm_2 : Cond.initialized RX5 ∈ wsL_law := List.mem_of_getElem? (i := 2) (by decide +kernel)
theorem wm_3 : Cond.classLink RL 10 RX6 ∈ wsL_law := List.mem_of_getElem? (i := 3) (by decide +kernel)
theorem wm_4 : Cond.instantiable RX6 8 ∈ wsL_law := List.mem_of_getElem? (i := 4) (by decide +kernel)
theorem wm_5 : Cond.initialized RX6 ∈ wsL_law := List.mem_of_getElem? (i := 5) (by decide +kernel)
theorem wm_6 : Cond.constantLong RL 95 (4294967295) ∈ wsL_law := List.mem_of_getElem? (i := 6) (by decide +kernel)
theorem wm_7 : Cond.methodLink RL 9 yX5_init ∈ wsL_law := List.mem_of_getElem? (i := 7) (by decide +kernel)
theorem wm_8 : Cond.instanceMethod yX5_init ∈ wsL_law := List.mem_of_getElem? (i := 8) (by decide +kernel)
theorem wm_9 : Cond.code yX5_init cX5_init 1 none ∈ wsL_law := List.mem_of_getElem? (i := 9) (by decide +kernel)
theorem wm_10 : Cond.methodLink RX5 1 objectInit ∈ wsL_law := List.mem_of_getElem? (i := 10) (by decide +kernel)
theorem wm_11 : Cond.instanceMethod objectInit ∈ wsL_law := List.mem_of_getElem? (i := 11) (by decide +kernel)
theorem wm_12 : Cond.code objectInit ⟨#[0xb1]⟩ 1 none ∈ wsL_law := List.mem_of_getElem? (i := 12) (by decide +kernel)
theorem wm_13 : Cond.classLink RX5 7 RX1 ∈ wsL_law := List.mem_of_getElem? (i := 13) (by decide +kernel)
theorem wm_14 : Cond.instantiable RX1 10 ∈ wsL_law := List.mem_of_getElem? (i := 14) (by decide +kernel)
theorem wm_15 : Cond.initialized RX1 ∈ wsL_law := List.mem_of_getElem? (i := 15) (by decide +kernel)
theorem wm_16 : Cond.fieldLink RX5 10 "TrialBoots" "device" "LTrialBoots$Device;" ∈ wsL_law := List.mem_of_getElem? (i := 16) (by decide +kernel)
theorem wm_17 : Cond.fieldLink RX5 16 "TrialBoots" "whatIf" "LTrialBoots$Device;" ∈ wsL_law := List.mem_of_getElem? (i := 17) (by decide +kernel)
theorem wm_18 : Cond.fieldLink RX5 19 "TrialBoots" "saved" "[LTrialBoots$Device;" ∈ wsL_law := List.mem_of_getElem? (i := 18) (by decide +kernel)
theorem wm_19 : Cond.arrayClass .boolean ∈ wsL_law := List.mem_of_getElem? (i := 19) (by decide +kernel)
theorem wm_20 : Cond.fieldLink RX5 23 "TrialBoots" "isSaved" "[Z" ∈ wsL_law := List.mem_of_getElem? (i := 20) (by decide +kernel)
theorem wm_21 : Cond.classLink RX5 27 RX2 ∈ wsL_law := List.mem_of_getElem? (i := 21) (by decide +kernel)
theorem wm_22 : Cond.instantiable RX2 3 ∈ wsL_law := List.mem_of_getElem? (i := 22) (by decide +kernel)
theorem wm_23 : Cond.initialized RX2 ∈ wsL_law := List.mem_of_getElem? (i := 23) (by decide +kernel)
theorem wm_24 : Cond.fieldLink RX5 30 "TrialBoots" "history" "LTrialBoots$History;" ∈ wsL_law := List.mem_of_getElem? (i := 24) (by decide +kernel)
theorem wm_25 : Cond.classLink RX5 34 RX3 ∈ wsL_law := List.mem_of_getElem? (i := 25) (by decide +kernel)
theorem wm_26 : Cond.instantiable RX3 2 ∈ wsL_law := List.mem_of_getElem? (i := 26) (by decide +kernel)
theorem wm_27 : Cond.initialized RX3 ∈ wsL_law := List.mem_of_getElem? (i := 27) (by decide +kernel)
theorem wm_28 : Cond.fieldLink RX5 37 "TrialBoots" "pad" "LTrialBoots$Pad;" ∈ wsL_law := List.mem_of_getElem? (i := 28) (by decide +kernel)
theorem wm_29 : Cond.methodLink RX5 9 yX1_init ∈ wsL_law := List.mem_of_getElem? (i := 29) (by decide +kernel)
theorem wm_30 : Cond.instanceMethod yX1_init ∈ wsL_law := List.mem_of_getElem? (i := 30) (by decide +kernel)
theorem wm_31 : Cond.code yX1_init cX1_init 1 none ∈ wsL_law := List.mem_of_getElem? (i := 31) (by decide +kernel)
theorem wm_32 : Cond.methodLink RX1 3 objectInit ∈ wsL_law := List.mem_of_getElem? (i := 32) (by decide +kernel)
theorem wm_33 : Cond.arrayClass .int ∈ wsL_law := List.mem_of_getElem? (i := 33) (by decide +kernel)
theorem wm_34 : Cond.fieldLink RX1 9 "TrialBoots$Device" "settings" "[I" ∈ wsL_law := List.mem_of_getElem? (i := 34) (by decide +kernel)
theorem wm_35 : Cond.classLink RX1 15 RX0 ∈ wsL_law := List.mem_of_getElem? (i := 35) (by decide +kernel)
theorem wm_36 : Cond.instantiable RX0 8 ∈ wsL_law := List.mem_of_getElem? (i := 36) (by decide +kernel)
theorem wm_37 : Cond.initialized RX0 ∈ wsL_law := List.mem_of_getElem? (i := 37) (by decide +kernel)
theorem wm_38 : Cond.fieldLink RX1 18 "TrialBoots$Device" "first" "LTrialBoots$Area;" ∈ wsL_law := List.mem_of_getElem? (i := 38) (by decide +kernel)
theorem wm_39 : Cond.fieldLink RX1 22 "TrialBoots$Device" "second" "LTrialBoots$Area;" ∈ wsL_law := List.mem_of_getElem? (i := 39) (by decide +kernel)
theorem wm_40 : Cond.fieldLink RX1 25 "TrialBoots$Device" "golden" "LTrialBoots$Area;" ∈ wsL_law := List.mem_of_getElem? (i := 40) (by decide +kernel)
theorem wm_41 : Cond.classLink RX1 28 RX4 ∈ wsL_law := List.mem_of_getElem? (i := 41) (by decide +kernel)
theorem wm_42 : Cond.instantiable RX4 6 ∈ wsL_law := List.mem_of_getElem? (i := 42) (by decide +kernel)
theorem wm_43 : Cond.initialized RX4 ∈ wsL_law := List.mem_of_getElem? (i := 43) (by decide +kernel)
theorem wm_44 : Cond.fieldLink RX1 31 "TrialBoots$Device" "starts" "LTrialBoots$Starts;" ∈ wsL_law := List.mem_of_getElem? (i := 44) (by decide +kernel)
theorem wm_45 : Cond.fieldLink RX1 35 "TrialBoots$Device" "running" "I" ∈ wsL_law := List.mem_of_getElem? (i := 45) (by decide +kernel)
theorem wm_46 : Cond.methodLink RX1 17 yX0_init ∈ wsL_law := List.mem_of_getElem? (i := 46) (by decide +kernel)
theorem wm_47 : Cond.instanceMethod yX0_init ∈ wsL_law := List.mem_of_getElem? (i := 47) (by decide +kernel)
theorem wm_48 : Cond.code yX0_init cX0_init 2 none ∈ wsL_law := List.mem_of_getElem? (i := 48) (by decide +kernel)
theorem wm_49 : Cond.methodLink RX0 3 objectInit ∈ wsL_law := List.mem_of_getElem? (i := 49) (by decide +kernel)
theorem wm_50 : Cond.fieldLink RX0 9 "TrialBoots$Area" "state" "I" ∈ wsL_law := List.mem_of_getElem? (i := 50) (by decide +kernel)
theorem wm_51 : Cond.fieldLink RX0 15 "TrialBoots$Area" "words" "[I" ∈ wsL_law := List.mem_of_getElem? (i := 51) (by decide +kernel)
theorem wm_52 : Cond.fieldLink RX0 19 "TrialBoots$Area" "wears" "[I" ∈ wsL_law := List.mem_of_getElem? (i := 52) (by decide +kernel)
theorem wm_53 : Cond.instanceMethod yX4_init ∈ wsL_law := List.mem_of_getElem? (i := 53) (by decide +kernel)
theorem wm_54 : Cond.code yX4_init cX4_init 1 none ∈ wsL_law := List.mem_of_getElem? (i := 54) (by decide +kernel)
theorem wm_55 : Cond.methodLink RX4 3 objectInit ∈ wsL_law := List.mem_of_getElem? (i := 55) (by decide +kernel)
theorem wm_56 : Cond.fieldLink RX4 9 "TrialBoots$Starts" "areas" "[I" ∈ wsL_law := List.mem_of_getElem? (i := 56) (by decide +kernel)
theorem wm_57 : Cond.fieldLink RX4 15 "TrialBoots$Starts" "causes" "[I" ∈ wsL_law := List.mem_of_getElem? (i := 57) (by decide +kernel)
theorem wm_58 : Cond.fieldLink RX4 18 "TrialBoots$Starts" "ticks" "[I" ∈ wsL_law := List.mem_of_getElem? (i := 58) (by decide +kernel)
theorem wm_59 : Cond.methodLink RX1 39 yX0_takeGoldenImage ∈ wsL_law := List.mem_of_getElem? (i := 59) (by decide +kernel)
theorem wm_60 : Cond.instanceMethod yX0_takeGoldenImage ∈ wsL_law := List.mem_of_getElem? (i := 60) (by decide +kernel)
theorem wm_61 : Cond.selects RX0 yX0_takeGoldenImage yX0_takeGoldenImage ∈ wsL_law := List.mem_of_getElem? (i := 61) (by decide +kernel)
theorem wm_62 : Cond.code yX0_takeGoldenImage cX0_takeGoldenImage 1 none ∈ wsL_law := List.mem_of_getElem? (i := 62) (by decide +kernel)
theorem wm_63 : Cond.fieldLink RX0 28 "TrialBoots$Area" "toldSum" "I" ∈ wsL_law := List.mem_of_getElem? (i := 63) (by decide +kernel)
theorem wm_64 : Cond.methodLink RX0 43 yX0_expectImage ∈ wsL_law := List.mem_of_getElem? (i := 64) (by decide +kernel)
theorem wm_65 : Cond.instanceMethod yX0_expectImage ∈ wsL_law := List.mem_of_getElem? (i := 65) (by decide +kernel)
theorem wm_66 : Cond.selects RX0 yX0_expectImage yX0_expectImage ∈ wsL_law := List.mem_of_getElem? (i := 66) (by decide +kernel)
theorem wm_67 : Cond.code yX0_expectImage cX0_expectImage 4 none ∈ wsL_law := List.mem_of_getElem? (i := 67) (by decide +kernel)
theorem wm_68 : Cond.fieldLink RX0 22 "TrialBoots$Area" "version" "I" ∈ wsL_law := List.mem_of_getElem? (i := 68) (by decide +kernel)
theorem wm_69 : Cond.fieldLink RX0 25 "TrialBoots$Area" "length" "I" ∈ wsL_law := List.mem_of_getElem? (i := 69) (by decide +kernel)
theorem wm_70 : Cond.fieldLink RX0 31 "TrialBoots$Area" "tries" "I" ∈ wsL_law := List.mem_of_getElem? (i := 70) (by decide +kernel)
theorem wm_71 : Cond.fieldLink RX0 34 "TrialBoots$Area" "filled" "I" ∈ wsL_law := List.mem_of_getElem? (i := 71) (by decide +kernel)
theorem wm_72 : Cond.methodLink RX0 47 yX0_addWord ∈ wsL_law := List.mem_of_getElem? (i := 72) (by decide +kernel)
theorem wm_73 : Cond.instanceMethod yX0_addWord ∈ wsL_law := List.mem_of_getElem? (i := 73) (by decide +kernel)
theorem wm_74 : Cond.selects RX0 yX0_addWord yX0_addWord ∈ wsL_law := List.mem_of_getElem? (i := 74) (by decide +kernel)
theorem wm_75 : Cond.code yX0_addWord cX0_addWord 2 none ∈ wsL_law := List.mem_of_getElem? (i := 75) (by decide +kernel)
theorem wm_76 : Cond.static yX5_isWithin ∈ wsL_law := List.mem_of_getElem? (i := 76) (by decide +kernel)
theorem wm_77 : Cond.code yX5_isWithin cX5_isWithin 3 (some .boolean) ∈ wsL_law := List.mem_of_getElem? (i := 77) (by decide +kernel)
theorem wm_78 : Cond.methodLink RX0 51 yX0_sumOfImage ∈ wsL_law := List.mem_of_getElem? (i := 78) (by decide +kernel)
theorem wm_79 : Cond.instanceMethod yX0_sumOfImage ∈ wsL_law := List.mem_of_getElem? (i := 79) (by decide +kernel)
theorem wm_80 : Cond.selects RX0 yX0_sumOfImage yX0_sumOfImage ∈ wsL_law := List.mem_of_getElem? (i := 80) (by decide +kernel)
theorem wm_81 : Cond.code yX0_sumOfImage cX0_sumOfImage 3 (some .int) ∈ wsL_law := List.mem_of_getElem? (i := 81) (by decide +kernel)
theorem wm_82 : Cond.static yX5_sumWith ∈ wsL_law := List.mem_of_getElem? (i := 82) (by decide +kernel)
theorem wm_83 : Cond.code yX5_sumWith cX5_sumWith 2 (some .int) ∈ wsL_law := List.mem_of_getElem? (i := 83) (by decide +kernel)
theorem wm_84 : Cond.methodLink RX5 29 yX2_init ∈ wsL_law := List.mem_of_getElem? (i := 84) (by decide +kernel)
theorem wm_85 : Cond.instanceMethod yX2_init ∈ wsL_law := List.mem_of_getElem? (i := 85) (by decide +kernel)
theorem wm_86 : Cond.code yX2_init cX2_init 2 none ∈ wsL_law := List.mem_of_getElem? (i := 86) (by decide +kernel)
theorem wm_87 : Cond.methodLink RX2 3 objectInit ∈ wsL_law := List.mem_of_getElem? (i := 87) (by decide +kernel)
theorem wm_88 : Cond.classLink RX2 9 RX1 ∈ wsL_law := List.mem_of_getElem? (i := 88) (by decide +kernel)
theorem wm_89 : Cond.fieldLink RX2 11 "TrialBoots$History" "states" "[LTrialBoots$Device;" ∈ wsL_law := List.mem_of_getElem? (i := 89) (by decide +kernel)
theorem wm_90 : Cond.methodLink RX2 17 yX1_init ∈ wsL_law := List.mem_of_getElem? (i := 90) (by decide +kernel)
theorem wm_91 : Cond.instanceMethod yX3_init ∈ wsL_law := List.mem_of_getElem? (i := 91) (by decide +kernel)
theorem wm_92 : Cond.code yX3_init cX3_init 1 none ∈ wsL_law := List.mem_of_getElem? (i := 92) (by decide +kernel)
theorem wm_93 : Cond.methodLink RX3 3 objectInit ∈ wsL_law := List.mem_of_getElem? (i := 93) (by decide +kernel)
theorem wm_94 : Cond.fieldLink RX3 9 "TrialBoots$Pad" "codes" "[I" ∈ wsL_law := List.mem_of_getElem? (i := 94) (by decide +kernel)
theorem wm_95 : Cond.methodLink RL 12 yX6_init ∈ wsL_law := List.mem_of_getElem? (i := 95) (by decide +kernel)
theorem wm_96 : Cond.instanceMethod yX6_init ∈ wsL_law := List.mem_of_getElem? (i := 96) (by decide +kernel)
theorem wm_97 : Cond.code yX6_init cX6_init 3 none ∈ wsL_law := List.mem_of_getElem? (i := 97) (by decide +kernel)
theorem wm_98 : Cond.methodLink RX6 1 objectInit ∈ wsL_law := List.mem_of_getElem? (i := 98) (by decide +kernel)
theorem wm_99 : Cond.fieldLink RX6 7 "TrialBootsModel" "state" "[I" ∈ wsL_law := List.mem_of_getElem? (i := 99) (by decide +kernel)
theorem wm_100 : Cond.fieldLink RX6 13 "TrialBootsModel" "kept" "[I" ∈ wsL_law := List.mem_of_getElem? (i := 100) (by decide +kernel)
theorem wm_101 : Cond.fieldLink RX6 16 "TrialBootsModel" "history" "[I" ∈ wsL_law := List.mem_of_getElem? (i := 101) (by decide +kernel)
theorem wm_102 : Cond.fieldLink RX6 19 "TrialBootsModel" "saved" "[I" ∈ wsL_law := List.mem_of_getElem? (i := 102) (by decide +kernel)
theorem wm_103 : Cond.fieldLink RX6 22 "TrialBootsModel" "isSaved" "[I" ∈ wsL_law := List.mem_of_getElem? (i := 103) (by decide +kernel)
theorem wm_104 : Cond.fieldLink RX6 25 "TrialBootsModel" "pad" "[I" ∈ wsL_law := List.mem_of_getElem? (i := 104) (by decide +kernel)
theorem wm_105 : Cond.methodLink RX6 28 yX6_setPart ∈ wsL_law := List.mem_of_getElem? (i := 105) (by decide +kernel)
theorem wm_106 : Cond.instanceMethod yX6_setPart ∈ wsL_law := List.mem_of_getElem? (i := 106) (by decide +kernel)
theorem wm_107 : Cond.selects RX6 yX6_setPart yX6_setPart ∈ wsL_law := List.mem_of_getElem? (i := 107) (by decide +kernel)
theorem wm_108 : Cond.code yX6_setPart cX6_setPart 4 none ∈ wsL_law := List.mem_of_getElem? (i := 108) (by decide +kernel)
theorem wm_109 : Cond.methodLink RL 13 yX5_set ∈ wsL_law := List.mem_of_getElem? (i := 109) (by decide +kernel)
theorem wm_110 : Cond.instanceMethod yX5_set ∈ wsL_law := List.mem_of_getElem? (i := 110) (by decide +kernel)
theorem wm_111 : Cond.selects RX5 yX5_set yX5_set ∈ wsL_law := List.mem_of_getElem? (i := 111) (by decide +kernel)
theorem wm_112 : Cond.code yX5_set cX5_set 4 (some .int) ∈ wsL_law := List.mem_of_getElem? (i := 112) (by decide +kernel)
theorem wm_113 : Cond.fieldLink RX5 45 "TrialBoots" "MOST_SETTING" "[I" ∈ wsL_law := List.mem_of_getElem? (i := 113) (by decide +kernel)
theorem wm_114 : Cond.fieldLink RX5 53 "TrialBoots$Device" "settings" "[I" ∈ wsL_law := List.mem_of_getElem? (i := 114) (by decide +kernel)
theorem wm_115 : Cond.methodLink RX5 41 yX5_isWithin ∈ wsL_law := List.mem_of_getElem? (i := 115) (by decide +kernel)
theorem wm_116 : Cond.methodLink RX5 49 yX2_record ∈ wsL_law := List.mem_of_getElem? (i := 116) (by decide +kernel)
theorem wm_117 : Cond.instanceMethod yX2_record ∈ wsL_law := List.mem_of_getElem? (i := 117) (by decide +kernel)
theorem wm_118 : Cond.selects RX2 yX2_record yX2_record ∈ wsL_law := List.mem_of_getElem? (i := 118) (by decide +kernel)
theorem wm_119 : Cond.code yX2_record cX2_record 2 none ∈ wsL_law := List.mem_of_getElem? (i := 119) (by decide +kernel)
theorem wm_120 : Cond.fieldLink RX2 18 "TrialBoots$History" "recorded" "I" ∈ wsL_law := List.mem_of_getElem? (i := 120) (by decide +kernel)
theorem wm_121 : Cond.fieldLink RX2 32 "TrialBoots$History" "size" "I" ∈ wsL_law := List.mem_of_getElem? (i := 121) (by decide +kernel)
theorem wm_122 : Cond.methodLink RX2 35 Lib.Math.min.name ∈ wsL_law := List.mem_of_getElem? (i := 122) (by decide +kernel)
theorem wm_123 : Cond.static Lib.Math.min.name ∈ wsL_law := List.mem_of_getElem? (i := 123) (by decide +kernel)
theorem wm_124 : Cond.initialized "java/lang/Math" ∈ wsL_law := List.mem_of_getElem? (i := 124) (by decide +kernel)
theorem wm_125 : Cond.code Lib.Math.min.name Lib.Math.min.code 2 (some .int) ∈ wsL_law := List.mem_of_getElem? (i := 125) (by decide +kernel)
theorem wm_126 : Cond.methodLink RX2 22 yJ9_floorMod_7cf53 ∈ wsL_law := List.mem_of_getElem? (i := 126) (by decide +kernel)
theorem wm_127 : Cond.static yJ9_floorMod_7cf53 ∈ wsL_law := List.mem_of_getElem? (i := 127) (by decide +kernel)
theorem wm_128 : Cond.initialized RJ9 ∈ wsL_law := List.mem_of_getElem? (i := 128) (by decide +kernel)
theorem wm_129 : Cond.code yJ9_floorMod_7cf53 cJ9_floorMod_7cf53 3 (some .int) ∈ wsL_law := List.mem_of_getElem? (i := 129) (by decide +kernel)
theorem wm_130 : Cond.methodLink RX2 28 yX1_copyFrom ∈ wsL_law := List.mem_of_getElem? (i := 130) (by decide +kernel)
theorem wm_131 : Cond.instanceMethod yX1_copyFrom ∈ wsL_law := List.mem_of_getElem? (i := 131) (by decide +kernel)
theorem wm_132 : Cond.selects RX1 yX1_copyFrom yX1_copyFrom ∈ wsL_law := List.mem_of_getElem? (i := 132) (by decide +kernel)
theorem wm_133 : Cond.code yX1_copyFrom cX1_copyFrom 2 none ∈ wsL_law := List.mem_of_getElem? (i := 133) (by decide +kernel)
theorem wm_134 : Cond.methodLink RX1 42 arraycopyName ∈ wsL_law := List.mem_of_getElem? (i := 134) (by decide +kernel)
theorem wm_135 : Cond.native arraycopyName ∈ wsL_law := List.mem_of_getElem? (i := 135) (by decide +kernel)
theorem wm_136 : Cond.static arraycopyName ∈ wsL_law := List.mem_of_getElem? (i := 136) (by decide +kernel)
theorem wm_137 : Cond.initialized "java/lang/System" ∈ wsL_law := List.mem_of_getElem? (i := 137) (by decide +kernel)
theorem wm_138 : Cond.fieldLink RX1 55 "TrialBoots$Device" "ticks" "I" ∈ wsL_law := List.mem_of_getElem? (i := 138) (by decide +kernel)
theorem wm_139 : Cond.fieldLink RX1 58 "TrialBoots$Device" "hungTicks" "I" ∈ wsL_law := List.mem_of_getElem? (i := 139) (by decide +kernel)
theorem wm_140 : Cond.fieldLink RX1 61 "TrialBoots$Device" "leastVersion" "I" ∈ wsL_law := List.mem_of_getElem? (i := 140) (by decide +kernel)
theorem wm_141 : Cond.fieldLink RX1 64 "TrialBoots$Device" "allTicks" "I" ∈ wsL_law := List.mem_of_getElem? (i := 141) (by decide +kernel)
theorem wm_142 : Cond.methodLink RX1 48 yX0_copyFrom ∈ wsL_law := List.mem_of_getElem? (i := 142) (by decide +kernel)
theorem wm_143 : Cond.instanceMethod yX0_copyFrom ∈ wsL_law := List.mem_of_getElem? (i := 143) (by decide +kernel)
theorem wm_144 : Cond.selects RX0 yX0_copyFrom yX0_copyFrom ∈ wsL_law := List.mem_of_getElem? (i := 144) (by decide +kernel)
theorem wm_145 : Cond.code yX0_copyFrom cX0_copyFrom 2 none ∈ wsL_law := List.mem_of_getElem? (i := 145) (by decide +kernel)
theorem wm_146 : Cond.methodLink RX0 37 arraycopyName ∈ wsL_law := List.mem_of_getElem? (i := 146) (by decide +kernel)
theorem wm_147 : Cond.methodLink RX1 52 yX4_copyFrom ∈ wsL_law := List.mem_of_getElem? (i := 147) (by decide +kernel)
theorem wm_148 : Cond.instanceMethod yX4_copyFrom ∈ wsL_law := List.mem_of_getElem? (i := 148) (by decide +kernel)
theorem wm_149 : Cond.selects RX4 yX4_copyFrom yX4_copyFrom ∈ wsL_law := List.mem_of_getElem? (i := 149) (by decide +kernel)
theorem wm_150 : Cond.code yX4_copyFrom cX4_copyFrom 2 none ∈ wsL_law := List.mem_of_getElem? (i := 150) (by decide +kernel)
theorem wm_151 : Cond.fieldLink RX4 21 "TrialBoots$Starts" "all" "I" ∈ wsL_law := List.mem_of_getElem? (i := 151) (by decide +kernel)
theorem wm_152 : Cond.fieldLink RX4 25 "TrialBoots$Starts" "byWatchdog" "I" ∈ wsL_law := List.mem_of_getElem? (i := 152) (by decide +kernel)
theorem wm_153 : Cond.fieldLink RX4 28 "TrialBoots$Starts" "kept" "I" ∈ wsL_law := List.mem_of_getElem? (i := 153) (by decide +kernel)
theorem wm_154 : Cond.methodLink RX4 31 arraycopyName ∈ wsL_law := List.mem_of_getElem? (i := 154) (by decide +kernel)
theorem wm_155 : Cond.methodLink RL 17 yX6_set ∈ wsL_law := List.mem_of_getElem? (i := 155) (by decide +kernel)
theorem wm_156 : Cond.instanceMethod yX6_set ∈ wsL_law := List.mem_of_getElem? (i := 156) (by decide +kernel)
theorem wm_157 : Cond.selects RX6 yX6_set yX6_set ∈ wsL_law := List.mem_of_getElem? (i := 157) (by decide +kernel)
theorem wm_158 : Cond.code yX6_set cX6_set 4 (some .int) ∈ wsL_law := List.mem_of_getElem? (i := 158) (by decide +kernel)
theorem wm_159 : Cond.methodLink RX6 93 yX6_isValue ∈ wsL_law := List.mem_of_getElem? (i := 159) (by decide +kernel)
theorem wm_160 : Cond.static yX6_isValue ∈ wsL_law := List.mem_of_getElem? (i := 160) (by decide +kernel)
theorem wm_161 : Cond.code yX6_isValue cX6_isValue 2 (some .boolean) ∈ wsL_law := List.mem_of_getElem? (i := 161) (by decide +kernel)
theorem wm_162 : Cond.methodLink RX6 40 yX6_within ∈ wsL_law := List.mem_of_getElem? (i := 162) (by decide +kernel)
theorem wm_163 : Cond.static yX6_within ∈ wsL_law := List.mem_of_getElem? (i := 163) (by decide +kernel)
theorem wm_164 : Cond.code yX6_within cX6_within 3 (some .boolean) ∈ wsL_law := List.mem_of_getElem? (i := 164) (by decide +kernel)
theorem wm_165 : Cond.methodLink RX6 96 yX6_record ∈ wsL_law := List.mem_of_getElem? (i := 165) (by decide +kernel)
theorem wm_166 : Cond.instanceMethod yX6_record ∈ wsL_law := List.mem_of_getElem? (i := 166) (by decide +kernel)
theorem wm_167 : Cond.selects RX6 yX6_record yX6_record ∈ wsL_law := List.mem_of_getElem? (i := 167) (by decide +kernel)
theorem wm_168 : Cond.code yX6_record cX6_record 2 none ∈ wsL_law := List.mem_of_getElem? (i := 168) (by decide +kernel)
theorem wm_169 : Cond.fieldLink RX6 32 "TrialBootsModel" "recorded" "I" ∈ wsL_law := List.mem_of_getElem? (i := 169) (by decide +kernel)
theorem wm_170 : Cond.methodLink RX6 36 yX6_moves ∈ wsL_law := List.mem_of_getElem? (i := 170) (by decide +kernel)
theorem wm_171 : Cond.static yX6_moves ∈ wsL_law := List.mem_of_getElem? (i := 171) (by decide +kernel)
theorem wm_172 : Cond.code yX6_moves cX6_moves 5 none ∈ wsL_law := List.mem_of_getElem? (i := 172) (by decide +kernel)
theorem wm_173 : Cond.methodLink RL 18 yX5_begin ∈ wsL_law := List.mem_of_getElem? (i := 173) (by decide +kernel)
theorem wm_174 : Cond.instanceMethod yX5_begin ∈ wsL_law := List.mem_of_getElem? (i := 174) (by decide +kernel)
theorem wm_175 : Cond.selects RX5 yX5_begin yX5_begin ∈ wsL_law := List.mem_of_getElem? (i := 175) (by decide +kernel)
theorem wm_176 : Cond.code yX5_begin cX5_begin 7 (some .int) ∈ wsL_law := List.mem_of_getElem? (i := 176) (by decide +kernel)
theorem wm_177 : Cond.fieldLink RX5 67 "TrialBoots$Device" "running" "I" ∈ wsL_law := List.mem_of_getElem? (i := 177) (by decide +kernel)
theorem wm_178 : Cond.fieldLink RX5 71 "TrialBoots$Device" "leastVersion" "I" ∈ wsL_law := List.mem_of_getElem? (i := 178) (by decide +kernel)
theorem wm_179 : Cond.methodLink RX5 56 yX5_isSlot ∈ wsL_law := List.mem_of_getElem? (i := 179) (by decide +kernel)
theorem wm_180 : Cond.static yX5_isSlot ∈ wsL_law := List.mem_of_getElem? (i := 180) (by decide +kernel)
theorem wm_181 : Cond.code yX5_isSlot cX5_isSlot 1 (some .boolean) ∈ wsL_law := List.mem_of_getElem? (i := 181) (by decide +kernel)
theorem wm_182 : Cond.methodLink RX5 60 yX5_isLength ∈ wsL_law := List.mem_of_getElem? (i := 182) (by decide +kernel)
theorem wm_183 : Cond.static yX5_isLength ∈ wsL_law := List.mem_of_getElem? (i := 183) (by decide +kernel)
theorem wm_184 : Cond.code yX5_isLength cX5_isLength 1 (some .boolean) ∈ wsL_law := List.mem_of_getElem? (i := 184) (by decide +kernel)
theorem wm_185 : Cond.methodLink RX5 63 yX5_pagesOf ∈ wsL_law := List.mem_of_getElem? (i := 185) (by decide +kernel)
theorem wm_186 : Cond.static yX5_pagesOf ∈ wsL_law := List.mem_of_getElem? (i := 186) (by decide +kernel)
theorem wm_187 : Cond.code yX5_pagesOf cX5_pagesOf 1 (some .int) ∈ wsL_law := List.mem_of_getElem? (i := 187) (by decide +kernel)
theorem wm_188 : Cond.methodLink RX5 74 yX1_beginsLeft ∈ wsL_law := List.mem_of_getElem? (i := 188) (by decide +kernel)
theorem wm_189 : Cond.instanceMethod yX1_beginsLeft ∈ wsL_law := List.mem_of_getElem? (i := 189) (by decide +kernel)
theorem wm_190 : Cond.selects RX1 yX1_beginsLeft yX1_beginsLeft ∈ wsL_law := List.mem_of_getElem? (i := 190) (by decide +kernel)
theorem wm_191 : Cond.code yX1_beginsLeft cX1_beginsLeft 3 (some .int) ∈ wsL_law := List.mem_of_getElem? (i := 191) (by decide +kernel)
theorem wm_192 : Cond.methodLink RX1 78 Lib.Math.max.name ∈ wsL_law := List.mem_of_getElem? (i := 192) (by decide +kernel)
theorem wm_193 : Cond.static Lib.Math.max.name ∈ wsL_law := List.mem_of_getElem? (i := 193) (by decide +kernel)
theorem wm_194 : Cond.code Lib.Math.max.name Lib.Math.max.code 2 (some .int) ∈ wsL_law := List.mem_of_getElem? (i := 194) (by decide +kernel)
theorem wm_195 : Cond.methodLink RX1 70 yX1_areaAt ∈ wsL_law := List.mem_of_getElem? (i := 195) (by decide +kernel)
theorem wm_196 : Cond.instanceMethod yX1_areaAt ∈ wsL_law := List.mem_of_getElem? (i := 196) (by decide +kernel)
theorem wm_197 : Cond.selects RX1 yX1_areaAt yX1_areaAt ∈ wsL_law := List.mem_of_getElem? (i := 197) (by decide +kernel)
theorem wm_198 : Cond.code yX1_areaAt cX1_areaAt 2 (some (.object "TrialBoots$Area")) ∈ wsL_law := List.mem_of_getElem? (i := 198) (by decide +kernel)
theorem wm_199 : Cond.methodLink RX1 74 yX0_greatestWear ∈ wsL_law := List.mem_of_getElem? (i := 199) (by decide +kernel)
theorem wm_200 : Cond.instanceMethod yX0_greatestWear ∈ wsL_law := List.mem_of_getElem? (i := 200) (by decide +kernel)
theorem wm_201 : Cond.selects RX0 yX0_greatestWear yX0_greatestWear ∈ wsL_law := List.mem_of_getElem? (i := 201) (by decide +kernel)
theorem wm_202 : Cond.code yX0_greatestWear cX0_greatestWear 4 (some .int) ∈ wsL_law := List.mem_of_getElem? (i := 202) (by decide +kernel)
theorem wm_203 : Cond.methodLink RX0 63 Lib.Math.max.name ∈ wsL_law := List.mem_of_getElem? (i := 203) (by decide +kernel)
theorem wm_204 : Cond.methodLink RX5 78 yX1_areaAt ∈ wsL_law := List.mem_of_getElem? (i := 204) (by decide +kernel)
theorem wm_205 : Cond.methodLink RX5 82 yX0_emptyPages ∈ wsL_law := List.mem_of_getElem? (i := 205) (by decide +kernel)
theorem wm_206 : Cond.instanceMethod yX0_emptyPages ∈ wsL_law := List.mem_of_getElem? (i := 206) (by decide +kernel)
theorem wm_207 : Cond.selects RX0 yX0_emptyPages yX0_emptyPages ∈ wsL_law := List.mem_of_getElem? (i := 207) (by decide +kernel)
theorem wm_208 : Cond.code yX0_emptyPages cX0_emptyPages 3 none ∈ wsL_law := List.mem_of_getElem? (i := 208) (by decide +kernel)
theorem wm_209 : Cond.methodLink RX5 88 yX0_expectImage ∈ wsL_law := List.mem_of_getElem? (i := 209) (by decide +kernel)
theorem wm_210 : Cond.methodLink RX5 92 yX0_greatestWear ∈ wsL_law := List.mem_of_getElem? (i := 210) (by decide +kernel)
theorem wm_211 : Cond.methodLink RL 22 yX6_begin ∈ wsL_law := List.mem_of_getElem? (i := 211) (by decide +kernel)
theorem wm_212 : Cond.instanceMethod yX6_begin ∈ wsL_law := List.mem_of_getElem? (i := 212) (by decide +kernel)
theorem wm_213 : Cond.selects RX6 yX6_begin yX6_begin ∈ wsL_law := List.mem_of_getElem? (i := 213) (by decide +kernel)
theorem wm_214 : Cond.code yX6_begin cX6_begin 6 (some .int) ∈ wsL_law := List.mem_of_getElem? (i := 214) (by decide +kernel)
theorem wm_215 : Cond.methodLink RX6 99 yX6_isSlot ∈ wsL_law := List.mem_of_getElem? (i := 215) (by decide +kernel)
theorem wm_216 : Cond.static yX6_isSlot ∈ wsL_law := List.mem_of_getElem? (i := 216) (by decide +kernel)
theorem wm_217 : Cond.code yX6_isSlot cX6_isSlot 1 (some .boolean) ∈ wsL_law := List.mem_of_getElem? (i := 217) (by decide +kernel)
theorem wm_218 : Cond.methodLink RX6 102 yX6_pagesOf ∈ wsL_law := List.mem_of_getElem? (i := 218) (by decide +kernel)
theorem wm_219 : Cond.static yX6_pagesOf ∈ wsL_law := List.mem_of_getElem? (i := 219) (by decide +kernel)
theorem wm_220 : Cond.code yX6_pagesOf cX6_pagesOf 1 (some .int) ∈ wsL_law := List.mem_of_getElem? (i := 220) (by decide +kernel)
theorem wm_221 : Cond.methodLink RX6 105 yX6_isAnyWorn ∈ wsL_law := List.mem_of_getElem? (i := 221) (by decide +kernel)
theorem wm_222 : Cond.instanceMethod yX6_isAnyWorn ∈ wsL_law := List.mem_of_getElem? (i := 222) (by decide +kernel)
theorem wm_223 : Cond.selects RX6 yX6_isAnyWorn yX6_isAnyWorn ∈ wsL_law := List.mem_of_getElem? (i := 223) (by decide +kernel)
theorem wm_224 : Cond.code yX6_isAnyWorn cX6_isAnyWorn 5 (some .boolean) ∈ wsL_law := List.mem_of_getElem? (i := 224) (by decide +kernel)
theorem wm_225 : Cond.methodLink RX6 55 yX6_isWorn ∈ wsL_law := List.mem_of_getElem? (i := 225) (by decide +kernel)
theorem wm_226 : Cond.instanceMethod yX6_isWorn ∈ wsL_law := List.mem_of_getElem? (i := 226) (by decide +kernel)
theorem wm_227 : Cond.selects RX6 yX6_isWorn yX6_isWorn ∈ wsL_law := List.mem_of_getElem? (i := 227) (by decide +kernel)
theorem wm_228 : Cond.code yX6_isWorn cX6_isWorn 3 (some .boolean) ∈ wsL_law := List.mem_of_getElem? (i := 228) (by decide +kernel)
theorem wm_229 : Cond.methodLink RX6 44 yX6_part ∈ wsL_law := List.mem_of_getElem? (i := 229) (by decide +kernel)
theorem wm_230 : Cond.instanceMethod yX6_part ∈ wsL_law := List.mem_of_getElem? (i := 230) (by decide +kernel)
theorem wm_231 : Cond.selects RX6 yX6_part yX6_part ∈ wsL_law := List.mem_of_getElem? (i := 231) (by decide +kernel)
theorem wm_232 : Cond.code yX6_part cX6_part 3 (some .int) ∈ wsL_law := List.mem_of_getElem? (i := 232) (by decide +kernel)
theorem wm_233 : Cond.methodLink RX6 108 yX6_emptyPage ∈ wsL_law := List.mem_of_getElem? (i := 233) (by decide +kernel)
theorem wm_234 : Cond.instanceMethod yX6_emptyPage ∈ wsL_law := List.mem_of_getElem? (i := 234) (by decide +kernel)
theorem wm_235 : Cond.selects RX6 yX6_emptyPage yX6_emptyPage ∈ wsL_law := List.mem_of_getElem? (i := 235) (by decide +kernel)
theorem wm_236 : Cond.code yX6_emptyPage cX6_emptyPage 4 none ∈ wsL_law := List.mem_of_getElem? (i := 236) (by decide +kernel)
theorem wm_237 : Cond.methodLink RX6 112 yX6_greatestWear ∈ wsL_law := List.mem_of_getElem? (i := 237) (by decide +kernel)
theorem wm_238 : Cond.instanceMethod yX6_greatestWear ∈ wsL_law := List.mem_of_getElem? (i := 238) (by decide +kernel)
theorem wm_239 : Cond.selects RX6 yX6_greatestWear yX6_greatestWear ∈ wsL_law := List.mem_of_getElem? (i := 239) (by decide +kernel)
theorem wm_240 : Cond.code yX6_greatestWear cX6_greatestWear 5 (some .int) ∈ wsL_law := List.mem_of_getElem? (i := 240) (by decide +kernel)
theorem wm_241 : Cond.methodLink RL 23 yX5_fill ∈ wsL_law := List.mem_of_getElem? (i := 241) (by decide +kernel)
theorem wm_242 : Cond.instanceMethod yX5_fill ∈ wsL_law := List.mem_of_getElem? (i := 242) (by decide +kernel)
theorem wm_243 : Cond.selects RX5 yX5_fill yX5_fill ∈ wsL_law := List.mem_of_getElem? (i := 243) (by decide +kernel)
theorem wm_244 : Cond.code yX5_fill cX5_fill 4 (some .int) ∈ wsL_law := List.mem_of_getElem? (i := 244) (by decide +kernel)
theorem wm_245 : Cond.fieldLink RX5 95 "TrialBoots$Area" "state" "I" ∈ wsL_law := List.mem_of_getElem? (i := 245) (by decide +kernel)
theorem wm_246 : Cond.fieldLink RX5 105 "TrialBoots$Area" "filled" "I" ∈ wsL_law := List.mem_of_getElem? (i := 246) (by decide +kernel)
theorem wm_247 : Cond.methodLink RX5 98 yX0_lacking ∈ wsL_law := List.mem_of_getElem? (i := 247) (by decide +kernel)
theorem wm_248 : Cond.instanceMethod yX0_lacking ∈ wsL_law := List.mem_of_getElem? (i := 248) (by decide +kernel)
theorem wm_249 : Cond.selects RX0 yX0_lacking yX0_lacking ∈ wsL_law := List.mem_of_getElem? (i := 249) (by decide +kernel)
theorem wm_250 : Cond.code yX0_lacking cX0_lacking 1 (some .int) ∈ wsL_law := List.mem_of_getElem? (i := 250) (by decide +kernel)
theorem wm_251 : Cond.methodLink RX5 102 yX0_addWord ∈ wsL_law := List.mem_of_getElem? (i := 251) (by decide +kernel)
theorem wm_252 : Cond.methodLink RL 26 yX6_fill ∈ wsL_law := List.mem_of_getElem? (i := 252) (by decide +kernel)
theorem wm_253 : Cond.instanceMethod yX6_fill ∈ wsL_law := List.mem_of_getElem? (i := 253) (by decide +kernel)
theorem wm_254 : Cond.selects RX6 yX6_fill yX6_fill ∈ wsL_law := List.mem_of_getElem? (i := 254) (by decide +kernel)
theorem wm_255 : Cond.code yX6_fill cX6_fill 3 (some .int) ∈ wsL_law := List.mem_of_getElem? (i := 255) (by decide +kernel)
theorem wm_256 : Cond.methodLink RX6 59 yX6_isHow ∈ wsL_law := List.mem_of_getElem? (i := 256) (by decide +kernel)
theorem wm_257 : Cond.instanceMethod yX6_isHow ∈ wsL_law := List.mem_of_getElem? (i := 257) (by decide +kernel)
theorem wm_258 : Cond.selects RX6 yX6_isHow yX6_isHow ∈ wsL_law := List.mem_of_getElem? (i := 258) (by decide +kernel)
theorem wm_259 : Cond.code yX6_isHow cX6_isHow 3 (some .boolean) ∈ wsL_law := List.mem_of_getElem? (i := 259) (by decide +kernel)
theorem wm_260 : Cond.methodLink RX6 115 yX6_lacks ∈ wsL_law := List.mem_of_getElem? (i := 260) (by decide +kernel)
theorem wm_261 : Cond.instanceMethod yX6_lacks ∈ wsL_law := List.mem_of_getElem? (i := 261) (by decide +kernel)
theorem wm_262 : Cond.selects RX6 yX6_lacks yX6_lacks ∈ wsL_law := List.mem_of_getElem? (i := 262) (by decide +kernel)
theorem wm_263 : Cond.code yX6_lacks cX6_lacks 2 (some .int) ∈ wsL_law := List.mem_of_getElem? (i := 263) (by decide +kernel)
theorem wm_264 : Cond.methodLink RX6 118 yX6_fills ∈ wsL_law := List.mem_of_getElem? (i := 264) (by decide +kernel)
theorem wm_265 : Cond.instanceMethod yX6_fills ∈ wsL_law := List.mem_of_getElem? (i := 265) (by decide +kernel)
theorem wm_266 : Cond.selects RX6 yX6_fills yX6_fills ∈ wsL_law := List.mem_of_getElem? (i := 266) (by decide +kernel)
theorem wm_267 : Cond.code yX6_fills cX6_fills 3 none ∈ wsL_law := List.mem_of_getElem? (i := 267) (by decide +kernel)
theorem wm_268 : Cond.methodLink RL 27 yX5_fillAll ∈ wsL_law := List.mem_of_getElem? (i := 268) (by decide +kernel)
theorem wm_269 : Cond.instanceMethod yX5_fillAll ∈ wsL_law := List.mem_of_getElem? (i := 269) (by decide +kernel)
theorem wm_270 : Cond.selects RX5 yX5_fillAll yX5_fillAll ∈ wsL_law := List.mem_of_getElem? (i := 270) (by decide +kernel)
theorem wm_271 : Cond.code yX5_fillAll cX5_fillAll 5 (some .int) ∈ wsL_law := List.mem_of_getElem? (i := 271) (by decide +kernel)
theorem wm_272 : Cond.methodLink RX5 108 yX3_firstFault ∈ wsL_law := List.mem_of_getElem? (i := 272) (by decide +kernel)
theorem wm_273 : Cond.instanceMethod yX3_firstFault ∈ wsL_law := List.mem_of_getElem? (i := 273) (by decide +kernel)
theorem wm_274 : Cond.selects RX3 yX3_firstFault yX3_firstFault ∈ wsL_law := List.mem_of_getElem? (i := 274) (by decide +kernel)
theorem wm_275 : Cond.code yX3_firstFault cX3_firstFault 2 (some .int) ∈ wsL_law := List.mem_of_getElem? (i := 275) (by decide +kernel)
theorem wm_276 : Cond.fieldLink RX3 21 "TrialBoots$Pad" "length" "I" ∈ wsL_law := List.mem_of_getElem? (i := 276) (by decide +kernel)
theorem wm_277 : Cond.methodLink RX3 25 yX3_digitAt ∈ wsL_law := List.mem_of_getElem? (i := 277) (by decide +kernel)
theorem wm_278 : Cond.instanceMethod yX3_digitAt ∈ wsL_law := List.mem_of_getElem? (i := 278) (by decide +kernel)
theorem wm_279 : Cond.selects RX3 yX3_digitAt yX3_digitAt ∈ wsL_law := List.mem_of_getElem? (i := 279) (by decide +kernel)
theorem wm_280 : Cond.code yX3_digitAt cX3_digitAt 3 (some .int) ∈ wsL_law := List.mem_of_getElem? (i := 280) (by decide +kernel)
theorem wm_281 : Cond.methodLink RX5 111 yX3_words ∈ wsL_law := List.mem_of_getElem? (i := 281) (by decide +kernel)
theorem wm_282 : Cond.instanceMethod yX3_words ∈ wsL_law := List.mem_of_getElem? (i := 282) (by decide +kernel)
theorem wm_283 : Cond.selects RX3 yX3_words yX3_words ∈ wsL_law := List.mem_of_getElem? (i := 283) (by decide +kernel)
theorem wm_284 : Cond.code yX3_words cX3_words 1 (some .int) ∈ wsL_law := List.mem_of_getElem? (i := 284) (by decide +kernel)
theorem wm_285 : Cond.methodLink RX5 114 yX3_wordAt ∈ wsL_law := List.mem_of_getElem? (i := 285) (by decide +kernel)
theorem wm_286 : Cond.instanceMethod yX3_wordAt ∈ wsL_law := List.mem_of_getElem? (i := 286) (by decide +kernel)
theorem wm_287 : Cond.selects RX3 yX3_wordAt yX3_wordAt ∈ wsL_law := List.mem_of_getElem? (i := 287) (by decide +kernel)
theorem wm_288 : Cond.code yX3_wordAt cX3_wordAt 2 (some .int) ∈ wsL_law := List.mem_of_getElem? (i := 288) (by decide +kernel)
theorem wm_289 : Cond.methodLink RX5 117 yX3_clear ∈ wsL_law := List.mem_of_getElem? (i := 289) (by decide +kernel)
theorem wm_290 : Cond.instanceMethod yX3_clear ∈ wsL_law := List.mem_of_getElem? (i := 290) (by decide +kernel)
theorem wm_291 : Cond.selects RX3 yX3_clear yX3_clear ∈ wsL_law := List.mem_of_getElem? (i := 291) (by decide +kernel)
theorem wm_292 : Cond.code yX3_clear cX3_clear 1 none ∈ wsL_law := List.mem_of_getElem? (i := 292) (by decide +kernel)
theorem wm_293 : Cond.methodLink RL 31 yX6_fillAll ∈ wsL_law := List.mem_of_getElem? (i := 293) (by decide +kernel)
theorem wm_294 : Cond.instanceMethod yX6_fillAll ∈ wsL_law := List.mem_of_getElem? (i := 294) (by decide +kernel)
theorem wm_295 : Cond.selects RX6 yX6_fillAll yX6_fillAll ∈ wsL_law := List.mem_of_getElem? (i := 295) (by decide +kernel)
theorem wm_296 : Cond.code yX6_fillAll cX6_fillAll 3 (some .int) ∈ wsL_law := List.mem_of_getElem? (i := 296) (by decide +kernel)
theorem wm_297 : Cond.fieldLink RX6 124 "TrialBootsModel" "padLength" "I" ∈ wsL_law := List.mem_of_getElem? (i := 297) (by decide +kernel)
theorem wm_298 : Cond.methodLink RX6 121 yX6_findFault ∈ wsL_law := List.mem_of_getElem? (i := 298) (by decide +kernel)
theorem wm_299 : Cond.instanceMethod yX6_findFault ∈ wsL_law := List.mem_of_getElem? (i := 299) (by decide +kernel)
theorem wm_300 : Cond.selects RX6 yX6_findFault yX6_findFault ∈ wsL_law := List.mem_of_getElem? (i := 300) (by decide +kernel)
theorem wm_301 : Cond.code yX6_findFault cX6_findFault 2 (some .int) ∈ wsL_law := List.mem_of_getElem? (i := 301) (by decide +kernel)
theorem wm_302 : Cond.methodLink RX6 141 yX6_digitOf ∈ wsL_law := List.mem_of_getElem? (i := 302) (by decide +kernel)
theorem wm_303 : Cond.static yX6_digitOf ∈ wsL_law := List.mem_of_getElem? (i := 303) (by decide +kernel)
theorem wm_304 : Cond.code yX6_digitOf cX6_digitOf 1 (some .int) ∈ wsL_law := List.mem_of_getElem? (i := 304) (by decide +kernel)
theorem wm_305 : Cond.methodLink RX6 127 yX6_padWord ∈ wsL_law := List.mem_of_getElem? (i := 305) (by decide +kernel)
theorem wm_306 : Cond.instanceMethod yX6_padWord ∈ wsL_law := List.mem_of_getElem? (i := 306) (by decide +kernel)
theorem wm_307 : Cond.selects RX6 yX6_padWord yX6_padWord ∈ wsL_law := List.mem_of_getElem? (i := 307) (by decide +kernel)
theorem wm_308 : Cond.code yX6_padWord cX6_padWord 2 (some .int) ∈ wsL_law := List.mem_of_getElem? (i := 308) (by decide +kernel)
theorem wm_309 : Cond.methodLink RL 32 yX5_finish ∈ wsL_law := List.mem_of_getElem? (i := 309) (by decide +kernel)
theorem wm_310 : Cond.instanceMethod yX5_finish ∈ wsL_law := List.mem_of_getElem? (i := 310) (by decide +kernel)
theorem wm_311 : Cond.selects RX5 yX5_finish yX5_finish ∈ wsL_law := List.mem_of_getElem? (i := 311) (by decide +kernel)
theorem wm_312 : Cond.code yX5_finish cX5_finish 3 (some .int) ∈ wsL_law := List.mem_of_getElem? (i := 312) (by decide +kernel)
theorem wm_313 : Cond.fieldLink RX5 124 "TrialBoots$Area" "tries" "I" ∈ wsL_law := List.mem_of_getElem? (i := 313) (by decide +kernel)
theorem wm_314 : Cond.methodLink RX5 120 yX0_isSound ∈ wsL_law := List.mem_of_getElem? (i := 314) (by decide +kernel)
theorem wm_315 : Cond.instanceMethod yX0_isSound ∈ wsL_law := List.mem_of_getElem? (i := 315) (by decide +kernel)
theorem wm_316 : Cond.selects RX0 yX0_isSound yX0_isSound ∈ wsL_law := List.mem_of_getElem? (i := 316) (by decide +kernel)
theorem wm_317 : Cond.code yX0_isSound cX0_isSound 1 (some .boolean) ∈ wsL_law := List.mem_of_getElem? (i := 317) (by decide +kernel)
theorem wm_318 : Cond.methodLink RL 35 yX6_finish ∈ wsL_law := List.mem_of_getElem? (i := 318) (by decide +kernel)
theorem wm_319 : Cond.instanceMethod yX6_finish ∈ wsL_law := List.mem_of_getElem? (i := 319) (by decide +kernel)
theorem wm_320 : Cond.selects RX6 yX6_finish yX6_finish ∈ wsL_law := List.mem_of_getElem? (i := 320) (by decide +kernel)
theorem wm_321 : Cond.code yX6_finish cX6_finish 3 (some .int) ∈ wsL_law := List.mem_of_getElem? (i := 321) (by decide +kernel)
theorem wm_322 : Cond.methodLink RX6 72 yX6_isSound ∈ wsL_law := List.mem_of_getElem? (i := 322) (by decide +kernel)
theorem wm_323 : Cond.instanceMethod yX6_isSound ∈ wsL_law := List.mem_of_getElem? (i := 323) (by decide +kernel)
theorem wm_324 : Cond.selects RX6 yX6_isSound yX6_isSound ∈ wsL_law := List.mem_of_getElem? (i := 324) (by decide +kernel)
theorem wm_325 : Cond.code yX6_isSound cX6_isSound 2 (some .boolean) ∈ wsL_law := List.mem_of_getElem? (i := 325) (by decide +kernel)
theorem wm_326 : Cond.methodLink RX6 51 yX6_sumOf ∈ wsL_law := List.mem_of_getElem? (i := 326) (by decide +kernel)
theorem wm_327 : Cond.instanceMethod yX6_sumOf ∈ wsL_law := List.mem_of_getElem? (i := 327) (by decide +kernel)
theorem wm_328 : Cond.selects RX6 yX6_sumOf yX6_sumOf ∈ wsL_law := List.mem_of_getElem? (i := 328) (by decide +kernel)
theorem wm_329 : Cond.code yX6_sumOf cX6_sumOf 5 (some .int) ∈ wsL_law := List.mem_of_getElem? (i := 329) (by decide +kernel)
theorem wm_330 : Cond.methodLink RX6 48 yX6_wordOf ∈ wsL_law := List.mem_of_getElem? (i := 330) (by decide +kernel)
theorem wm_331 : Cond.instanceMethod yX6_wordOf ∈ wsL_law := List.mem_of_getElem? (i := 331) (by decide +kernel)
theorem wm_332 : Cond.selects RX6 yX6_wordOf yX6_wordOf ∈ wsL_law := List.mem_of_getElem? (i := 332) (by decide +kernel)
theorem wm_333 : Cond.code yX6_wordOf cX6_wordOf 3 (some .int) ∈ wsL_law := List.mem_of_getElem? (i := 333) (by decide +kernel)
theorem wm_334 : Cond.methodLink RL 36 yX5_damage ∈ wsL_law := List.mem_of_getElem? (i := 334) (by decide +kernel)
theorem wm_335 : Cond.instanceMethod yX5_damage ∈ wsL_law := List.mem_of_getElem? (i := 335) (by decide +kernel)
theorem wm_336 : Cond.selects RX5 yX5_damage yX5_damage ∈ wsL_law := List.mem_of_getElem? (i := 336) (by decide +kernel)
theorem wm_337 : Cond.code yX5_damage cX5_damage 5 (some .int) ∈ wsL_law := List.mem_of_getElem? (i := 337) (by decide +kernel)
theorem wm_338 : Cond.fieldLink RX5 127 "TrialBoots$Area" "words" "[I" ∈ wsL_law := List.mem_of_getElem? (i := 338) (by decide +kernel)
theorem wm_339 : Cond.methodLink RL 40 yX6_damage ∈ wsL_law := List.mem_of_getElem? (i := 339) (by decide +kernel)
theorem wm_340 : Cond.instanceMethod yX6_damage ∈ wsL_law := List.mem_of_getElem? (i := 340) (by decide +kernel)
theorem wm_341 : Cond.selects RX6 yX6_damage yX6_damage ∈ wsL_law := List.mem_of_getElem? (i := 341) (by decide +kernel)
theorem wm_342 : Cond.code yX6_damage cX6_damage 4 (some .int) ∈ wsL_law := List.mem_of_getElem? (i := 342) (by decide +kernel)
theorem wm_343 : Cond.methodLink RL 41 yX5_repair ∈ wsL_law := List.mem_of_getElem? (i := 343) (by decide +kernel)
theorem wm_344 : Cond.instanceMethod yX5_repair ∈ wsL_law := List.mem_of_getElem? (i := 344) (by decide +kernel)
theorem wm_345 : Cond.selects RX5 yX5_repair yX5_repair ∈ wsL_law := List.mem_of_getElem? (i := 345) (by decide +kernel)
theorem wm_346 : Cond.code yX5_repair cX5_repair 3 (some .int) ∈ wsL_law := List.mem_of_getElem? (i := 346) (by decide +kernel)
theorem wm_347 : Cond.methodLink RX5 129 yX0_takeGoldenImage ∈ wsL_law := List.mem_of_getElem? (i := 347) (by decide +kernel)
theorem wm_348 : Cond.methodLink RL 44 yX6_repair ∈ wsL_law := List.mem_of_getElem? (i := 348) (by decide +kernel)
theorem wm_349 : Cond.instanceMethod yX6_repair ∈ wsL_law := List.mem_of_getElem? (i := 349) (by decide +kernel)
theorem wm_350 : Cond.selects RX6 yX6_repair yX6_repair ∈ wsL_law := List.mem_of_getElem? (i := 350) (by decide +kernel)
theorem wm_351 : Cond.code yX6_repair cX6_repair 3 (some .int) ∈ wsL_law := List.mem_of_getElem? (i := 351) (by decide +kernel)
theorem wm_352 : Cond.methodLink RL 45 yX5_start ∈ wsL_law := List.mem_of_getElem? (i := 352) (by decide +kernel)
theorem wm_353 : Cond.instanceMethod yX5_start ∈ wsL_law := List.mem_of_getElem? (i := 353) (by decide +kernel)
theorem wm_354 : Cond.selects RX5 yX5_start yX5_start ∈ wsL_law := List.mem_of_getElem? (i := 354) (by decide +kernel)
theorem wm_355 : Cond.code yX5_start cX5_start 2 (some .int) ∈ wsL_law := List.mem_of_getElem? (i := 355) (by decide +kernel)
theorem wm_356 : Cond.methodLink RX5 132 yX1_startBy ∈ wsL_law := List.mem_of_getElem? (i := 356) (by decide +kernel)
theorem wm_357 : Cond.instanceMethod yX1_startBy ∈ wsL_law := List.mem_of_getElem? (i := 357) (by decide +kernel)
theorem wm_358 : Cond.selects RX1 yX1_startBy yX1_startBy ∈ wsL_law := List.mem_of_getElem? (i := 358) (by decide +kernel)
theorem wm_359 : Cond.code yX1_startBy cX1_startBy 2 none ∈ wsL_law := List.mem_of_getElem? (i := 359) (by decide +kernel)
theorem wm_360 : Cond.methodLink RX1 84 yX0_loseFilling ∈ wsL_law := List.mem_of_getElem? (i := 360) (by decide +kernel)
theorem wm_361 : Cond.instanceMethod yX0_loseFilling ∈ wsL_law := List.mem_of_getElem? (i := 361) (by decide +kernel)
theorem wm_362 : Cond.selects RX0 yX0_loseFilling yX0_loseFilling ∈ wsL_law := List.mem_of_getElem? (i := 362) (by decide +kernel)
theorem wm_363 : Cond.code yX0_loseFilling cX0_loseFilling 1 none ∈ wsL_law := List.mem_of_getElem? (i := 363) (by decide +kernel)
theorem wm_364 : Cond.methodLink RX1 87 yX0_giveUpTrial ∈ wsL_law := List.mem_of_getElem? (i := 364) (by decide +kernel)
theorem wm_365 : Cond.instanceMethod yX0_giveUpTrial ∈ wsL_law := List.mem_of_getElem? (i := 365) (by decide +kernel)
theorem wm_366 : Cond.selects RX0 yX0_giveUpTrial yX0_giveUpTrial ∈ wsL_law := List.mem_of_getElem? (i := 366) (by decide +kernel)
theorem wm_367 : Cond.code yX0_giveUpTrial cX0_giveUpTrial 1 none ∈ wsL_law := List.mem_of_getElem? (i := 367) (by decide +kernel)
theorem wm_368 : Cond.methodLink RX1 90 yX1_soundArea ∈ wsL_law := List.mem_of_getElem? (i := 368) (by decide +kernel)
theorem wm_369 : Cond.instanceMethod yX1_soundArea ∈ wsL_law := List.mem_of_getElem? (i := 369) (by decide +kernel)
theorem wm_370 : Cond.selects RX1 yX1_soundArea yX1_soundArea ∈ wsL_law := List.mem_of_getElem? (i := 370) (by decide +kernel)
theorem wm_371 : Cond.code yX1_soundArea cX1_soundArea 3 (some .int) ∈ wsL_law := List.mem_of_getElem? (i := 371) (by decide +kernel)
theorem wm_372 : Cond.fieldLink RX1 67 "TrialBoots$Area" "state" "I" ∈ wsL_law := List.mem_of_getElem? (i := 372) (by decide +kernel)
theorem wm_373 : Cond.methodLink RX1 101 yX1_bestArea ∈ wsL_law := List.mem_of_getElem? (i := 373) (by decide +kernel)
theorem wm_374 : Cond.instanceMethod yX1_bestArea ∈ wsL_law := List.mem_of_getElem? (i := 374) (by decide +kernel)
theorem wm_375 : Cond.selects RX1 yX1_bestArea yX1_bestArea ∈ wsL_law := List.mem_of_getElem? (i := 375) (by decide +kernel)
theorem wm_376 : Cond.code yX1_bestArea cX1_bestArea 2 (some .int) ∈ wsL_law := List.mem_of_getElem? (i := 376) (by decide +kernel)
theorem wm_377 : Cond.methodLink RX1 108 yX1_newestThatIs ∈ wsL_law := List.mem_of_getElem? (i := 377) (by decide +kernel)
theorem wm_378 : Cond.instanceMethod yX1_newestThatIs ∈ wsL_law := List.mem_of_getElem? (i := 378) (by decide +kernel)
theorem wm_379 : Cond.selects RX1 yX1_newestThatIs yX1_newestThatIs ∈ wsL_law := List.mem_of_getElem? (i := 379) (by decide +kernel)
theorem wm_380 : Cond.code yX1_newestThatIs cX1_newestThatIs 2 (some .int) ∈ wsL_law := List.mem_of_getElem? (i := 380) (by decide +kernel)
theorem wm_381 : Cond.fieldLink RX1 111 "TrialBoots$Area" "version" "I" ∈ wsL_law := List.mem_of_getElem? (i := 381) (by decide +kernel)
theorem wm_382 : Cond.methodLink RX1 104 yX0_isSound ∈ wsL_law := List.mem_of_getElem? (i := 382) (by decide +kernel)
theorem wm_383 : Cond.methodLink RX1 94 yX0_useTry ∈ wsL_law := List.mem_of_getElem? (i := 383) (by decide +kernel)
theorem wm_384 : Cond.instanceMethod yX0_useTry ∈ wsL_law := List.mem_of_getElem? (i := 384) (by decide +kernel)
theorem wm_385 : Cond.selects RX0 yX0_useTry yX0_useTry ∈ wsL_law := List.mem_of_getElem? (i := 385) (by decide +kernel)
theorem wm_386 : Cond.code yX0_useTry cX0_useTry 1 none ∈ wsL_law := List.mem_of_getElem? (i := 386) (by decide +kernel)
theorem wm_387 : Cond.methodLink RX1 97 yX4_add ∈ wsL_law := List.mem_of_getElem? (i := 387) (by decide +kernel)
theorem wm_388 : Cond.instanceMethod yX4_add ∈ wsL_law := List.mem_of_getElem? (i := 388) (by decide +kernel)
theorem wm_389 : Cond.selects RX4 yX4_add yX4_add ∈ wsL_law := List.mem_of_getElem? (i := 389) (by decide +kernel)
theorem wm_390 : Cond.code yX4_add cX4_add 5 none ∈ wsL_law := List.mem_of_getElem? (i := 390) (by decide +kernel)
theorem wm_391 : Cond.methodLink RX4 37 Lib.Math.min.name ∈ wsL_law := List.mem_of_getElem? (i := 391) (by decide +kernel)
theorem wm_392 : Cond.methodLink RX4 43 yX4_indexOf ∈ wsL_law := List.mem_of_getElem? (i := 392) (by decide +kernel)
theorem wm_393 : Cond.instanceMethod yX4_indexOf ∈ wsL_law := List.mem_of_getElem? (i := 393) (by decide +kernel)
theorem wm_394 : Cond.selects RX4 yX4_indexOf yX4_indexOf ∈ wsL_law := List.mem_of_getElem? (i := 394) (by decide +kernel)
theorem wm_395 : Cond.code yX4_indexOf cX4_indexOf 2 (some .int) ∈ wsL_law := List.mem_of_getElem? (i := 395) (by decide +kernel)
theorem wm_396 : Cond.methodLink RX4 47 yJ9_floorMod_7cf53 ∈ wsL_law := List.mem_of_getElem? (i := 396) (by decide +kernel)
theorem wm_397 : Cond.methodLink RL 49 yX6_start ∈ wsL_law := List.mem_of_getElem? (i := 397) (by decide +kernel)
theorem wm_398 : Cond.instanceMethod yX6_start ∈ wsL_law := List.mem_of_getElem? (i := 398) (by decide +kernel)
theorem wm_399 : Cond.selects RX6 yX6_start yX6_start ∈ wsL_law := List.mem_of_getElem? (i := 399) (by decide +kernel)
theorem wm_400 : Cond.code yX6_start cX6_start 2 (some .int) ∈ wsL_law := List.mem_of_getElem? (i := 400) (by decide +kernel)
theorem wm_401 : Cond.methodLink RX6 87 yX6_starts ∈ wsL_law := List.mem_of_getElem? (i := 401) (by decide +kernel)
theorem wm_402 : Cond.instanceMethod yX6_starts ∈ wsL_law := List.mem_of_getElem? (i := 402) (by decide +kernel)
theorem wm_403 : Cond.selects RX6 yX6_starts yX6_starts ∈ wsL_law := List.mem_of_getElem? (i := 403) (by decide +kernel)
theorem wm_404 : Cond.code yX6_starts cX6_starts 3 none ∈ wsL_law := List.mem_of_getElem? (i := 404) (by decide +kernel)
theorem wm_405 : Cond.methodLink RX6 68 yX6_chosen ∈ wsL_law := List.mem_of_getElem? (i := 405) (by decide +kernel)
theorem wm_406 : Cond.instanceMethod yX6_chosen ∈ wsL_law := List.mem_of_getElem? (i := 406) (by decide +kernel)
theorem wm_407 : Cond.selects RX6 yX6_chosen yX6_chosen ∈ wsL_law := List.mem_of_getElem? (i := 407) (by decide +kernel)
theorem wm_408 : Cond.code yX6_chosen cX6_chosen 2 (some .int) ∈ wsL_law := List.mem_of_getElem? (i := 408) (by decide +kernel)
theorem wm_409 : Cond.methodLink RX6 65 yX6_greatest ∈ wsL_law := List.mem_of_getElem? (i := 409) (by decide +kernel)
theorem wm_410 : Cond.instanceMethod yX6_greatest ∈ wsL_law := List.mem_of_getElem? (i := 410) (by decide +kernel)
theorem wm_411 : Cond.selects RX6 yX6_greatest yX6_greatest ∈ wsL_law := List.mem_of_getElem? (i := 411) (by decide +kernel)
theorem wm_412 : Cond.code yX6_greatest cX6_greatest 4 (some .int) ∈ wsL_law := List.mem_of_getElem? (i := 412) (by decide +kernel)
theorem wm_413 : Cond.methodLink RX6 62 yX6_canBe ∈ wsL_law := List.mem_of_getElem? (i := 413) (by decide +kernel)
theorem wm_414 : Cond.instanceMethod yX6_canBe ∈ wsL_law := List.mem_of_getElem? (i := 414) (by decide +kernel)
theorem wm_415 : Cond.selects RX6 yX6_canBe yX6_canBe ∈ wsL_law := List.mem_of_getElem? (i := 415) (by decide +kernel)
theorem wm_416 : Cond.code yX6_canBe cX6_canBe 3 (some .boolean) ∈ wsL_law := List.mem_of_getElem? (i := 416) (by decide +kernel)
theorem wm_417 : Cond.methodLink RX6 76 yX6_remember ∈ wsL_law := List.mem_of_getElem? (i := 417) (by decide +kernel)
theorem wm_418 : Cond.instanceMethod yX6_remember ∈ wsL_law := List.mem_of_getElem? (i := 418) (by decide +kernel)
theorem wm_419 : Cond.selects RX6 yX6_remember yX6_remember ∈ wsL_law := List.mem_of_getElem? (i := 419) (by decide +kernel)
theorem wm_420 : Cond.code yX6_remember cX6_remember 3 none ∈ wsL_law := List.mem_of_getElem? (i := 420) (by decide +kernel)
theorem wm_421 : Cond.methodLink RL 50 yX5_pass ∈ wsL_law := List.mem_of_getElem? (i := 421) (by decide +kernel)
theorem wm_422 : Cond.instanceMethod yX5_pass ∈ wsL_law := List.mem_of_getElem? (i := 422) (by decide +kernel)
theorem wm_423 : Cond.selects RX5 yX5_pass yX5_pass ∈ wsL_law := List.mem_of_getElem? (i := 423) (by decide +kernel)
theorem wm_424 : Cond.code yX5_pass cX5_pass 2 (some .int) ∈ wsL_law := List.mem_of_getElem? (i := 424) (by decide +kernel)
theorem wm_425 : Cond.methodLink RX5 135 yX1_letPass ∈ wsL_law := List.mem_of_getElem? (i := 425) (by decide +kernel)
theorem wm_426 : Cond.instanceMethod yX1_letPass ∈ wsL_law := List.mem_of_getElem? (i := 426) (by decide +kernel)
theorem wm_427 : Cond.selects RX1 yX1_letPass yX1_letPass ∈ wsL_law := List.mem_of_getElem? (i := 427) (by decide +kernel)
theorem wm_428 : Cond.code yX1_letPass cX1_letPass 4 (some .int) ∈ wsL_law := List.mem_of_getElem? (i := 428) (by decide +kernel)
theorem wm_429 : Cond.methodLink RX1 114 yX1_startsInTick ∈ wsL_law := List.mem_of_getElem? (i := 429) (by decide +kernel)
theorem wm_430 : Cond.instanceMethod yX1_startsInTick ∈ wsL_law := List.mem_of_getElem? (i := 430) (by decide +kernel)
theorem wm_431 : Cond.selects RX1 yX1_startsInTick yX1_startsInTick ∈ wsL_law := List.mem_of_getElem? (i := 431) (by decide +kernel)
theorem wm_432 : Cond.code yX1_startsInTick cX1_startsInTick 4 (some .boolean) ∈ wsL_law := List.mem_of_getElem? (i := 432) (by decide +kernel)
theorem wm_433 : Cond.fieldLink RX1 117 "TrialBoots$Area" "words" "[I" ∈ wsL_law := List.mem_of_getElem? (i := 433) (by decide +kernel)
theorem wm_434 : Cond.methodLink RX1 120 yX1_startBy ∈ wsL_law := List.mem_of_getElem? (i := 434) (by decide +kernel)
theorem wm_435 : Cond.methodLink RL 53 yX6_pass ∈ wsL_law := List.mem_of_getElem? (i := 435) (by decide +kernel)
theorem wm_436 : Cond.instanceMethod yX6_pass ∈ wsL_law := List.mem_of_getElem? (i := 436) (by decide +kernel)
theorem wm_437 : Cond.selects RX6 yX6_pass yX6_pass ∈ wsL_law := List.mem_of_getElem? (i := 437) (by decide +kernel)
theorem wm_438 : Cond.code yX6_pass cX6_pass 2 (some .int) ∈ wsL_law := List.mem_of_getElem? (i := 438) (by decide +kernel)
theorem wm_439 : Cond.methodLink RX6 130 yX6_passes ∈ wsL_law := List.mem_of_getElem? (i := 439) (by decide +kernel)
theorem wm_440 : Cond.instanceMethod yX6_passes ∈ wsL_law := List.mem_of_getElem? (i := 440) (by decide +kernel)
theorem wm_441 : Cond.selects RX6 yX6_passes yX6_passes ∈ wsL_law := List.mem_of_getElem? (i := 441) (by decide +kernel)
theorem wm_442 : Cond.code yX6_passes cX6_passes 4 (some .int) ∈ wsL_law := List.mem_of_getElem? (i := 442) (by decide +kernel)
theorem wm_443 : Cond.methodLink RX6 90 yX6_tick ∈ wsL_law := List.mem_of_getElem? (i := 443) (by decide +kernel)
theorem wm_444 : Cond.instanceMethod yX6_tick ∈ wsL_law := List.mem_of_getElem? (i := 444) (by decide +kernel)
theorem wm_445 : Cond.selects RX6 yX6_tick yX6_tick ∈ wsL_law := List.mem_of_getElem? (i := 445) (by decide +kernel)
theorem wm_446 : Cond.code yX6_tick cX6_tick 2 (some .boolean) ∈ wsL_law := List.mem_of_getElem? (i := 446) (by decide +kernel)
theorem wm_447 : Cond.methodLink RX6 80 yX6_tells ∈ wsL_law := List.mem_of_getElem? (i := 447) (by decide +kernel)
theorem wm_448 : Cond.instanceMethod yX6_tells ∈ wsL_law := List.mem_of_getElem? (i := 448) (by decide +kernel)
theorem wm_449 : Cond.selects RX6 yX6_tells yX6_tells ∈ wsL_law := List.mem_of_getElem? (i := 449) (by decide +kernel)
theorem wm_450 : Cond.code yX6_tells cX6_tells 3 (some .boolean) ∈ wsL_law := List.mem_of_getElem? (i := 450) (by decide +kernel)
theorem wm_451 : Cond.methodLink RX6 83 yX6_isOnTrial ∈ wsL_law := List.mem_of_getElem? (i := 451) (by decide +kernel)
theorem wm_452 : Cond.instanceMethod yX6_isOnTrial ∈ wsL_law := List.mem_of_getElem? (i := 452) (by decide +kernel)
theorem wm_453 : Cond.selects RX6 yX6_isOnTrial yX6_isOnTrial ∈ wsL_law := List.mem_of_getElem? (i := 453) (by decide +kernel)
theorem wm_454 : Cond.code yX6_isOnTrial cX6_isOnTrial 1 (some .boolean) ∈ wsL_law := List.mem_of_getElem? (i := 454) (by decide +kernel)
theorem wm_455 : Cond.methodLink RL 54 yX5_slot ∈ wsL_law := List.mem_of_getElem? (i := 455) (by decide +kernel)
theorem wm_456 : Cond.instanceMethod yX5_slot ∈ wsL_law := List.mem_of_getElem? (i := 456) (by decide +kernel)
theorem wm_457 : Cond.selects RX5 yX5_slot yX5_slot ∈ wsL_law := List.mem_of_getElem? (i := 457) (by decide +kernel)
theorem wm_458 : Cond.code yX5_slot cX5_slot 4 (some .int) ∈ wsL_law := List.mem_of_getElem? (i := 458) (by decide +kernel)
theorem wm_459 : Cond.fieldLink RX5 138 "TrialBoots$Area" "version" "I" ∈ wsL_law := List.mem_of_getElem? (i := 459) (by decide +kernel)
theorem wm_460 : Cond.fieldLink RX5 141 "TrialBoots$Area" "length" "I" ∈ wsL_law := List.mem_of_getElem? (i := 460) (by decide +kernel)
theorem wm_461 : Cond.fieldLink RX5 144 "TrialBoots$Area" "toldSum" "I" ∈ wsL_law := List.mem_of_getElem? (i := 461) (by decide +kernel)
theorem wm_462 : Cond.methodLink RX5 147 yX0_sumOfImage ∈ wsL_law := List.mem_of_getElem? (i := 462) (by decide +kernel)
theorem wm_463 : Cond.methodLink RX5 150 yX0_wornOutPages ∈ wsL_law := List.mem_of_getElem? (i := 463) (by decide +kernel)
theorem wm_464 : Cond.instanceMethod yX0_wornOutPages ∈ wsL_law := List.mem_of_getElem? (i := 464) (by decide +kernel)
theorem wm_465 : Cond.selects RX0 yX0_wornOutPages yX0_wornOutPages ∈ wsL_law := List.mem_of_getElem? (i := 465) (by decide +kernel)
theorem wm_466 : Cond.code yX0_wornOutPages cX0_wornOutPages 4 (some .int) ∈ wsL_law := List.mem_of_getElem? (i := 466) (by decide +kernel)
theorem wm_467 : Cond.methodLink RL 57 yX6_slot ∈ wsL_law := List.mem_of_getElem? (i := 467) (by decide +kernel)
theorem wm_468 : Cond.instanceMethod yX6_slot ∈ wsL_law := List.mem_of_getElem? (i := 468) (by decide +kernel)
theorem wm_469 : Cond.selects RX6 yX6_slot yX6_slot ∈ wsL_law := List.mem_of_getElem? (i := 469) (by decide +kernel)
theorem wm_470 : Cond.code yX6_slot cX6_slot 3 (some .int) ∈ wsL_law := List.mem_of_getElem? (i := 470) (by decide +kernel)
theorem wm_471 : Cond.methodLink RX6 133 yX6_wornMany ∈ wsL_law := List.mem_of_getElem? (i := 471) (by decide +kernel)
theorem wm_472 : Cond.instanceMethod yX6_wornMany ∈ wsL_law := List.mem_of_getElem? (i := 472) (by decide +kernel)
theorem wm_473 : Cond.selects RX6 yX6_wornMany yX6_wornMany ∈ wsL_law := List.mem_of_getElem? (i := 473) (by decide +kernel)
theorem wm_474 : Cond.code yX6_wornMany cX6_wornMany 4 (some .int) ∈ wsL_law := List.mem_of_getElem? (i := 474) (by decide +kernel)
theorem wm_475 : Cond.methodLink RL 58 yX5_word ∈ wsL_law := List.mem_of_getElem? (i := 475) (by decide +kernel)
theorem wm_476 : Cond.instanceMethod yX5_word ∈ wsL_law := List.mem_of_getElem? (i := 476) (by decide +kernel)
theorem wm_477 : Cond.selects RX5 yX5_word yX5_word ∈ wsL_law := List.mem_of_getElem? (i := 477) (by decide +kernel)
theorem wm_478 : Cond.code yX5_word cX5_word 3 (some .int) ∈ wsL_law := List.mem_of_getElem? (i := 478) (by decide +kernel)
theorem wm_479 : Cond.methodLink RL 61 yX6_word ∈ wsL_law := List.mem_of_getElem? (i := 479) (by decide +kernel)
theorem wm_480 : Cond.instanceMethod yX6_word ∈ wsL_law := List.mem_of_getElem? (i := 480) (by decide +kernel)
theorem wm_481 : Cond.selects RX6 yX6_word yX6_word ∈ wsL_law := List.mem_of_getElem? (i := 481) (by decide +kernel)
theorem wm_482 : Cond.code yX6_word cX6_word 3 (some .int) ∈ wsL_law := List.mem_of_getElem? (i := 482) (by decide +kernel)
theorem wm_483 : Cond.methodLink RL 62 yX5_wear ∈ wsL_law := List.mem_of_getElem? (i := 483) (by decide +kernel)
theorem wm_484 : Cond.instanceMethod yX5_wear ∈ wsL_law := List.mem_of_getElem? (i := 484) (by decide +kernel)
theorem wm_485 : Cond.selects RX5 yX5_wear yX5_wear ∈ wsL_law := List.mem_of_getElem? (i := 485) (by decide +kernel)
theorem wm_486 : Cond.code yX5_wear cX5_wear 3 (some .int) ∈ wsL_law := List.mem_of_getElem? (i := 486) (by decide +kernel)
theorem wm_487 : Cond.fieldLink RX5 153 "TrialBoots$Area" "wears" "[I" ∈ wsL_law := List.mem_of_getElem? (i := 487) (by decide +kernel)
theorem wm_488 : Cond.methodLink RL 65 yX6_wear ∈ wsL_law := List.mem_of_getElem? (i := 488) (by decide +kernel)
theorem wm_489 : Cond.instanceMethod yX6_wear ∈ wsL_law := List.mem_of_getElem? (i := 489) (by decide +kernel)
theorem wm_490 : Cond.selects RX6 yX6_wear yX6_wear ∈ wsL_law := List.mem_of_getElem? (i := 490) (by decide +kernel)
theorem wm_491 : Cond.code yX6_wear cX6_wear 3 (some .int) ∈ wsL_law := List.mem_of_getElem? (i := 491) (by decide +kernel)
theorem wm_492 : Cond.methodLink RL 66 yX5_past ∈ wsL_law := List.mem_of_getElem? (i := 492) (by decide +kernel)
theorem wm_493 : Cond.instanceMethod yX5_past ∈ wsL_law := List.mem_of_getElem? (i := 493) (by decide +kernel)
theorem wm_494 : Cond.selects RX5 yX5_past yX5_past ∈ wsL_law := List.mem_of_getElem? (i := 494) (by decide +kernel)
theorem wm_495 : Cond.code yX5_past cX5_past 4 (some .int) ∈ wsL_law := List.mem_of_getElem? (i := 495) (by decide +kernel)
theorem wm_496 : Cond.fieldLink RX5 156 "TrialBoots$Device" "starts" "LTrialBoots$Starts;" ∈ wsL_law := List.mem_of_getElem? (i := 496) (by decide +kernel)
theorem wm_497 : Cond.fieldLink RX5 160 "TrialBoots$Starts" "kept" "I" ∈ wsL_law := List.mem_of_getElem? (i := 497) (by decide +kernel)
theorem wm_498 : Cond.fieldLink RX5 168 "TrialBoots$Starts" "areas" "[I" ∈ wsL_law := List.mem_of_getElem? (i := 498) (by decide +kernel)
theorem wm_499 : Cond.fieldLink RX5 171 "TrialBoots$Starts" "causes" "[I" ∈ wsL_law := List.mem_of_getElem? (i := 499) (by decide +kernel)
theorem wm_500 : Cond.fieldLink RX5 174 "TrialBoots$Starts" "ticks" "[I" ∈ wsL_law := List.mem_of_getElem? (i := 500) (by decide +kernel)
theorem wm_501 : Cond.methodLink RX5 165 yX4_indexOf ∈ wsL_law := List.mem_of_getElem? (i := 501) (by decide +kernel)
theorem wm_502 : Cond.methodLink RL 69 yX6_past ∈ wsL_law := List.mem_of_getElem? (i := 502) (by decide +kernel)
theorem wm_503 : Cond.instanceMethod yX6_past ∈ wsL_law := List.mem_of_getElem? (i := 503) (by decide +kernel)
theorem wm_504 : Cond.selects RX6 yX6_past yX6_past ∈ wsL_law := List.mem_of_getElem? (i := 504) (by decide +kernel)
theorem wm_505 : Cond.code yX6_past cX6_past 3 (some .int) ∈ wsL_law := List.mem_of_getElem? (i := 505) (by decide +kernel)
theorem wm_506 : Cond.methodLink RL 70 yX5_count ∈ wsL_law := List.mem_of_getElem? (i := 506) (by decide +kernel)
theorem wm_507 : Cond.instanceMethod yX5_count ∈ wsL_law := List.mem_of_getElem? (i := 507) (by decide +kernel)
theorem wm_508 : Cond.selects RX5 yX5_count yX5_count ∈ wsL_law := List.mem_of_getElem? (i := 508) (by decide +kernel)
theorem wm_509 : Cond.code yX5_count cX5_count 2 (some .int) ∈ wsL_law := List.mem_of_getElem? (i := 509) (by decide +kernel)
theorem wm_510 : Cond.fieldLink RX5 177 "TrialBoots$Device" "ticks" "I" ∈ wsL_law := List.mem_of_getElem? (i := 510) (by decide +kernel)
theorem wm_511 : Cond.fieldLink RX5 179 "TrialBoots$Device" "hungTicks" "I" ∈ wsL_law := List.mem_of_getElem? (i := 511) (by decide +kernel)
theorem wm_512 : Cond.fieldLink RX5 182 "TrialBoots$Starts" "all" "I" ∈ wsL_law := List.mem_of_getElem? (i := 512) (by decide +kernel)
theorem wm_513 : Cond.fieldLink RX5 185 "TrialBoots$Starts" "byWatchdog" "I" ∈ wsL_law := List.mem_of_getElem? (i := 513) (by decide +kernel)
theorem wm_514 : Cond.fieldLink RX5 188 "TrialBoots$Device" "allTicks" "I" ∈ wsL_law := List.mem_of_getElem? (i := 514) (by decide +kernel)
theorem wm_515 : Cond.fieldLink RX5 191 "TrialBoots$Pad" "length" "I" ∈ wsL_law := List.mem_of_getElem? (i := 515) (by decide +kernel)
theorem wm_516 : Cond.fieldLink RX5 192 "TrialBoots$History" "size" "I" ∈ wsL_law := List.mem_of_getElem? (i := 516) (by decide +kernel)
theorem wm_517 : Cond.methodLink RL 73 yX6_count ∈ wsL_law := List.mem_of_getElem? (i := 517) (by decide +kernel)
theorem wm_518 : Cond.instanceMethod yX6_count ∈ wsL_law := List.mem_of_getElem? (i := 518) (by decide +kernel)
theorem wm_519 : Cond.selects RX6 yX6_count yX6_count ∈ wsL_law := List.mem_of_getElem? (i := 519) (by decide +kernel)
theorem wm_520 : Cond.code yX6_count cX6_count 2 (some .int) ∈ wsL_law := List.mem_of_getElem? (i := 520) (by decide +kernel)
theorem wm_521 : Cond.methodLink RL 74 yX5_padSum ∈ wsL_law := List.mem_of_getElem? (i := 521) (by decide +kernel)
theorem wm_522 : Cond.instanceMethod yX5_padSum ∈ wsL_law := List.mem_of_getElem? (i := 522) (by decide +kernel)
theorem wm_523 : Cond.selects RX5 yX5_padSum yX5_padSum ∈ wsL_law := List.mem_of_getElem? (i := 523) (by decide +kernel)
theorem wm_524 : Cond.code yX5_padSum cX5_padSum 1 (some .int) ∈ wsL_law := List.mem_of_getElem? (i := 524) (by decide +kernel)
theorem wm_525 : Cond.methodLink RX5 195 yX3_sumOfWords ∈ wsL_law := List.mem_of_getElem? (i := 525) (by decide +kernel)
theorem wm_526 : Cond.instanceMethod yX3_sumOfWords ∈ wsL_law := List.mem_of_getElem? (i := 526) (by decide +kernel)
theorem wm_527 : Cond.selects RX3 yX3_sumOfWords yX3_sumOfWords ∈ wsL_law := List.mem_of_getElem? (i := 527) (by decide +kernel)
theorem wm_528 : Cond.code yX3_sumOfWords cX3_sumOfWords 3 (some .int) ∈ wsL_law := List.mem_of_getElem? (i := 528) (by decide +kernel)
theorem wm_529 : Cond.methodLink RX3 29 yX3_words ∈ wsL_law := List.mem_of_getElem? (i := 529) (by decide +kernel)
theorem wm_530 : Cond.methodLink RX3 33 yX3_wordAt ∈ wsL_law := List.mem_of_getElem? (i := 530) (by decide +kernel)
theorem wm_531 : Cond.methodLink RL 78 yX6_padSum ∈ wsL_law := List.mem_of_getElem? (i := 531) (by decide +kernel)
theorem wm_532 : Cond.instanceMethod yX6_padSum ∈ wsL_law := List.mem_of_getElem? (i := 532) (by decide +kernel)
theorem wm_533 : Cond.selects RX6 yX6_padSum yX6_padSum ∈ wsL_law := List.mem_of_getElem? (i := 533) (by decide +kernel)
theorem wm_534 : Cond.code yX6_padSum cX6_padSum 3 (some .int) ∈ wsL_law := List.mem_of_getElem? (i := 534) (by decide +kernel)
theorem wm_535 : Cond.methodLink RL 79 yX5_ifStarted ∈ wsL_law := List.mem_of_getElem? (i := 535) (by decide +kernel)
theorem wm_536 : Cond.instanceMethod yX5_ifStarted ∈ wsL_law := List.mem_of_getElem? (i := 536) (by decide +kernel)
theorem wm_537 : Cond.selects RX5 yX5_ifStarted yX5_ifStarted ∈ wsL_law := List.mem_of_getElem? (i := 537) (by decide +kernel)
theorem wm_538 : Cond.code yX5_ifStarted cX5_ifStarted 2 (some .int) ∈ wsL_law := List.mem_of_getElem? (i := 538) (by decide +kernel)
theorem wm_539 : Cond.methodLink RX5 198 yX1_copyFrom ∈ wsL_law := List.mem_of_getElem? (i := 539) (by decide +kernel)
theorem wm_540 : Cond.methodLink RX5 201 yX1_badSlots ∈ wsL_law := List.mem_of_getElem? (i := 540) (by decide +kernel)
theorem wm_541 : Cond.instanceMethod yX1_badSlots ∈ wsL_law := List.mem_of_getElem? (i := 541) (by decide +kernel)
theorem wm_542 : Cond.selects RX1 yX1_badSlots yX1_badSlots ∈ wsL_law := List.mem_of_getElem? (i := 542) (by decide +kernel)
theorem wm_543 : Cond.code yX1_badSlots cX1_badSlots 1 (some .int) ∈ wsL_law := List.mem_of_getElem? (i := 543) (by decide +kernel)
theorem wm_544 : Cond.methodLink RL 82 yX6_ifStarted ∈ wsL_law := List.mem_of_getElem? (i := 544) (by decide +kernel)
theorem wm_545 : Cond.instanceMethod yX6_ifStarted ∈ wsL_law := List.mem_of_getElem? (i := 545) (by decide +kernel)
theorem wm_546 : Cond.selects RX6 yX6_ifStarted yX6_ifStarted ∈ wsL_law := List.mem_of_getElem? (i := 546) (by decide +kernel)
theorem wm_547 : Cond.code yX6_ifStarted cX6_ifStarted 4 (some .int) ∈ wsL_law := List.mem_of_getElem? (i := 547) (by decide +kernel)
theorem wm_548 : Cond.methodLink RX6 136 yX6_badMany ∈ wsL_law := List.mem_of_getElem? (i := 548) (by decide +kernel)
theorem wm_549 : Cond.instanceMethod yX6_badMany ∈ wsL_law := List.mem_of_getElem? (i := 549) (by decide +kernel)
theorem wm_550 : Cond.selects RX6 yX6_badMany yX6_badMany ∈ wsL_law := List.mem_of_getElem? (i := 550) (by decide +kernel)
theorem wm_551 : Cond.code yX6_badMany cX6_badMany 1 (some .int) ∈ wsL_law := List.mem_of_getElem? (i := 551) (by decide +kernel)
theorem wm_552 : Cond.methodLink RL 83 yX5_ifPassed ∈ wsL_law := List.mem_of_getElem? (i := 552) (by decide +kernel)
theorem wm_553 : Cond.instanceMethod yX5_ifPassed ∈ wsL_law := List.mem_of_getElem? (i := 553) (by decide +kernel)
theorem wm_554 : Cond.selects RX5 yX5_ifPassed yX5_ifPassed ∈ wsL_law := List.mem_of_getElem? (i := 554) (by decide +kernel)
theorem wm_555 : Cond.code yX5_ifPassed cX5_ifPassed 4 (some .int) ∈ wsL_law := List.mem_of_getElem? (i := 555) (by decide +kernel)
theorem wm_556 : Cond.methodLink RL 86 yX6_ifPassed ∈ wsL_law := List.mem_of_getElem? (i := 556) (by decide +kernel)
theorem wm_557 : Cond.instanceMethod yX6_ifPassed ∈ wsL_law := List.mem_of_getElem? (i := 557) (by decide +kernel)
theorem wm_558 : Cond.selects RX6 yX6_ifPassed yX6_ifPassed ∈ wsL_law := List.mem_of_getElem? (i := 558) (by decide +kernel)
theorem wm_559 : Cond.code yX6_ifPassed cX6_ifPassed 5 (some .int) ∈ wsL_law := List.mem_of_getElem? (i := 559) (by decide +kernel)
theorem wm_560 : Cond.methodLink RL 87 yX5_nextStart ∈ wsL_law := List.mem_of_getElem? (i := 560) (by decide +kernel)
theorem wm_561 : Cond.instanceMethod yX5_nextStart ∈ wsL_law := List.mem_of_getElem? (i := 561) (by decide +kernel)
theorem wm_562 : Cond.selects RX5 yX5_nextStart yX5_nextStart ∈ wsL_law := List.mem_of_getElem? (i := 562) (by decide +kernel)
theorem wm_563 : Cond.code yX5_nextStart cX5_nextStart 2 (some .int) ∈ wsL_law := List.mem_of_getElem? (i := 563) (by decide +kernel)
theorem wm_564 : Cond.methodLink RX5 204 yX1_startsInTick ∈ wsL_law := List.mem_of_getElem? (i := 564) (by decide +kernel)
theorem wm_565 : Cond.methodLink RL 90 yX6_nextStart ∈ wsL_law := List.mem_of_getElem? (i := 565) (by decide +kernel)
theorem wm_566 : Cond.instanceMethod yX6_nextStart ∈ wsL_law := List.mem_of_getElem? (i := 566) (by decide +kernel)
theorem wm_567 : Cond.selects RX6 yX6_nextStart yX6_nextStart ∈ wsL_law := List.mem_of_getElem? (i := 567) (by decide +kernel)
theorem wm_568 : Cond.code yX6_nextStart cX6_nextStart 3 (some .int) ∈ wsL_law := List.mem_of_getElem? (i := 568) (by decide +kernel)
theorem wm_569 : Cond.methodLink RL 91 yX5_lasts ∈ wsL_law := List.mem_of_getElem? (i := 569) (by decide +kernel)
theorem wm_570 : Cond.instanceMethod yX5_lasts ∈ wsL_law := List.mem_of_getElem? (i := 570) (by decide +kernel)
theorem wm_571 : Cond.selects RX5 yX5_lasts yX5_lasts ∈ wsL_law := List.mem_of_getElem? (i := 571) (by decide +kernel)
theorem wm_572 : Cond.code yX5_lasts cX5_lasts 3 (some .int) ∈ wsL_law := List.mem_of_getElem? (i := 572) (by decide +kernel)
theorem wm_573 : Cond.methodLink RL 94 yX6_lasts ∈ wsL_law := List.mem_of_getElem? (i := 573) (by decide +kernel)
theorem wm_574 : Cond.instanceMethod yX6_lasts ∈ wsL_law := List.mem_of_getElem? (i := 574) (by decide +kernel)
theorem wm_575 : Cond.selects RX6 yX6_lasts yX6_lasts ∈ wsL_law := List.mem_of_getElem? (i := 575) (by decide +kernel)
theorem wm_576 : Cond.code yX6_lasts cX6_lasts 4 (some .int) ∈ wsL_law := List.mem_of_getElem? (i := 576) (by decide +kernel)
theorem wm_577 : Cond.methodLink RL 97 yX5_put ∈ wsL_law := List.mem_of_getElem? (i := 577) (by decide +kernel)
theorem wm_578 : Cond.instanceMethod yX5_put ∈ wsL_law := List.mem_of_getElem? (i := 578) (by decide +kernel)
theorem wm_579 : Cond.selects RX5 yX5_put yX5_put ∈ wsL_law := List.mem_of_getElem? (i := 579) (by decide +kernel)
theorem wm_580 : Cond.code yX5_put cX5_put 4 (some .int) ∈ wsL_law := List.mem_of_getElem? (i := 580) (by decide +kernel)
theorem wm_581 : Cond.methodLink RX5 207 yX3_charactersIn ∈ wsL_law := List.mem_of_getElem? (i := 581) (by decide +kernel)
theorem wm_582 : Cond.static yX3_charactersIn ∈ wsL_law := List.mem_of_getElem? (i := 582) (by decide +kernel)
theorem wm_583 : Cond.code yX3_charactersIn cX3_charactersIn 5 (some .int) ∈ wsL_law := List.mem_of_getElem? (i := 583) (by decide +kernel)
theorem wm_584 : Cond.constantLong RX3 15 (255) ∈ wsL_law := List.mem_of_getElem? (i := 584) (by decide +kernel)
theorem wm_585 : Cond.methodLink RX5 211 yX3_append ∈ wsL_law := List.mem_of_getElem? (i := 585) (by decide +kernel)
theorem wm_586 : Cond.instanceMethod yX3_append ∈ wsL_law := List.mem_of_getElem? (i := 586) (by decide +kernel)
theorem wm_587 : Cond.selects RX3 yX3_append yX3_append ∈ wsL_law := List.mem_of_getElem? (i := 587) (by decide +kernel)
theorem wm_588 : Cond.code yX3_append cX3_append 5 none ∈ wsL_law := List.mem_of_getElem? (i := 588) (by decide +kernel)
theorem wm_589 : Cond.methodLink RL 101 yX6_put ∈ wsL_law := List.mem_of_getElem? (i := 589) (by decide +kernel)
theorem wm_590 : Cond.instanceMethod yX6_put ∈ wsL_law := List.mem_of_getElem? (i := 590) (by decide +kernel)
theorem wm_591 : Cond.selects RX6 yX6_put yX6_put ∈ wsL_law := List.mem_of_getElem? (i := 591) (by decide +kernel)
theorem wm_592 : Cond.code yX6_put cX6_put 8 (some .int) ∈ wsL_law := List.mem_of_getElem? (i := 592) (by decide +kernel)
theorem wm_593 : Cond.constantLong RX6 139 (255) ∈ wsL_law := List.mem_of_getElem? (i := 593) (by decide +kernel)
theorem wm_594 : Cond.methodLink RL 102 yX5_wipe ∈ wsL_law := List.mem_of_getElem? (i := 594) (by decide +kernel)
theorem wm_595 : Cond.instanceMethod yX5_wipe ∈ wsL_law := List.mem_of_getElem? (i := 595) (by decide +kernel)
theorem wm_596 : Cond.selects RX5 yX5_wipe yX5_wipe ∈ wsL_law := List.mem_of_getElem? (i := 596) (by decide +kernel)
theorem wm_597 : Cond.code yX5_wipe cX5_wipe 2 (some .int) ∈ wsL_law := List.mem_of_getElem? (i := 597) (by decide +kernel)
theorem wm_598 : Cond.methodLink RL 105 yX6_wipe ∈ wsL_law := List.mem_of_getElem? (i := 598) (by decide +kernel)
theorem wm_599 : Cond.instanceMethod yX6_wipe ∈ wsL_law := List.mem_of_getElem? (i := 599) (by decide +kernel)
theorem wm_600 : Cond.selects RX6 yX6_wipe yX6_wipe ∈ wsL_law := List.mem_of_getElem? (i := 600) (by decide +kernel)
theorem wm_601 : Cond.code yX6_wipe cX6_wipe 2 (some .int) ∈ wsL_law := List.mem_of_getElem? (i := 601) (by decide +kernel)
theorem wm_602 : Cond.methodLink RL 106 yX5_fault ∈ wsL_law := List.mem_of_getElem? (i := 602) (by decide +kernel)
theorem wm_603 : Cond.instanceMethod yX5_fault ∈ wsL_law := List.mem_of_getElem? (i := 603) (by decide +kernel)
theorem wm_604 : Cond.selects RX5 yX5_fault yX5_fault ∈ wsL_law := List.mem_of_getElem? (i := 604) (by decide +kernel)
theorem wm_605 : Cond.code yX5_fault cX5_fault 1 (some .int) ∈ wsL_law := List.mem_of_getElem? (i := 605) (by decide +kernel)
theorem wm_606 : Cond.methodLink RL 109 yX6_fault ∈ wsL_law := List.mem_of_getElem? (i := 606) (by decide +kernel)
theorem wm_607 : Cond.instanceMethod yX6_fault ∈ wsL_law := List.mem_of_getElem? (i := 607) (by decide +kernel)
theorem wm_608 : Cond.selects RX6 yX6_fault yX6_fault ∈ wsL_law := List.mem_of_getElem? (i := 608) (by decide +kernel)
theorem wm_609 : Cond.code yX6_fault cX6_fault 1 (some .int) ∈ wsL_law := List.mem_of_getElem? (i := 609) (by decide +kernel)
theorem wm_610 : Cond.methodLink RL 110 yX5_undo ∈ wsL_law := List.mem_of_getElem? (i := 610) (by decide +kernel)
theorem wm_611 : Cond.instanceMethod yX5_undo ∈ wsL_law := List.mem_of_getElem? (i := 611) (by decide +kernel)
theorem wm_612 : Cond.selects RX5 yX5_undo yX5_undo ∈ wsL_law := List.mem_of_getElem? (i := 612) (by decide +kernel)
theorem wm_613 : Cond.code yX5_undo cX5_undo 1 (some .int) ∈ wsL_law := List.mem_of_getElem? (i := 613) (by decide +kernel)
theorem wm_614 : Cond.methodLink RX5 215 yX2_takeBack ∈ wsL_law := List.mem_of_getElem? (i := 614) (by decide +kernel)
theorem wm_615 : Cond.instanceMethod yX2_takeBack ∈ wsL_law := List.mem_of_getElem? (i := 615) (by decide +kernel)
theorem wm_616 : Cond.selects RX2 yX2_takeBack yX2_takeBack ∈ wsL_law := List.mem_of_getElem? (i := 616) (by decide +kernel)
theorem wm_617 : Cond.code yX2_takeBack cX2_takeBack 2 none ∈ wsL_law := List.mem_of_getElem? (i := 617) (by decide +kernel)
theorem wm_618 : Cond.methodLink RL 113 yX6_undo ∈ wsL_law := List.mem_of_getElem? (i := 618) (by decide +kernel)
theorem wm_619 : Cond.instanceMethod yX6_undo ∈ wsL_law := List.mem_of_getElem? (i := 619) (by decide +kernel)
theorem wm_620 : Cond.selects RX6 yX6_undo yX6_undo ∈ wsL_law := List.mem_of_getElem? (i := 620) (by decide +kernel)
theorem wm_621 : Cond.code yX6_undo cX6_undo 1 (some .int) ∈ wsL_law := List.mem_of_getElem? (i := 621) (by decide +kernel)
theorem wm_622 : Cond.methodLink RL 114 yX5_save ∈ wsL_law := List.mem_of_getElem? (i := 622) (by decide +kernel)
theorem wm_623 : Cond.instanceMethod yX5_save ∈ wsL_law := List.mem_of_getElem? (i := 623) (by decide +kernel)
theorem wm_624 : Cond.selects RX5 yX5_save yX5_save ∈ wsL_law := List.mem_of_getElem? (i := 624) (by decide +kernel)
theorem wm_625 : Cond.code yX5_save cX5_save 2 (some .int) ∈ wsL_law := List.mem_of_getElem? (i := 625) (by decide +kernel)
theorem wm_626 : Cond.methodLink RL 117 yX6_save ∈ wsL_law := List.mem_of_getElem? (i := 626) (by decide +kernel)
theorem wm_627 : Cond.instanceMethod yX6_save ∈ wsL_law := List.mem_of_getElem? (i := 627) (by decide +kernel)
theorem wm_628 : Cond.selects RX6 yX6_save yX6_save ∈ wsL_law := List.mem_of_getElem? (i := 628) (by decide +kernel)
theorem wm_629 : Cond.code yX6_save cX6_save 2 (some .int) ∈ wsL_law := List.mem_of_getElem? (i := 629) (by decide +kernel)
theorem wm_630 : Cond.methodLink RL 118 yX5_restore ∈ wsL_law := List.mem_of_getElem? (i := 630) (by decide +kernel)
theorem wm_631 : Cond.instanceMethod yX5_restore ∈ wsL_law := List.mem_of_getElem? (i := 631) (by decide +kernel)
theorem wm_632 : Cond.selects RX5 yX5_restore yX5_restore ∈ wsL_law := List.mem_of_getElem? (i := 632) (by decide +kernel)
theorem wm_633 : Cond.code yX5_restore cX5_restore 2 (some .int) ∈ wsL_law := List.mem_of_getElem? (i := 633) (by decide +kernel)
theorem wm_634 : Cond.methodLink RL 121 yX6_restore ∈ wsL_law := List.mem_of_getElem? (i := 634) (by decide +kernel)
theorem wm_635 : Cond.instanceMethod yX6_restore ∈ wsL_law := List.mem_of_getElem? (i := 635) (by decide +kernel)
theorem wm_636 : Cond.selects RX6 yX6_restore yX6_restore ∈ wsL_law := List.mem_of_getElem? (i := 636) (by decide +kernel)
theorem wm_637 : Cond.code yX6_restore cX6_restore 2 (some .int) ∈ wsL_law := List.mem_of_getElem? (i := 637) (by decide +kernel)
end
section
/-! THE WORLD: one memory of 164 cells of a fixed geometry. A memory z: z k j is the j-th int of the cell k. Devices: ten blocks of fifteen cells. -/
abbrev tb_M : Type := Nat → Nat → Int32
def tb_up (z : tb_M) (k j : Nat) (v : Int32) : tb_M := fun a b => if a = k ∧ b = j then v else z a b
def tb_cp (z : tb_M) (src dst n : Nat) : tb_M := fun a b => if a = dst ∧ b < n then z src b else z a b
abbrev tb_G : Type := (Nat → ClassId) × (Nat → Nat → Nat) × (Nat → Nat) × ClassId × ClassId × ClassId
abbrev tb_ad (g : tb_G) (k : Nat) : Nat := g.2.2.1 k
def tb_ai (g : tb_G) (n : Nat) (f : Nat → Int32) : va_E := .inl (g.2.2.2.1, n, .inl f)
def tb_area (g : tb_G) (a : Nat) (f : Nat → Int32) : va_E := .inr (0, [.int (f 0), .int (f 1), .int (f 2), .int (f 3), .int (f 4), .int (f 5), .ref (tb_ad g (a + 1)), .ref (tb_ad g (a + 2))])
def tb_dev (g : tb_G) (d : Nat) (f : Nat → Int32) : va_E := .inr (1, [.ref (tb_ad g (d + 1)), .ref (tb_ad g (d + 2)), .ref (tb_ad g (d + 5)), .ref (tb_ad g (d + 8)), .ref (tb_ad g (d + 11)), .int (f 5), .int (f 6), .int (f 7), .int (f 8), .int (f 9)])
def tb_sts (g : tb_G) (q : Nat) (f : Nat → Int32) : va_E := .inr (4, [.int (f 0), .int (f 1), .int (f 2), .ref (tb_ad g (q + 1)), .ref (tb_ad g (q + 2)), .ref (tb_ad g (q + 3))])
def tb_d (g : tb_G) (d c : Nat) (f : Nat → Int32) : va_E := match c with
  | 0 => tb_dev g d f
  | 1 => tb_ai g 3 f
  | 2 => tb_area g (d + 2) f
  | 3 => tb_ai g 32 f
  | 4 => tb_ai g 8 f
  | 5 => tb_area g (d + 5) f
  | 6 => tb_ai g 32 f
  | 7 => tb_ai g 8 f
  | 8 => tb_area g (d + 8) f
  | 9 => tb_ai g 32 f
  | 10 => tb_ai g 8 f
  | 11 => tb_sts g (d + 11) f
  | _ => tb_ai g 12 f
def tb_x (g : tb_G) (c : Nat) (f : Nat → Int32) : va_E := match c with
  | 0 => .inr (5, [.ref (tb_ad g 0), .ref (tb_ad g 15), .ref (tb_ad g 151), .ref (tb_ad g 152), .ref (tb_ad g 153), .ref (tb_ad g 155)])
  | 1 => .inl (g.2.2.2.2.2, 2, .inr (.inr (.inr (.inr (fun j => some (tb_ad g (30 + 15 * j)))))))
  | 2 => .inl (g.2.2.2.2.1, 2, .inl f)
  | 3 => .inr (2, [.int (f 0), .int (f 1), .ref (tb_ad g 154)])
  | 4 => .inl (g.2.2.2.2.2, 6, .inr (.inr (.inr (.inr (fun j => some (tb_ad g (60 + 15 * j)))))))
  | 5 => .inr (3, [.int (f 0), .ref (tb_ad g 156)])
  | 6 => tb_ai g 64 f
  | 7 => .inr (6, [.ref (tb_ad g 158), .ref (tb_ad g 159), .ref (tb_ad g 160), .int (f 3), .ref (tb_ad g 161), .ref (tb_ad g 162), .ref (tb_ad g 163), .int (f 7)])
  | 8 => tb_ai g 139 f
  | 9 => tb_ai g 139 f
  | 10 => tb_ai g 834 f
  | 11 => tb_ai g 278 f
  | 12 => tb_ai g 2 f
  | _ => tb_ai g 64 f
def tb_c (g : tb_G) (k : Nat) (f : Nat → Int32) : va_E := if k < 150 then tb_d g (15 * (k / 15)) (k % 15) f else tb_x g (k - 150) f
def tb_W (g : tb_G) (z : tb_M) : va_W := (List.range 164).map (fun k => (tb_ad g k, tb_c g k (z k)))
theorem tb_Wg (g : tb_G) (z : tb_M) {k : Nat} (hk : k < 164) : (tb_W g z)[k]? = some (tb_ad g k, tb_c g k (z k)) := by
  simp [tb_W, hk]
theorem tb_Wn (g : tb_G) (z : tb_M) {k : Nat} (hk : ¬ k < 164) : (tb_W g z)[k]? = none := by
  simp [tb_W]
  omega
theorem tb_Wi {g : tb_G} {z : tb_M} {k : Nat} {q : Nat × va_E} (h : (tb_W g z)[k]? = some q) : k < 164 ∧ q = (tb_ad g k, tb_c g k (z k)) := by
  by_cases hk : k < 164
  · rw [tb_Wg g z hk] at h
    exact ⟨hk, (Option.some.inj h).symm⟩
  · rw [tb_Wn g z hk] at h
    cases h
theorem tb_Wlen (g : tb_G) (z : tb_M) : (tb_W g z).length = 164 := by simp [tb_W]
theorem tb_Ws (g : tb_G) (z z' : tb_M) {k : Nat} {e : va_E} (hk : k < 164) (he : tb_c g k (z' k) = e) (ho : ∀ j, j ≠ k → z' j = z j) : (tb_W g z).set k (tb_ad g k, e) = tb_W g z' := by
  apply List.ext_getElem?
  intro j
  rw [List.getElem?_set]
  by_cases h : k = j
  · subst h
    rw [if_pos rfl, tb_Wlen, if_pos hk, tb_Wg g z' hk, he]
  · rw [if_neg h]
    by_cases hj : j < 164
    · rw [tb_Wg g z hj, tb_Wg g z' hj, ho j (fun e => h e.symm)]
    · rw [tb_Wn g z hj, tb_Wn g z' hj]
-- kinds of cells
def tb_isD (d : Nat) : Prop := ∃ i, i < 10 ∧ d = 15 * i
def tb_isA (a : Nat) : Prop := ∃ d, tb_isD d ∧ (a = d + 2 ∨ a = d + 5 ∨ a = d + 8)
def tb_isS (q : Nat) : Prop := ∃ d, tb_isD d ∧ q = d + 11
def tb_isI (k n : Nat) : Prop := k < 164 ∧ ∀ (g : tb_G) (f : Nat → Int32), tb_c g k f = tb_ai g n f
theorem tb_cd {d c : Nat} (h : tb_isD d) (hc : c < 15) : d + c < 164 ∧ ∀ (g : tb_G) (f : Nat → Int32), tb_c g (d + c) f = tb_d g d c f := by
  obtain ⟨i, hi, rfl⟩ := h
  refine ⟨by omega, fun g f => ?_⟩
  have h1 : (15 * i + c) / 15 = i := by omega
  have h2 : (15 * i + c) % 15 = c := by omega
  unfold tb_c
  rw [if_pos (by omega), h1, h2]
theorem tb_Dc {d : Nat} (h : tb_isD d) : d < 164 ∧ ∀ (g : tb_G) (f : Nat → Int32), tb_c g d f = tb_dev g d f := tb_cd (c := 0) h (by decide)
theorem tb_iset {d : Nat} (h : tb_isD d) : tb_isI (d + 1) 3 := tb_cd (c := 1) h (by decide)
theorem tb_A1 {d : Nat} (h : tb_isD d) : tb_isA (d + 2) := ⟨d, h, Or.inl rfl⟩
theorem tb_A2 {d : Nat} (h : tb_isD d) : tb_isA (d + 5) := ⟨d, h, Or.inr (Or.inl rfl)⟩
theorem tb_A3 {d : Nat} (h : tb_isD d) : tb_isA (d + 8) := ⟨d, h, Or.inr (Or.inr rfl)⟩
theorem tb_S1 {d : Nat} (h : tb_isD d) : tb_isS (d + 11) := ⟨d, h, rfl⟩
theorem tb_Ac {a : Nat} (h : tb_isA a) : a < 164 ∧ ∀ (g : tb_G) (f : Nat → Int32), tb_c g a f = tb_area g a f := by
  obtain ⟨d, hd, rfl | rfl | rfl⟩ := h
  · exact tb_cd (c := 2) hd (by decide)
  · exact tb_cd (c := 5) hd (by decide)
  · exact tb_cd (c := 8) hd (by decide)
theorem tb_iw {a : Nat} (h : tb_isA a) : tb_isI (a + 1) 32 := by
  obtain ⟨d, hd, rfl | rfl | rfl⟩ := h
  · exact tb_cd (c := 3) hd (by decide)
  · exact tb_cd (c := 6) hd (by decide)
  · exact tb_cd (c := 9) hd (by decide)
theorem tb_iv {a : Nat} (h : tb_isA a) : tb_isI (a + 2) 8 := by
  obtain ⟨d, hd, rfl | rfl | rfl⟩ := h
  · exact tb_cd (c := 4) hd (by decide)
  · exact tb_cd (c := 7) hd (by decide)
  · exact tb_cd (c := 10) hd (by decide)
theorem tb_Sc {q : Nat} (h : tb_isS q) : q < 164 ∧ ∀ (g : tb_G) (f : Nat → Int32), tb_c g q f = tb_sts g q f := by
  obtain ⟨d, hd, rfl⟩ := h
  exact tb_cd (c := 11) hd (by decide)
theorem tb_s1 {q : Nat} (h : tb_isS q) : tb_isI (q + 1) 12 := by
  obtain ⟨d, hd, rfl⟩ := h
  exact tb_cd (c := 12) hd (by decide)
theorem tb_s2 {q : Nat} (h : tb_isS q) : tb_isI (q + 2) 12 := by
  obtain ⟨d, hd, rfl⟩ := h
  exact tb_cd (c := 13) hd (by decide)
theorem tb_s3 {q : Nat} (h : tb_isS q) : tb_isI (q + 3) 12 := by
  obtain ⟨d, hd, rfl⟩ := h
  exact tb_cd (c := 14) hd (by decide)
theorem tb_D0 : tb_isD 0 := ⟨0, by decide, rfl⟩
theorem tb_D15 : tb_isD 15 := ⟨1, by decide, rfl⟩
theorem tb_DS {j : Nat} (h : j < 2) : tb_isD (30 + 15 * j) := ⟨2 + j, by omega, by omega⟩
theorem tb_DH {j : Nat} (h : j < 6) : tb_isD (60 + 15 * j) := ⟨4 + j, by omega, by omega⟩
theorem tb_Tc : 150 < 164 ∧ ∀ (g : tb_G) (f : Nat → Int32), tb_c g 150 f = tb_x g 0 f := ⟨by decide, fun _ _ => rfl⟩
theorem tb_Hc : 153 < 164 ∧ ∀ (g : tb_G) (f : Nat → Int32), tb_c g 153 f = tb_x g 3 f := ⟨by decide, fun _ _ => rfl⟩
theorem tb_Pc : 155 < 164 ∧ ∀ (g : tb_G) (f : Nat → Int32), tb_c g 155 f = tb_x g 5 f := ⟨by decide, fun _ _ => rfl⟩
theorem tb_Mc : 157 < 164 ∧ ∀ (g : tb_G) (f : Nat → Int32), tb_c g 157 f = tb_x g 7 f := ⟨by decide, fun _ _ => rfl⟩
theorem tb_i156 : tb_isI 156 64 := ⟨by decide, fun _ _ => rfl⟩
theorem tb_i158 : tb_isI 158 139 := ⟨by decide, fun _ _ => rfl⟩
theorem tb_i159 : tb_isI 159 139 := ⟨by decide, fun _ _ => rfl⟩
theorem tb_i160 : tb_isI 160 834 := ⟨by decide, fun _ _ => rfl⟩
theorem tb_i161 : tb_isI 161 278 := ⟨by decide, fun _ _ => rfl⟩
theorem tb_i162 : tb_isI 162 2 := ⟨by decide, fun _ _ => rfl⟩
theorem tb_i163 : tb_isI 163 64 := ⟨by decide, fun _ _ => rfl⟩
-- the memory's updates
theorem tb_up_s (z : tb_M) (k j : Nat) (v : Int32) : tb_up z k j v k j = v := by simp [tb_up]
theorem tb_up_k (z : tb_M) {k a : Nat} (j : Nat) (v : Int32) (h : a ≠ k) : tb_up z k j v a = z a := by
  funext b
  simp [tb_up, h]
theorem tb_up_j (z : tb_M) (k : Nat) {j b : Nat} (v : Int32) (h : b ≠ j) : tb_up z k j v k b = z k b := by simp [tb_up, h]
theorem tb_up_row (z : tb_M) (k j : Nat) (v : Int32) : tb_up z k j v k = upd (z k) j v := by
  funext b
  by_cases h : b = j <;> simp [tb_up, upd, h]
theorem tb_cp_k (z : tb_M) {src dst a : Nat} (n : Nat) (h : a ≠ dst) : tb_cp z src dst n a = z a := by
  funext b
  simp [tb_cp, h]
-- what the machine says of the classes; it stays while the machine runs
def tb_inj (g : tb_G) : Prop := ∀ i j : Nat, i < 164 → j < 164 → tb_ad g i = tb_ad g j → i = j
def tb_N (U : State) : Prop := va_Nw (.methodLinkNest RX0 55 yX5_isWithin RX5) U ∧ va_Nw (.methodLinkNest RX0 59 yX5_sumWith RX5) U ∧ va_Nw (.methodLinkNest RX3 17 yX5_isWithin RX5) U ∧ va_Nw (.methodLinkNest RX3 36 yX5_sumWith RX5) U
def tb_A (g : tb_G) : Nat → Prop := fun q => ∃ k, k < 164 ∧ q = tb_ad g k
def tb_most (j : Nat) : Value := if j = 0 then .int (nI 9) else if j = 1 then .int (nI 99) else .int (nI 60)
/-- the class's own table of the settings' greatest values: it is written nowhere -/
def tb_T (g : tb_G) (U : State) (H : Heap) : Prop := ∃ t : Nat, va_Z "TrialBoots" "MOST_SETTING" "[I" (.ref t) (tb_A g) U H ∧ va_T .int t 3 tb_most (tb_A g) U H
def tb_K (g : tb_G) (U : State) : Prop := va_K (g.1, g.2.1) vwCl [(g.2.2.2.1, .int), (g.2.2.2.2.1, .boolean), (g.2.2.2.2.2, .object RX1)] U ∧ tb_inj g ∧ tb_N U ∧ tb_T g U U.heap
theorem tb_T.go {g : tb_G} {s U : State} {H : Heap} {locs : List Loc} (hvm : s.vm.Alike U.vm) (hS : va_S (tb_A g) s.heap H locs) (h : tb_T g s s.heap) : tb_T g U H := by
  obtain ⟨t, h1, h2⟩ := h
  exact ⟨t, (h1.kept hS.2.1).moved hvm, (h2.kept hS.2.1).moved hvm⟩
theorem tb_K.warm {g : tb_G} {s U : State} {H : Heap} {locs : List Loc} (hU : U.heap = H) (hS : va_S (tb_A g) s.heap H locs) (hW : s.WarmedH U.vm) (h : tb_K g s) : tb_K g U := ⟨va_K.moved hW.alike h.1, h.2.1, ⟨va_Nw.warmM hW h.2.2.1.1, va_Nw.warmM hW h.2.2.1.2.1, va_Nw.warmM hW h.2.2.1.2.2.1, va_Nw.warmM hW h.2.2.1.2.2.2⟩, by rw [hU]; exact tb_T.go hW.alike hS h.2.2.2⟩
theorem tb_K.same {g : tb_G} {s U : State} (hvm : s.vm = U.vm) (hh : U.heap = s.heap) (h : tb_K g s) : tb_K g U := ⟨va_K.moved (by rw [hvm]; exact Vm.Alike.refl _) h.1, h.2.1, ⟨va_Nw.same rfl hvm h.2.2.1.1, va_Nw.same rfl hvm h.2.2.1.2.1, va_Nw.same rfl hvm h.2.2.1.2.2.1, va_Nw.same rfl hvm h.2.2.1.2.2.2⟩, by rw [hh]; exact tb_T.go (locs := []) (by rw [hvm]; exact Vm.Alike.refl _) va_S.rf h.2.2.2⟩
theorem tb_Dj {g : tb_G} (hi : tb_inj g) (z : tb_M) : va_D (tb_A g) (tb_W g z) := by
  refine ⟨fun i j p q hp hq hpq => ?_, fun k q hq => ?_⟩
  · obtain ⟨h1, rfl⟩ := tb_Wi hp
    obtain ⟨h2, rfl⟩ := tb_Wi hq
    exact hi i j h1 h2 hpq
  · obtain ⟨h1, rfl⟩ := tb_Wi hq
    exact ⟨k, h1, rfl⟩
def tb_H (g : tb_G) (H0 : Heap) (z : tb_M) (H : Heap) (locs : List Loc) : Prop := va_P (g.1, g.2.1) vwCl (tb_W g z) H ∧ va_S (tb_A g) H0 H locs
def tb_X (own : String) (cc : ByteArray) (nL : Nat) (g : tb_G) (p : Program) (c : Code) (s : State) (m : MethodId) (args : Array Value) : Prop :=
  p.tables.exec = Jvm.exec ∧ c.code = cc ∧ (∀ w ∈ wsL_law, w.before args s = true) ∧ s.vm.findClass own = some m.cls ∧ tb_K g s ∧ c.maxLocals = nL
end
section
/-! ROWS over the one memory -/
section TBROWS
variable {p : Program} {l : Launch} {e : Env} {R : Room} {s : State} {m : MethodId} {args : Array Value} {below : List Frame} {meth : Method} {c : Code} {H : Heap} {locs : List Loc} {cells slots : Nat} {Q : State → Prop}
variable {cc : ByteArray} {pc nLc : Nat} {ls : Array Slot} {rest : List Value} {g : tb_G} {H0 : Heap} {z : tb_M} {own : String}
theorem tb_get (X : tb_X own cc nLc g p c s m args) (hH : tb_H g H0 z H locs) {k ci N : Nat} {C : String} {T : u_T} {fs : List Value} (hk : k < 164) (hc : tb_c g k (z k) = .inr (ci, fs)) (hci : vwCl[ci]? = some (C, T, N)) (hin : ∀ w ∈ u_ws C T N, w ∈ wsL_law) (j : Nat) (hj : j < N) {idx : Nat} (hlk : Cond.fieldLink own idx (T j).1 (T j).2.1 (T j).2.2.1 ∈ wsL_law) {v : Value} (hv : fs[j]? = some v) (hdg : decode cc pc = .ok (.getfield idx, 3))
    (kk : W p l e R s m args below meth c H locs cells slots Q (F0 m (pc + 3) ls (v :: rest))) : W p l e R s m args below meth c H locs cells slots Q (F0 m pc ls (.ref (tb_ad g k) :: rest)) :=
  va_get X.1 X.2.1 X.2.2.1 hin X.2.2.2.1 X.2.2.2.2.1.1 hH.1 k (by rw [tb_Wg g z hk, hc]) hci j hj (X.2.2.1 _ hlk) (fun _ h => h) hv hdg kk
theorem tb_put (X : tb_X own cc nLc g p c s m args) (hH : tb_H g H0 z H locs) {k ci N : Nat} {C : String} {T : u_T} {fs : List Value} (hk : k < 164) (hc : tb_c g k (z k) = .inr (ci, fs)) (hci : vwCl[ci]? = some (C, T, N)) (hin : ∀ w ∈ u_ws C T N, w ∈ wsL_law) (ty0 : Nat → FieldType) (hty : ∀ k, k < N → parseFieldDescriptor (T k).2.2.1 = some (ty0 k)) (hnm : ∀ a, a < N → ∀ b, b < N → a ≠ b → (T a).2.1 ≠ (T b).2.1) (j : Nat) (hj : j < N) {idx : Nat} (hlk : Cond.fieldLink own idx (T j).1 (T j).2.1 (T j).2.2.1 ∈ wsL_law) (hfin : (T j).2.2.2 = false) (hd : parseFieldDescriptor (T j).2.2.1 = some .int) {x : Int32} (hl : j < fs.length) (hc' : tb_c g k (tb_up z k j x k) = .inr (ci, fs.set j (.int x))) (hdg : decode cc pc = .ok (.putfield idx, 3))
    (kk : ∀ (H1 : Heap) (locs1 : List Loc), tb_H g H0 (tb_up z k j x) H1 locs1 → W p l e R s m args below meth c H1 locs1 cells slots Q (F0 m (pc + 3) ls rest)) : W p l e R s m args below meth c H locs cells slots Q (F0 m pc ls (.int x :: .ref (tb_ad g k) :: rest)) :=
  va_put X.1 X.2.1 X.2.2.1 hin ty0 hty hnm X.2.2.2.1 X.2.2.2.2.1.1 hH.1 (tb_Dj X.2.2.2.2.1.2.1 z) hH.2 k (by rw [tb_Wg g z hk, hc]) hci j hj (X.2.2.1 _ hlk) (fun _ h => h) hfin hd rfl rfl hl hdg
    (fun H1 locs1 h1 _ h3 => kk H1 locs1 ⟨by rw [← tb_Ws g z (tb_up z k j x) hk hc' (fun a ha => tb_up_k z j x ha)]; exact h1, h3⟩)
theorem tb_putA (X : tb_X own cc nLc g p c s m args) (hH : tb_H g H0 z H locs) {a : Nat} (ha : tb_isA a) (j : Nat) (hj : j < 6) {idx : Nat} (hlk : Cond.fieldLink own idx (TX0 j).1 (TX0 j).2.1 (TX0 j).2.2.1 ∈ wsL_law) {x : Int32} (hdg : decode cc pc = .ok (.putfield idx, 3))
    (kk : ∀ (H1 : Heap) (locs1 : List Loc), tb_H g H0 (tb_up z a j x) H1 locs1 → W p l e R s m args below meth c H1 locs1 cells slots Q (F0 m (pc + 3) ls rest)) : W p l e R s m args below meth c H locs cells slots Q (F0 m pc ls (.int x :: .ref (tb_ad g a) :: rest)) := by
  refine tb_put X hH (tb_Ac ha).1 ((tb_Ac ha).2 g _) rfl inlX0 tyX0 tyX0_ok nmX0 j (by omega) hlk ?_ ?_ ?_ ?_ hdg kk
  · rcases (show j = 0 ∨ j = 1 ∨ j = 2 ∨ j = 3 ∨ j = 4 ∨ j = 5 by omega) with rfl | rfl | rfl | rfl | rfl | rfl <;> rfl
  · rcases (show j = 0 ∨ j = 1 ∨ j = 2 ∨ j = 3 ∨ j = 4 ∨ j = 5 by omega) with rfl | rfl | rfl | rfl | rfl | rfl <;> decide +kernel
  · show j < 8
    omega
  · rw [(tb_Ac ha).2, tb_up_row]
    rcases (show j = 0 ∨ j = 1 ∨ j = 2 ∨ j = 3 ∨ j = 4 ∨ j = 5 by omega) with rfl | rfl | rfl | rfl | rfl | rfl <;> rfl
theorem tb_putD (X : tb_X own cc nLc g p c s m args) (hH : tb_H g H0 z H locs) {d : Nat} (hd : tb_isD d) (j : Nat) (hj : 5 ≤ j ∧ j < 10) {idx : Nat} (hlk : Cond.fieldLink own idx (TX1 j).1 (TX1 j).2.1 (TX1 j).2.2.1 ∈ wsL_law) {x : Int32} (hdg : decode cc pc = .ok (.putfield idx, 3))
    (kk : ∀ (H1 : Heap) (locs1 : List Loc), tb_H g H0 (tb_up z d j x) H1 locs1 → W p l e R s m args below meth c H1 locs1 cells slots Q (F0 m (pc + 3) ls rest)) : W p l e R s m args below meth c H locs cells slots Q (F0 m pc ls (.int x :: .ref (tb_ad g d) :: rest)) := by
  refine tb_put X hH (tb_Dc hd).1 ((tb_Dc hd).2 g _) rfl inlX1 tyX1 tyX1_ok nmX1 j hj.2 hlk ?_ ?_ ?_ ?_ hdg kk
  · rcases (show j = 5 ∨ j = 6 ∨ j = 7 ∨ j = 8 ∨ j = 9 by omega) with rfl | rfl | rfl | rfl | rfl <;> rfl
  · rcases (show j = 5 ∨ j = 6 ∨ j = 7 ∨ j = 8 ∨ j = 9 by omega) with rfl | rfl | rfl | rfl | rfl <;> decide +kernel
  · exact hj.2
  · rw [(tb_Dc hd).2, tb_up_row]
    rcases (show j = 5 ∨ j = 6 ∨ j = 7 ∨ j = 8 ∨ j = 9 by omega) with rfl | rfl | rfl | rfl | rfl <;> rfl
theorem tb_putS (X : tb_X own cc nLc g p c s m args) (hH : tb_H g H0 z H locs) {q : Nat} (hq : tb_isS q) (j : Nat) (hj : j < 3) {idx : Nat} (hlk : Cond.fieldLink own idx (TX4 j).1 (TX4 j).2.1 (TX4 j).2.2.1 ∈ wsL_law) {x : Int32} (hdg : decode cc pc = .ok (.putfield idx, 3))
    (kk : ∀ (H1 : Heap) (locs1 : List Loc), tb_H g H0 (tb_up z q j x) H1 locs1 → W p l e R s m args below meth c H1 locs1 cells slots Q (F0 m (pc + 3) ls rest)) : W p l e R s m args below meth c H locs cells slots Q (F0 m pc ls (.int x :: .ref (tb_ad g q) :: rest)) := by
  refine tb_put X hH (tb_Sc hq).1 ((tb_Sc hq).2 g _) rfl inlX4 tyX4 tyX4_ok nmX4 j (by omega) hlk ?_ ?_ ?_ ?_ hdg kk
  · rcases (show j = 0 ∨ j = 1 ∨ j = 2 by omega) with rfl | rfl | rfl <;> rfl
  · rcases (show j = 0 ∨ j = 1 ∨ j = 2 by omega) with rfl | rfl | rfl <;> decide +kernel
  · show j < 6
    omega
  · rw [(tb_Sc hq).2, tb_up_row]
    rcases (show j = 0 ∨ j = 1 ∨ j = 2 by omega) with rfl | rfl | rfl <;> rfl
theorem tb_putHi (X : tb_X own cc nLc g p c s m args) (hH : tb_H g H0 z H locs) (j : Nat) (hj : j < 2) {idx : Nat} (hlk : Cond.fieldLink own idx (TX2 j).1 (TX2 j).2.1 (TX2 j).2.2.1 ∈ wsL_law) {x : Int32} (hdg : decode cc pc = .ok (.putfield idx, 3))
    (kk : ∀ (H1 : Heap) (locs1 : List Loc), tb_H g H0 (tb_up z 153 j x) H1 locs1 → W p l e R s m args below meth c H1 locs1 cells slots Q (F0 m (pc + 3) ls rest)) : W p l e R s m args below meth c H locs cells slots Q (F0 m pc ls (.int x :: .ref (tb_ad g 153) :: rest)) := by
  refine tb_put X hH tb_Hc.1 (tb_Hc.2 g _) rfl inlX2 tyX2 tyX2_ok nmX2 j (by omega) hlk ?_ ?_ ?_ ?_ hdg kk
  · rcases (show j = 0 ∨ j = 1 by omega) with rfl | rfl <;> rfl
  · rcases (show j = 0 ∨ j = 1 by omega) with rfl | rfl <;> decide +kernel
  · show j < 3
    omega
  · rw [tb_Hc.2, tb_up_row]
    rcases (show j = 0 ∨ j = 1 by omega) with rfl | rfl <;> rfl
theorem tb_putP (X : tb_X own cc nLc g p c s m args) (hH : tb_H g H0 z H locs) {idx : Nat} (hlk : Cond.fieldLink own idx (TX3 0).1 (TX3 0).2.1 (TX3 0).2.2.1 ∈ wsL_law) {x : Int32} (hdg : decode cc pc = .ok (.putfield idx, 3))
    (kk : ∀ (H1 : Heap) (locs1 : List Loc), tb_H g H0 (tb_up z 155 0 x) H1 locs1 → W p l e R s m args below meth c H1 locs1 cells slots Q (F0 m (pc + 3) ls rest)) : W p l e R s m args below meth c H locs cells slots Q (F0 m pc ls (.int x :: .ref (tb_ad g 155) :: rest)) := by
  refine tb_put X hH tb_Pc.1 (tb_Pc.2 g _) rfl inlX3 tyX3 tyX3_ok nmX3 0 (by decide) hlk rfl (by decide +kernel) (by show 0 < 2; decide) ?_ hdg kk
  rw [tb_Pc.2, tb_up_row]
  rfl
theorem tb_putM (X : tb_X own cc nLc g p c s m args) (hH : tb_H g H0 z H locs) (j : Nat) (hj : j = 3 ∨ j = 7) {idx : Nat} (hlk : Cond.fieldLink own idx (TX6 j).1 (TX6 j).2.1 (TX6 j).2.2.1 ∈ wsL_law) {x : Int32} (hdg : decode cc pc = .ok (.putfield idx, 3))
    (kk : ∀ (H1 : Heap) (locs1 : List Loc), tb_H g H0 (tb_up z 157 j x) H1 locs1 → W p l e R s m args below meth c H1 locs1 cells slots Q (F0 m (pc + 3) ls rest)) : W p l e R s m args below meth c H locs cells slots Q (F0 m pc ls (.int x :: .ref (tb_ad g 157) :: rest)) := by
  refine tb_put X hH tb_Mc.1 (tb_Mc.2 g _) rfl inlX6 tyX6 tyX6_ok nmX6 j (by omega) hlk ?_ ?_ ?_ ?_ hdg kk
  · rcases hj with rfl | rfl <;> rfl
  · rcases hj with rfl | rfl <;> decide +kernel
  · show j < 8
    omega
  · rw [tb_Mc.2, tb_up_row]
    rcases hj with rfl | rfl <;> rfl
-- arrays of ints
theorem tb_ald (X : tb_X own cc nLc g p c s m args) (hH : tb_H g H0 z H locs) {k n : Nat} (hI : tb_isI k n) (j : Nat) {i : Int32} (hi : i = nI j) (hj : j < n) (hn : n < 1000) (hdg : decode cc pc = .ok (.iaload, 1))
    (kk : W p l e R s m args below meth c H locs cells slots Q (F0 m (pc + 1) ls (.int (z k j) :: rest))) : W p l e R s m args below meth c H locs cells slots Q (F0 m pc ls (.int i :: .ref (tb_ad g k) :: rest)) := by
  subst hi
  refine va_iald X.1 X.2.1 X.2.2.2.2.1.1 hH.1 k 0 (cA := g.2.2.2.1) (n := n) (f := z k) (by rw [tb_Wg g z hI.1, hI.2]; rfl) rfl (vp_in_nI hj (by omega)) hdg ?_
  rw [nI_clamp (by omega)]
  exact kk
theorem tb_ast (X : tb_X own cc nLc g p c s m args) (hH : tb_H g H0 z H locs) {k n : Nat} (hI : tb_isI k n) (j : Nat) {i x : Int32} (hi : i = nI j) (hj : j < n) (hn : n < 1000) (hdg : decode cc pc = .ok (.iastore, 1))
    (kk : ∀ (H1 : Heap) (locs1 : List Loc), tb_H g H0 (tb_up z k j x) H1 locs1 → W p l e R s m args below meth c H1 locs1 cells slots Q (F0 m (pc + 1) ls rest)) : W p l e R s m args below meth c H locs cells slots Q (F0 m pc ls (.int x :: .int i :: .ref (tb_ad g k) :: rest)) := by
  subst hi
  refine va_iast X.1 X.2.1 X.2.2.2.2.1.1 hH.1 (tb_Dj X.2.2.2.2.1.2.1 z) hH.2 k 0 (cA := g.2.2.2.1) (n := n) (f := z k) (by rw [tb_Wg g z hI.1, hI.2]; rfl) rfl (vp_in_nI hj (by omega)) hdg (fun H1 locs1 h1 _ h3 => kk H1 locs1 ⟨?_, h3⟩)
  rw [← tb_Ws g z (tb_up z k j x) hI.1 (e := .inl (g.2.2.2.1, n, .inl (upd (z k) j x))) (by rw [hI.2, tb_up_row]; rfl) (fun a ha => tb_up_k z j x ha)]
  rw [nI_clamp (by omega)] at h1
  exact h1
theorem tb_zld (X : tb_X own cc nLc g p c s m args) (hH : tb_H g H0 z H locs) (j : Nat) {i : Int32} (hi : i = nI j) (hj : j < 2) (hdg : decode cc pc = .ok (.baload, 1))
    (kk : W p l e R s m args below meth c H locs cells slots Q (F0 m (pc + 1) ls (.int (z 152 j) :: rest))) : W p l e R s m args below meth c H locs cells slots Q (F0 m pc ls (.int i :: .ref (tb_ad g 152) :: rest)) := by
  subst hi
  refine va_zald X.1 X.2.1 X.2.2.2.2.1.1 hH.1 152 1 (cA := g.2.2.2.2.1) (n := 2) (f := z 152) (by rw [tb_Wg g z (by decide)]; rfl) rfl (vp_in_nI hj (by omega)) hdg ?_
  rw [nI_clamp (by omega)]
  exact kk
theorem tb_zst (X : tb_X own cc nLc g p c s m args) (hH : tb_H g H0 z H locs) (j : Nat) {i : Int32} (hi : i = nI j) (hj : j < 2) (hdg : decode cc pc = .ok (.bastore, 1))
    (kk : ∀ (H1 : Heap) (locs1 : List Loc), tb_H g H0 (tb_up z 152 j (nI 1)) H1 locs1 → W p l e R s m args below meth c H1 locs1 cells slots Q (F0 m (pc + 1) ls rest)) : W p l e R s m args below meth c H locs cells slots Q (F0 m pc ls (.int (nI 1) :: .int i :: .ref (tb_ad g 152) :: rest)) := by
  subst hi
  refine va_zast X.1 X.2.1 X.2.2.2.2.1.1 hH.1 (tb_Dj X.2.2.2.2.1.2.1 z) hH.2 152 1 (cA := g.2.2.2.2.1) (n := 2) (f := z 152) (by rw [tb_Wg g z (by decide)]; rfl) rfl (vp_in_nI hj (by omega)) hdg (fun H1 locs1 h1 _ h3 => kk H1 locs1 ⟨?_, h3⟩)
  rw [← tb_Ws g z (tb_up z 152 j (nI 1)) (by decide) (e := .inl (g.2.2.2.2.1, 2, .inl (upd (z 152) j (nI 1)))) (by rw [tb_up_row]; rfl) (fun a ha => tb_up_k z j _ ha)]
  rw [nI_clamp (by omega)] at h1
  exact h1
theorem tb_aalS (X : tb_X own cc nLc g p c s m args) (hH : tb_H g H0 z H locs) (j : Nat) {i : Int32} (hi : i = nI j) (hj : j < 2) (hdg : decode cc pc = .ok (.aaload, 1))
    (kk : W p l e R s m args below meth c H locs cells slots Q (F0 m (pc + 1) ls (.ref (tb_ad g (30 + 15 * j)) :: rest))) : W p l e R s m args below meth c H locs cells slots Q (F0 m pc ls (.int i :: .ref (tb_ad g 151) :: rest)) := by
  subst hi
  refine va_aldq X.1 X.2.1 X.2.2.2.2.1.1 hH.1 151 2 (cA := g.2.2.2.2.2) (C := RX1) (n := 2) (f := fun j => some (tb_ad g (30 + 15 * j))) (by rw [tb_Wg g z (by decide)]; rfl) rfl (vp_in_nI hj (by omega)) hdg ?_
  rw [nI_clamp (by omega)]
  exact kk
theorem tb_aalH (X : tb_X own cc nLc g p c s m args) (hH : tb_H g H0 z H locs) (j : Nat) {i : Int32} (hi : i = nI j) (hj : j < 6) (hdg : decode cc pc = .ok (.aaload, 1))
    (kk : W p l e R s m args below meth c H locs cells slots Q (F0 m (pc + 1) ls (.ref (tb_ad g (60 + 15 * j)) :: rest))) : W p l e R s m args below meth c H locs cells slots Q (F0 m pc ls (.int i :: .ref (tb_ad g 154) :: rest)) := by
  subst hi
  refine va_aldq X.1 X.2.1 X.2.2.2.2.1.1 hH.1 154 2 (cA := g.2.2.2.2.2) (C := RX1) (n := 6) (f := fun j => some (tb_ad g (60 + 15 * j))) (by rw [tb_Wg g z (by decide)]; rfl) rfl (vp_in_nI hj (by omega)) hdg ?_
  rw [nI_clamp (by omega)]
  exact kk
theorem tb_acp (X : tb_X own cc nLc g p c s m args) (hH : tb_H g H0 z H locs) (hls : ls.size = nLc) {k1 k2 n1 n2 : Nat} (hI1 : tb_isI k1 n1) (hI2 : tb_isI k2 n2) (n : Nat) (h1 : n ≤ n1) (h2 : n ≤ n2) (h3 : n1 < 1000) {idx : Nat} (w1 : Cond.methodLink own idx arraycopyName ∈ wsL_law) (w2 : Cond.native arraycopyName ∈ wsL_law) (w3 : Cond.static arraycopyName ∈ wsL_law) (w4 : Cond.initialized "java/lang/System" ∈ wsL_law) (hfr : 1 ≤ R.frames) (hlo : (rest.map fun v => v.category).sum + 18 ≤ R.locals) (hdg : decode cc pc = .ok (.invokestatic idx, 3))
    (kk : ∀ (H1 : Heap) (locs1 : List Loc), tb_H g H0 (tb_cp z k1 k2 n) H1 locs1 → W p l e R s m args below meth c H1 locs1 cells slots Q (F0 m (pc + 3) ls rest)) : W p l e R s m args below meth c H locs cells slots Q (F0 m pc ls (.int (nI n) :: .int (nI 0) :: .ref (tb_ad g k2) :: .int (nI 0) :: .ref (tb_ad g k1) :: rest)) := by
  have e0 : (nI 0).toNatClampNeg = 0 := nI_clamp (by decide)
  have en : (nI n).toNatClampNeg = n := nI_clamp (by omega)
  refine va_copyi X.1 X.2.1 (X.2.2.2.2.2.trans hls.symm) X.2.2.2.1 (X.2.2.1 _ w1) (X.2.2.1 _ w2) (X.2.2.1 _ w3) (X.2.2.1 _ w4) X.2.2.2.2.1.1 hH.1 (tb_Dj X.2.2.2.2.1.2.1 z) hH.2 k1 k2 0 0 (c0 := g.2.2.2.1) (c1 := g.2.2.2.1) (n0 := n1) (n1 := n2) (f := z k1) (g := z k2) (ty := .int) (by rw [tb_Wg g z hI1.1, hI1.2]; rfl) (by rw [tb_Wg g z hI2.1, hI2.2]; rfl) rfl rfl rfl (nI_pos (by decide)) (nI_pos (by decide)) (nI_pos (by omega)) (by rw [e0, en]; omega) (by rw [e0, en]; omega) (fun _ _ => rfl) hfr ?_ hdg (fun H1 locs1 q1 _ q3 => kk H1 locs1 ⟨?_, q3⟩)
  · have : nativeFrameWords "java/lang/System" "arraycopy" 5 = 7 := by decide +kernel
    omega
  · rw [← tb_Ws g z (tb_cp z k1 k2 n) hI2.1 (e := .inl (g.2.2.2.1, n2, .inl (va_cpy (z k1) (z k2) 0 0 n))) ?_ (fun a ha => tb_cp_k z n ha)]
    · rw [e0, en] at q1
      exact q1
    · rw [hI2.2]
      have : tb_cp z k1 k2 n k2 = va_cpy (z k1) (z k2) 0 0 n := by
        funext b
        simp [tb_cp, va_cpy]
      rw [this]
      rfl
-- numbers
theorem tb_iaddN (X : tb_X own cc nLc g p c s m args) {a b : Nat} (hdg : decode cc pc = .ok (.iadd, 1)) (kk : W p l e R s m args below meth c H locs cells slots Q (F0 m (pc + 1) ls (.int (nI (a + b)) :: rest))) : W p l e R s m args below meth c H locs cells slots Q (F0 m pc ls (.int (nI b) :: .int (nI a) :: rest)) := by
  refine lv_iadd X.1 X.2.1 hdg ?_
  rw [nI_add]
  exact kk
theorem tb_imulN (X : tb_X own cc nLc g p c s m args) {a b : Nat} (hdg : decode cc pc = .ok (.imul, 1)) (kk : W p l e R s m args below meth c H locs cells slots Q (F0 m (pc + 1) ls (.int (nI (a * b)) :: rest))) : W p l e R s m args below meth c H locs cells slots Q (F0 m pc ls (.int (nI b) :: .int (nI a) :: rest)) := by
  refine lv_imul X.1 X.2.1 hdg ?_
  rw [pk_mul]
  exact kk
theorem tb_isubN (X : tb_X own cc nLc g p c s m args) {a b : Nat} (hab : b ≤ a) (hdg : decode cc pc = .ok (.isub, 1)) (kk : W p l e R s m args below meth c H locs cells slots Q (F0 m (pc + 1) ls (.int (nI (a - b)) :: rest))) : W p l e R s m args below meth c H locs cells slots Q (F0 m pc ls (.int (nI b) :: .int (nI a) :: rest)) := by
  refine lv_isub X.1 X.2.1 hdg ?_
  rw [pk_sub hab]
  exact kk
end TBROWS
end
section
/-! CONTRACTS over the one memory: a method's answer and the memory behind it are given -/
def tb_rm (n : Nat) : Room := { frames := n, cells := 0, slots := 0, locals := 36 * n }
def tb_Pr (g : tb_G) (z : tb_M) (U : State) : Prop := va_P (g.1, g.2.1) vwCl (tb_W g z) U.heap ∧ tb_K g U
def tb_B (g : tb_G) : tb_M → State → Prop := fun u t => va_P (g.1, g.2.1) vwCl (tb_W g u) t.heap
def tb_Mi (ret : FieldType) (l : Launch) (y : MethodName) (cy : ByteArray) (nL n : Nat) (g : tb_G) (z : tb_M) (As : List Value) (r : Int32) (z1 : tb_M) : Prop :=
  Met l y (Cond.code y cy nL (some ret) :: wsL_law) (tb_rm n) (va_Pc As (tb_Pr g z)) (va_Qi (fun a u => a = r ∧ u = z1) (tb_B g) (tb_A g)) 0 0 (tb_A g)
def tb_Mv (l : Launch) (y : MethodName) (cy : ByteArray) (nL n : Nat) (g : tb_G) (z : tb_M) (As : List Value) (z1 : tb_M) : Prop :=
  Met l y (Cond.code y cy nL none :: wsL_law) (tb_rm n) (va_Pc As (tb_Pr g z)) (va_Qv (fun u => u = z1) (tb_B g) (tb_A g)) 0 0 (tb_A g)
def tb_Mr (cls : String) (l : Launch) (y : MethodName) (cy : ByteArray) (nL n : Nat) (g : tb_G) (z : tb_M) (As : List Value) (k : Nat) (z1 : tb_M) : Prop :=
  Met l y (Cond.code y cy nL (some (.object cls)) :: wsL_law) (tb_rm n) (va_Pc As (tb_Pr g z)) (va_Qr (fun u => u = z1) (fun u ra t => ra = tb_ad g k ∧ tb_B g u t) (tb_A g)) 0 0 (tb_A g)
theorem tb_good {w : Cond} (h : w ∈ wsL_law) : (w.onTables && w.keeps) = true ∨ ∃ ty, w = .arrayClass ty := good_of_word (List.all_eq_true.mp wm_good w h)
def tb_Y (y : MethodName) (cy : ByteArray) (nL : Nat) (ret : Option FieldType) (n : Nat) : Prop := Cond.code y cy nL ret ∈ wsL_law ∧ Cond.initialized y.cls ∈ wsL_law ∧ (y.cls ≠ "java/lang/invoke/MethodHandle" ∧ y.cls ≠ "java/lang/invoke/VarHandle") ∧ (parseMethodDescriptor y.desc).map (fun d => d.parameters.length) = some n
def tb_isO (b : Nat) (C : String) : Prop := b < 164 ∧ ∃ (ci : Nat) (T : u_T) (N : Nat), vwCl[ci]? = some (C, T, N) ∧ ∀ (g : tb_G) (f : Nat → Int32), ∃ fs, tb_c g b f = .inr (ci, fs)
theorem tb_oA {a : Nat} (h : tb_isA a) : tb_isO a RX0 := ⟨(tb_Ac h).1, 0, TX0, 8, rfl, fun g f => ⟨_, (tb_Ac h).2 g f⟩⟩
theorem tb_oD {a : Nat} (h : tb_isD a) : tb_isO a RX1 := ⟨(tb_Dc h).1, 1, TX1, 10, rfl, fun g f => ⟨_, (tb_Dc h).2 g f⟩⟩
theorem tb_oS {a : Nat} (h : tb_isS a) : tb_isO a RX4 := ⟨(tb_Sc h).1, 4, TX4, 6, rfl, fun g f => ⟨_, (tb_Sc h).2 g f⟩⟩
theorem tb_oH : tb_isO 153 RX2 := ⟨tb_Hc.1, 2, TX2, 3, rfl, fun g f => ⟨_, tb_Hc.2 g f⟩⟩
theorem tb_oP : tb_isO 155 RX3 := ⟨tb_Pc.1, 3, TX3, 2, rfl, fun g f => ⟨_, tb_Pc.2 g f⟩⟩
theorem tb_oT : tb_isO 150 RX5 := ⟨tb_Tc.1, 5, TX5, 6, rfl, fun g f => ⟨_, tb_Tc.2 g f⟩⟩
theorem tb_oM : tb_isO 157 RX6 := ⟨tb_Mc.1, 6, TX6, 8, rfl, fun g f => ⟨_, tb_Mc.2 g f⟩⟩
theorem tb_blind (g : tb_G) (z : tb_M) (As : List Value) : FrameBlind (va_Pc As (tb_Pr g z)) := fun a U gg mk h => ⟨h.1, h.2.1, h.2.2.same (s := U) (U := U.calling gg mk a) rfl rfl⟩
section TBCALLS
variable {p : Program} {l : Launch} {e : Env} {R : Room} {s : State} {m : MethodId} {args : Array Value} {below : List Frame} {meth : Method} {c : Code} {H : Heap} {locs : List Loc} {cells slots : Nat} {Q : State → Prop}
variable {cc : ByteArray} {pc nLc : Nat} {ls : Array Slot} {rest st : List Value} {g : tb_G} {z z1 : tb_M} {own : String} {ret : FieldType} {y : MethodName} {cy : ByteArray} {nL nf n idx b k : Nat} {As : List Value} {r : Int32} {cls : String}
theorem tb_words (X : tb_X own cc nLc g p c s m args) {w0 : Cond} (h0 : w0 ∈ wsL_law) : ∀ w ∈ w0 :: wsL_law, ∀ (a' : Array Value) (U : State), s.WarmedH U.vm → w.before a' U = true := by
  intro w hw a' U hW
  have hw' : w ∈ wsL_law := by
    rcases List.mem_cons.mp hw with rfl | h
    · exact h0
    · exact h
  exact word_at hW (tb_good hw') (X.2.2.1 w hw')
theorem tb_sigN (h : (parseMethodDescriptor y.desc).map (fun d => d.parameters.length) = some n) : ∀ sig, parseMethodDescriptor y.desc = some sig → n = sig.parameters.length := by
  intro sig hs
  rw [hs] at h
  exact (Option.some.inj h).symm
theorem tb_CB {rt : Option FieldType} (X : tb_X own cc nLc g p c s m args) (hY : tb_Y y cy nL rt n) (hlk : Cond.methodLink own idx y ∈ wsL_law) (hR : nf + 1 ≤ R.frames ∧ 8 + (nL + 11) + 36 * nf ≤ R.locals) : CallB R s args own idx y cy nL rt (Cond.code y cy nL rt :: wsL_law) (tb_rm nf) 0 0 n :=
  ⟨rfl, rfl, hR.1, hR.2, tb_words X hY.1, List.mem_cons_self, X.2.2.1 _ hY.1, X.2.2.1 _ hY.2.1, hY.2.2.1, tb_sigN hY.2.2.2, X.2.2.1 _ hlk⟩
theorem tb_CN {rt : Option FieldType} {host : String} (X : tb_X own cc nLc g p c s m args) (hY : tb_Y y cy nL rt n) (hlk : va_Nw (.methodLinkNest own idx y host) s) (hR : nf + 1 ≤ R.frames ∧ 8 + (nL + 11) + 36 * nf ≤ R.locals) : va_CN R s args own idx y host cy nL rt (Cond.code y cy nL rt :: wsL_law) (tb_rm nf) 0 0 n :=
  ⟨⟨rfl, rfl, hR.1, hR.2, tb_words X hY.1, List.mem_cons_self⟩, X.2.2.1 _ hY.1, X.2.2.1 _ hY.2.1, hY.2.2.1, tb_sigN hY.2.2.2, va_Nw.use rfl hlk⟩
theorem tb_recv (X : tb_X own cc nLc g p c s m args) (hH : tb_H g s.heap z H locs) {C : String} (hO : tb_isO b C) : ∃ cellB : Cell, H[tb_ad g b]? = some cellB ∧ cellB.vm.isStatics = false ∧ s.vm.findClass C = some cellB.cls := by
  obtain ⟨hb, ci, T, N, hc, hf⟩ := hO
  obtain ⟨fs, hfs⟩ := hf g (z b)
  exact va_recv (q := (C, T, N)) X.2.2.2.2.1.1 hH.1 (q0 := b) (ci := ci) (fs := fs) hc (by rw [tb_Wg g z hb, hfs])
theorem tb_pre (X : tb_X own cc nLc g p c s m args) (hH : tb_H g s.heap z H locs) : ∀ U : State, U.heap = H → s.WarmedH U.vm → va_Pc As (tb_Pr g z) As.toArray U := fun U hU hW => ⟨rfl, by rw [hU]; exact hH.1, X.2.2.2.2.1.warm hU hH.2 hW⟩
theorem tb_cVi (X : tb_X own cc nLc g p c s m args) (hH : tb_H g s.heap z H locs) (hls : ls.size = nLc) (hM : tb_Mi ret l y cy nL nf g z (.ref (tb_ad g b) :: As) r z1) (hY : tb_Y y cy nL (some ret) n) (hV : Cond.instanceMethod y ∈ wsL_law ∧ Cond.selects y.cls y y ∈ wsL_law) (hlk : Cond.methodLink own idx y ∈ wsL_law) (hO : tb_isO b y.cls) (hn : As.length = n) (hst : st = As.reverse ++ .ref (tb_ad g b) :: rest) (hcat : (rest.map fun v => v.category).sum ≤ 8) (hR : nf + 1 ≤ R.frames ∧ 8 + (nL + 11) + 36 * nf ≤ R.locals) (hcs : cells ≤ R.cells ∧ slots ≤ R.slots) (hdg : decode cc pc = .ok (.invokevirtual idx, 3))
    (kk : ∀ (H1 : Heap) (locs1 : List Loc), tb_H g s.heap z1 H1 locs1 → W p l e R s m args below meth c H1 locs1 cells slots Q (F0 m (pc + 3) ls (.int r :: rest))) : W p l e R s m args below meth c H locs cells slots Q (F0 m pc ls st) := by
  refine va_calli (va_runV (As := As) (rest := rest) ⟨X.1, X.2.1, X.2.2.2.2.2, X.2.2.2.1, X.2.2.1⟩ hM ⟨tb_CB X hY hlk hR, X.2.2.1 _ hV.1, X.2.2.1 _ hV.2⟩ ⟨tb_blind g z _, tb_recv X hH hO, tb_pre X hH⟩ rfl hn hls hst (lv_room hcat) hdg ⟨hcs.1, hcs.2⟩) hH.2 (fun q _ h => h) (fun q h => h) (fun r1 u t H1 locs1 ht hvm hw hB _ _ hS => ?_)
  obtain ⟨rfl, rfl⟩ := hw
  exact kk H1 locs1 ⟨by rw [← ht]; exact hB, hS⟩
theorem tb_cVv (X : tb_X own cc nLc g p c s m args) (hH : tb_H g s.heap z H locs) (hls : ls.size = nLc) (hM : tb_Mv l y cy nL nf g z (.ref (tb_ad g b) :: As) z1) (hY : tb_Y y cy nL none n) (hV : Cond.instanceMethod y ∈ wsL_law ∧ Cond.selects y.cls y y ∈ wsL_law) (hlk : Cond.methodLink own idx y ∈ wsL_law) (hO : tb_isO b y.cls) (hn : As.length = n) (hst : st = As.reverse ++ .ref (tb_ad g b) :: rest) (hcat : (rest.map fun v => v.category).sum ≤ 8) (hR : nf + 1 ≤ R.frames ∧ 8 + (nL + 11) + 36 * nf ≤ R.locals) (hcs : cells ≤ R.cells ∧ slots ≤ R.slots) (hdg : decode cc pc = .ok (.invokevirtual idx, 3))
    (kk : ∀ (H1 : Heap) (locs1 : List Loc), tb_H g s.heap z1 H1 locs1 → W p l e R s m args below meth c H1 locs1 cells slots Q (F0 m (pc + 3) ls rest)) : W p l e R s m args below meth c H locs cells slots Q (F0 m pc ls st) := by
  refine va_callv (va_runV (As := As) (rest := rest) ⟨X.1, X.2.1, X.2.2.2.2.2, X.2.2.2.1, X.2.2.1⟩ hM ⟨tb_CB X hY hlk hR, X.2.2.1 _ hV.1, X.2.2.1 _ hV.2⟩ ⟨tb_blind g z _, tb_recv X hH hO, tb_pre X hH⟩ rfl hn hls hst (lv_room hcat) hdg ⟨hcs.1, hcs.2⟩) hH.2 (fun q _ h => h) (fun q h => h) (fun u t H1 locs1 ht hvm hw hB _ _ hS => ?_)
  subst hw
  exact kk H1 locs1 ⟨by rw [← ht]; exact hB, hS⟩
theorem tb_cVr (X : tb_X own cc nLc g p c s m args) (hH : tb_H g s.heap z H locs) (hls : ls.size = nLc) (hM : tb_Mr cls l y cy nL nf g z (.ref (tb_ad g b) :: As) k z1) (hY : tb_Y y cy nL (some (.object cls)) n) (hV : Cond.instanceMethod y ∈ wsL_law ∧ Cond.selects y.cls y y ∈ wsL_law) (hlk : Cond.methodLink own idx y ∈ wsL_law) (hO : tb_isO b y.cls) (hn : As.length = n) (hst : st = As.reverse ++ .ref (tb_ad g b) :: rest) (hcat : (rest.map fun v => v.category).sum ≤ 8) (hR : nf + 1 ≤ R.frames ∧ 8 + (nL + 11) + 36 * nf ≤ R.locals) (hcs : cells ≤ R.cells ∧ slots ≤ R.slots) (hdg : decode cc pc = .ok (.invokevirtual idx, 3))
    (kk : ∀ (H1 : Heap) (locs1 : List Loc), tb_H g s.heap z1 H1 locs1 → W p l e R s m args below meth c H1 locs1 cells slots Q (F0 m (pc + 3) ls (.ref (tb_ad g k) :: rest))) : W p l e R s m args below meth c H locs cells slots Q (F0 m pc ls st) := by
  refine va_callr (va_runV (As := As) (rest := rest) ⟨X.1, X.2.1, X.2.2.2.2.2, X.2.2.2.1, X.2.2.1⟩ hM ⟨tb_CB X hY hlk hR, X.2.2.1 _ hV.1, X.2.2.1 _ hV.2⟩ ⟨tb_blind g z _, tb_recv X hH hO, tb_pre X hH⟩ rfl hn hls hst (lv_room hcat) hdg ⟨hcs.1, hcs.2⟩) hH.2 (fun q _ h => h) (fun q h => h) (fun u ra t H1 locs1 ht hvm hw hB _ _ hS => ?_)
  subst hw
  obtain ⟨rfl, hB⟩ := hB
  exact kk H1 locs1 ⟨by rw [← ht]; exact hB, hS⟩
theorem tb_cSi (X : tb_X own cc nLc g p c s m args) (hH : tb_H g s.heap z H locs) (hls : ls.size = nLc) (hM : tb_Mi ret l y cy nL nf g z As r z1) (hY : tb_Y y cy nL (some ret) n) (hV : Cond.static y ∈ wsL_law) (hlk : Cond.methodLink own idx y ∈ wsL_law) (hn : As.length = n) (hst : st = As.reverse ++ rest) (hcat : (rest.map fun v => v.category).sum ≤ 8) (hR : nf + 1 ≤ R.frames ∧ 8 + (nL + 11) + 36 * nf ≤ R.locals) (hcs : cells ≤ R.cells ∧ slots ≤ R.slots) (hdg : decode cc pc = .ok (.invokestatic idx, 3))
    (kk : ∀ (H1 : Heap) (locs1 : List Loc), tb_H g s.heap z1 H1 locs1 → W p l e R s m args below meth c H1 locs1 cells slots Q (F0 m (pc + 3) ls (.int r :: rest))) : W p l e R s m args below meth c H locs cells slots Q (F0 m pc ls st) := by
  refine va_calli (va_runS (As := As) (rest := rest) ⟨X.1, X.2.1, X.2.2.2.2.2, X.2.2.2.1, X.2.2.1⟩ hM ⟨tb_CB X hY hlk hR, X.2.2.1 _ hV⟩ ⟨tb_blind g z _, tb_pre X hH⟩ rfl hn hls hst (lv_room hcat) hdg ⟨hcs.1, hcs.2⟩) hH.2 (fun q _ h => h) (fun q h => h) (fun r1 u t H1 locs1 ht hvm hw hB _ _ hS => ?_)
  obtain ⟨rfl, rfl⟩ := hw
  exact kk H1 locs1 ⟨by rw [← ht]; exact hB, hS⟩
theorem tb_cSv (X : tb_X own cc nLc g p c s m args) (hH : tb_H g s.heap z H locs) (hls : ls.size = nLc) (hM : tb_Mv l y cy nL nf g z As z1) (hY : tb_Y y cy nL none n) (hV : Cond.static y ∈ wsL_law) (hlk : Cond.methodLink own idx y ∈ wsL_law) (hn : As.length = n) (hst : st = As.reverse ++ rest) (hcat : (rest.map fun v => v.category).sum ≤ 8) (hR : nf + 1 ≤ R.frames ∧ 8 + (nL + 11) + 36 * nf ≤ R.locals) (hcs : cells ≤ R.cells ∧ slots ≤ R.slots) (hdg : decode cc pc = .ok (.invokestatic idx, 3))
    (kk : ∀ (H1 : Heap) (locs1 : List Loc), tb_H g s.heap z1 H1 locs1 → W p l e R s m args below meth c H1 locs1 cells slots Q (F0 m (pc + 3) ls rest)) : W p l e R s m args below meth c H locs cells slots Q (F0 m pc ls st) := by
  refine va_callv (va_runS (As := As) (rest := rest) ⟨X.1, X.2.1, X.2.2.2.2.2, X.2.2.2.1, X.2.2.1⟩ hM ⟨tb_CB X hY hlk hR, X.2.2.1 _ hV⟩ ⟨tb_blind g z _, tb_pre X hH⟩ rfl hn hls hst (lv_room hcat) hdg ⟨hcs.1, hcs.2⟩) hH.2 (fun q _ h => h) (fun q h => h) (fun u t H1 locs1 ht hvm hw hB _ _ hS => ?_)
  subst hw
  exact kk H1 locs1 ⟨by rw [← ht]; exact hB, hS⟩
theorem tb_cNi {host : String} (X : tb_X own cc nLc g p c s m args) (hH : tb_H g s.heap z H locs) (hls : ls.size = nLc) (hM : tb_Mi ret l y cy nL nf g z As r z1) (hY : tb_Y y cy nL (some ret) n) (hV : Cond.static y ∈ wsL_law) (hlk : va_Nw (.methodLinkNest own idx y host) s) (hn : As.length = n) (hst : st = As.reverse ++ rest) (hcat : (rest.map fun v => v.category).sum ≤ 8) (hR : nf + 1 ≤ R.frames ∧ 8 + (nL + 11) + 36 * nf ≤ R.locals) (hcs : cells ≤ R.cells ∧ slots ≤ R.slots) (hdg : decode cc pc = .ok (.invokestatic idx, 3))
    (kk : ∀ (H1 : Heap) (locs1 : List Loc), tb_H g s.heap z1 H1 locs1 → W p l e R s m args below meth c H1 locs1 cells slots Q (F0 m (pc + 3) ls (.int r :: rest))) : W p l e R s m args below meth c H locs cells slots Q (F0 m pc ls st) := by
  refine va_calli (va_runSN (As := As) (rest := rest) ⟨X.1, X.2.1, X.2.2.2.2.2, X.2.2.2.1, X.2.2.1⟩ hM ⟨tb_CN X hY hlk hR, X.2.2.1 _ hV, trivial⟩ ⟨tb_blind g z _, tb_pre X hH⟩ rfl hn hls hst (lv_room hcat) hdg ⟨hcs.1, hcs.2⟩) hH.2 (fun q _ h => h) (fun q h => h) (fun r1 u t H1 locs1 ht hvm hw hB _ _ hS => ?_)
  obtain ⟨rfl, rfl⟩ := hw
  exact kk H1 locs1 ⟨by rw [← ht]; exact hB, hS⟩
-- Math
theorem tb_cmax (X : tb_X own cc nLc g p c s m args) (hls : ls.size = nLc) (hlk : Cond.methodLink own idx Lib.Math.max.name ∈ wsL_law) (w2 : Cond.static Lib.Math.max.name ∈ wsL_law) (w3 : Cond.initialized "java/lang/Math" ∈ wsL_law) (w4 : Cond.code Lib.Math.max.name Lib.Math.max.code 2 (some .int) ∈ wsL_law) (hfr : 1 ≤ R.frames) (hlo : (rest.map fun v => v.category).sum + 13 ≤ R.locals) (hcs : cells ≤ R.cells ∧ slots ≤ R.slots) {x y : Int32} (hdg : decode cc pc = .ok (.invokestatic idx, 3))
    (kk : W p l e R s m args below meth c H locs cells slots Q (F0 m (pc + 3) ls (.int (if x < y then y else x) :: rest))) : W p l e R s m args below meth c H locs cells slots Q (F0 m pc ls (.int y :: .int x :: rest)) :=
  va_mmax X.1 X.2.1 (X.2.2.2.2.2.trans hls.symm) X.2.2.2.1 (X.2.2.1 _ hlk) (X.2.2.1 _ w2) (X.2.2.1 _ w3) (X.2.2.1 _ w4) hfr hlo hcs.1 hcs.2 hdg kk
theorem tb_cmin (X : tb_X own cc nLc g p c s m args) (hls : ls.size = nLc) (hlk : Cond.methodLink own idx Lib.Math.min.name ∈ wsL_law) (w2 : Cond.static Lib.Math.min.name ∈ wsL_law) (w3 : Cond.initialized "java/lang/Math" ∈ wsL_law) (w4 : Cond.code Lib.Math.min.name Lib.Math.min.code 2 (some .int) ∈ wsL_law) (hfr : 1 ≤ R.frames) (hlo : (rest.map fun v => v.category).sum + 13 ≤ R.locals) (hcs : cells ≤ R.cells ∧ slots ≤ R.slots) {x y : Int32} (hdg : decode cc pc = .ok (.invokestatic idx, 3))
    (kk : W p l e R s m args below meth c H locs cells slots Q (F0 m (pc + 3) ls (.int (if y < x then y else x) :: rest))) : W p l e R s m args below meth c H locs cells slots Q (F0 m pc ls (.int y :: .int x :: rest)) :=
  va_mmin X.1 X.2.1 (X.2.2.2.2.2.trans hls.symm) X.2.2.2.1 (X.2.2.1 _ hlk) (X.2.2.1 _ w2) (X.2.2.1 _ w3) (X.2.2.1 _ w4) hfr hlo hcs.1 hcs.2 hdg kk
-- a method's start
theorem tb_goi (hy : plainName y.cls = true) (hown : y.cls = own) (hlen : (lg_sl As).length ≤ nL) (body : ∀ (p : Program) (e : Env) (s : State) (m : MethodId) (below : List Frame) (meth : Method) (c : Code) (ls : Array Slot), tb_X own cy nL g p c s m As.toArray → meth.sig.returnType = some ret → meth.locks = false → tb_H g s.heap z s.heap [] → lv_has ls nL (lv_args 0 As) → W p l e (tb_rm n) s m As.toArray below meth c s.heap [] 0 0 (MQ below (va_Qi (fun a u => a = r ∧ u = z1) (tb_B g) (tb_A g)) As.toArray s 0 0 (tb_A g)) (F0 m 0 ls [])) : tb_Mi ret l y cy nL n g z As r z1 := by
  refine Met.ofW (cc := cy) (maxL := nL) (ret := some ret) hy rfl ?_
  intro p e s m args below meth c s₁ B hml hv
  obtain ⟨rfl, hP, hK⟩ := hv
  have hts := atoms_spec (ws := Cond.code y cy nL (some ret) :: wsL_law) B.pre
  rw [lg_entry_eq]
  exact body p e s m below meth c _ ⟨B.exec, B.bytes, fun w hw => hts w (List.mem_cons_of_mem _ hw), by rw [← hown]; exact findClass_of_methodNamed B.named, hK, hml⟩ B.returns B.notSynchronized ⟨hP, va_S.rf⟩ (lv_entry As (n := nL) hlen)
theorem tb_goiF (hy : plainFor y = true) (hown : y.cls = own) (hlen : (lg_sl As).length ≤ nL) (body : ∀ (p : Program) (e : Env) (s : State) (m : MethodId) (below : List Frame) (meth : Method) (c : Code) (ls : Array Slot), tb_X own cy nL g p c s m As.toArray → meth.sig.returnType = some ret → meth.locks = false → tb_H g s.heap z s.heap [] → lv_has ls nL (lv_args 0 As) → W p l e (tb_rm n) s m As.toArray below meth c s.heap [] 0 0 (MQ below (va_Qi (fun a u => a = r ∧ u = z1) (tb_B g) (tb_A g)) As.toArray s 0 0 (tb_A g)) (F0 m 0 ls [])) : tb_Mi ret l y cy nL n g z As r z1 := by
  refine va_MetF (cc := cy) (maxL := nL) (ret := some ret) hy rfl ?_
  intro p e s m args below meth c s₁ B hml hv
  obtain ⟨rfl, hP, hK⟩ := hv
  have hts := atoms_spec (ws := Cond.code y cy nL (some ret) :: wsL_law) B.pre
  rw [lg_entry_eq]
  exact body p e s m below meth c _ ⟨B.exec, B.bytes, fun w hw => hts w (List.mem_cons_of_mem _ hw), by rw [← hown]; exact findClass_of_methodNamed B.named, hK, hml⟩ B.returns B.notSynchronized ⟨hP, va_S.rf⟩ (lv_entry As (n := nL) hlen)
theorem tb_gov (hy : plainName y.cls = true) (hown : y.cls = own) (hlen : (lg_sl As).length ≤ nL) (body : ∀ (p : Program) (e : Env) (s : State) (m : MethodId) (below : List Frame) (meth : Method) (c : Code) (ls : Array Slot), tb_X own cy nL g p c s m As.toArray → meth.sig.returnType = none → meth.locks = false → tb_H g s.heap z s.heap [] → lv_has ls nL (lv_args 0 As) → W p l e (tb_rm n) s m As.toArray below meth c s.heap [] 0 0 (MQ below (va_Qv (fun u => u = z1) (tb_B g) (tb_A g)) As.toArray s 0 0 (tb_A g)) (F0 m 0 ls [])) : tb_Mv l y cy nL n g z As z1 := by
  refine Met.ofW (cc := cy) (maxL := nL) (ret := none) hy rfl ?_
  intro p e s m args below meth c s₁ B hml hv
  obtain ⟨rfl, hP, hK⟩ := hv
  have hts := atoms_spec (ws := Cond.code y cy nL none :: wsL_law) B.pre
  rw [lg_entry_eq]
  exact body p e s m below meth c _ ⟨B.exec, B.bytes, fun w hw => hts w (List.mem_cons_of_mem _ hw), by rw [← hown]; exact findClass_of_methodNamed B.named, hK, hml⟩ B.returns B.notSynchronized ⟨hP, va_S.rf⟩ (lv_entry As (n := nL) hlen)
theorem tb_gor (hy : plainName y.cls = true) (hown : y.cls = own) (hlen : (lg_sl As).length ≤ nL) (body : ∀ (p : Program) (e : Env) (s : State) (m : MethodId) (below : List Frame) (meth : Method) (c : Code) (ls : Array Slot), tb_X own cy nL g p c s m As.toArray → meth.sig.returnType = some (.object cls) → meth.locks = false → tb_H g s.heap z s.heap [] → lv_has ls nL (lv_args 0 As) → W p l e (tb_rm n) s m As.toArray below meth c s.heap [] 0 0 (MQ below (va_Qr (fun u => u = z1) (fun u ra t => ra = tb_ad g k ∧ tb_B g u t) (tb_A g)) As.toArray s 0 0 (tb_A g)) (F0 m 0 ls [])) : tb_Mr cls l y cy nL n g z As k z1 := by
  refine Met.ofW (cc := cy) (maxL := nL) (ret := some (.object cls)) hy rfl ?_
  intro p e s m args below meth c s₁ B hml hv
  obtain ⟨rfl, hP, hK⟩ := hv
  have hts := atoms_spec (ws := Cond.code y cy nL (some (.object cls)) :: wsL_law) B.pre
  rw [lg_entry_eq]
  exact body p e s m below meth c _ ⟨B.exec, B.bytes, fun w hw => hts w (List.mem_cons_of_mem _ hw), by rw [← hown]; exact findClass_of_methodNamed B.named, hK, hml⟩ B.returns B.notSynchronized ⟨hP, va_S.rf⟩ (lv_entry As (n := nL) hlen)
-- a method's end
def tb_b (q : Prop) [Decidable q] : Int32 := if q then nI 1 else nI 0
theorem tb_b_t {q : Prop} [Decidable q] (h : q) : tb_b q = nI 1 := if_pos h
theorem tb_b_f {q : Prop} [Decidable q] (h : ¬ q) : tb_b q = nI 0 := if_neg h
theorem tb_b_0 {q : Prop} [Decidable q] : tb_b q = 0 ↔ ¬ q := by
  by_cases h : q
  · rw [tb_b_t h]
    exact ⟨fun e => absurd e (by decide), fun e => absurd h e⟩
  · rw [tb_b_f h]
    exact ⟨fun _ => h, fun _ => rfl⟩
theorem tb_b_n {q : Prop} [Decidable q] : narrow .boolean (.int (tb_b q)) = .int (tb_b q) := by
  by_cases h : q
  · rw [tb_b_t h]; rfl
  · rw [tb_b_f h]; rfl
theorem tb_b_c {q q' : Prop} [Decidable q] [Decidable q'] (h : q ↔ q') : tb_b q = tb_b q' := by
  by_cases h1 : q
  · rw [tb_b_t h1, tb_b_t (h.mp h1)]
  · rw [tb_b_f h1, tb_b_f (fun x => h1 (h.mpr x))]
theorem tb_ri (X : tb_X own cc nLc g p c s m args) (hr : meth.sig.returnType = some .int) (hlk : meth.locks = false) (hH : tb_H g s.heap z H locs) {v : Int32} (hv : v = r ∧ z = z1) (hdg : decode cc pc = .ok (.ireturn, 1)) : W p l e R s m args below meth c H locs 0 0 (MQ below (va_Qi (fun a u => a = r ∧ u = z1) (tb_B g) (tb_A g)) args s 0 0 (tb_A g)) (F0 m pc ls [.int v]) :=
  W.iret (v := v) X.1 X.2.1 hr (fun t ht _ => ⟨⟨v, z, rfl, hv, by show va_P _ _ _ t.heap; rw [ht]; exact hH.1⟩, hH.2.F ht⟩) hH.2.2.2 hdg hlk
theorem tb_rz (X : tb_X own cc nLc g p c s m args) (hr : meth.sig.returnType = some .boolean) (hlk : meth.locks = false) (hH : tb_H g s.heap z H locs) {q q' : Prop} [Decidable q] [Decidable q'] (hv : (q ↔ q') ∧ z = z1) (hdg : decode cc pc = .ok (.ireturn, 1)) : W p l e R s m args below meth c H locs 0 0 (MQ below (va_Qi (fun a u => a = tb_b q' ∧ u = z1) (tb_B g) (tb_A g)) args s 0 0 (tb_A g)) (F0 m pc ls [.int (tb_b q)]) :=
  W.zret (v := tb_b q) (ty := .boolean) X.1 X.2.1 hr tb_b_n (fun t ht _ => ⟨⟨tb_b q, z, rfl, ⟨tb_b_c hv.1, hv.2⟩, by show va_P _ _ _ t.heap; rw [ht]; exact hH.1⟩, hH.2.F ht⟩) hH.2.2.2 hdg hlk
theorem tb_rv (X : tb_X own cc nLc g p c s m args) (hr : meth.sig.returnType = none) (hlk : meth.locks = false) (hH : tb_H g s.heap z H locs) (hv : z = z1) (hdg : decode cc pc = .ok (.return_, 1)) : W p l e R s m args below meth c H locs 0 0 (MQ below (va_Qv (fun u => u = z1) (tb_B g) (tb_A g)) args s 0 0 (tb_A g)) (F0 m pc ls []) :=
  W.vret X.1 X.2.1 hr (fun t ht _ => ⟨⟨z, rfl, hv, by show va_P _ _ _ t.heap; rw [ht]; exact hH.1⟩, hH.2.F ht⟩) hH.2.2.2 hdg hlk
theorem tb_rr (X : tb_X own cc nLc g p c s m args) (hr : meth.sig.returnType = some (.object cls)) (hlk : meth.locks = false) (hH : tb_H g s.heap z H locs) {a : Nat} (hv : a = k ∧ z = z1) (hdg : decode cc pc = .ok (.areturn, 1)) : W p l e R s m args below meth c H locs 0 0 (MQ below (va_Qr (fun u => u = z1) (fun u ra t => ra = tb_ad g k ∧ tb_B g u t) (tb_A g)) args s 0 0 (tb_A g)) (F0 m pc ls [.ref (tb_ad g a)]) :=
  W.aret X.1 X.2.1 hr (Or.inl ⟨cls, rfl⟩) (Or.inr ⟨_, rfl⟩) (fun t ht _ => ⟨⟨z, tb_ad g a, rfl, hv.2, by rw [hv.1], by show va_P _ _ _ t.heap; rw [ht]; exact hH.1⟩, hH.2.F ht⟩) hH.2.2.2 hdg hlk
end TBCALLS
end
section
/-! branches on truth values, on counted numbers -/
section TBBR
variable {p : Program} {l : Launch} {e : Env} {R : Room} {s : State} {m : MethodId} {args : Array Value} {below : List Frame} {meth : Method} {c : Code} {H : Heap} {locs : List Loc} {cells slots : Nat} {Q : State → Prop}
variable {cc : ByteArray} {pc nLc tgt : Nat} {ls : Array Slot} {rest : List Value} {g : tb_G} {own : String} {off : Int} {a b : Nat}
theorem tb_top {x x2 : Int32} (h : x = x2) (kk : W p l e R s m args below meth c H locs cells slots Q (F0 m pc ls (.int x2 :: rest))) : W p l e R s m args below meth c H locs cells slots Q (F0 m pc ls (.int x :: rest)) := by
  subst h
  exact kk
theorem tb_jbeq {q : Prop} [Decidable q] (X : tb_X own cc nLc g p c s m args) (hdg : decode cc pc = .ok (.ifCond .eq off, 3)) (ht : (pc : Int) + off = (tgt : Int)) (kt : ¬ q → W p l e R s m args below meth c H locs cells slots Q (F0 m tgt ls rest)) (kf : q → W p l e R s m args below meth c H locs cells slots Q (F0 m (pc + 3) ls rest)) : W p l e R s m args below meth c H locs cells slots Q (F0 m pc ls (.int (tb_b q) :: rest)) :=
  lv_if_eq X.1 X.2.1 hdg ht (fun h => kt (tb_b_0.mp h)) (fun h => kf (Decidable.byContradiction fun n => h (tb_b_0.mpr n)))
theorem tb_jbne {q : Prop} [Decidable q] (X : tb_X own cc nLc g p c s m args) (hdg : decode cc pc = .ok (.ifCond .ne off, 3)) (ht : (pc : Int) + off = (tgt : Int)) (kt : q → W p l e R s m args below meth c H locs cells slots Q (F0 m tgt ls rest)) (kf : ¬ q → W p l e R s m args below meth c H locs cells slots Q (F0 m (pc + 3) ls rest)) : W p l e R s m args below meth c H locs cells slots Q (F0 m pc ls (.int (tb_b q) :: rest)) :=
  lv_if_ne X.1 X.2.1 hdg ht (fun h => kt (Decidable.byContradiction fun n => h (tb_b_0.mpr n))) (fun h => kf (tb_b_0.mp h))
theorem tb_nge (X : tb_X own cc nLc g p c s m args) (ha : a < 2 ^ 31) (hb : b < 2 ^ 31) (hdg : decode cc pc = .ok (.if_icmp .ge off, 3)) (ht : (pc : Int) + off = (tgt : Int)) (kt : b ≤ a → W p l e R s m args below meth c H locs cells slots Q (F0 m tgt ls rest)) (kf : ¬ b ≤ a → W p l e R s m args below meth c H locs cells slots Q (F0 m (pc + 3) ls rest)) : W p l e R s m args below meth c H locs cells slots Q (F0 m pc ls (.int (nI b) :: .int (nI a) :: rest)) :=
  lv_icmp_ge X.1 X.2.1 hdg ht (fun h => kt ((nI_leI hb ha).mp h)) (fun h => kf (fun n => h ((nI_leI hb ha).mpr n)))
theorem tb_nle (X : tb_X own cc nLc g p c s m args) (ha : a < 2 ^ 31) (hb : b < 2 ^ 31) (hdg : decode cc pc = .ok (.if_icmp .le off, 3)) (ht : (pc : Int) + off = (tgt : Int)) (kt : a ≤ b → W p l e R s m args below meth c H locs cells slots Q (F0 m tgt ls rest)) (kf : ¬ a ≤ b → W p l e R s m args below meth c H locs cells slots Q (F0 m (pc + 3) ls rest)) : W p l e R s m args below meth c H locs cells slots Q (F0 m pc ls (.int (nI b) :: .int (nI a) :: rest)) :=
  lv_icmp_le X.1 X.2.1 hdg ht (fun h => kt ((nI_leI ha hb).mp h)) (fun h => kf (fun n => h ((nI_leI ha hb).mpr n)))
theorem tb_nlt (X : tb_X own cc nLc g p c s m args) (ha : a < 2 ^ 31) (hb : b < 2 ^ 31) (hdg : decode cc pc = .ok (.if_icmp .lt off, 3)) (ht : (pc : Int) + off = (tgt : Int)) (kt : a < b → W p l e R s m args below meth c H locs cells slots Q (F0 m tgt ls rest)) (kf : ¬ a < b → W p l e R s m args below meth c H locs cells slots Q (F0 m (pc + 3) ls rest)) : W p l e R s m args below meth c H locs cells slots Q (F0 m pc ls (.int (nI b) :: .int (nI a) :: rest)) :=
  lv_icmp_lt X.1 X.2.1 hdg ht (fun h => kt ((nI_ltI ha hb).mp h)) (fun h => kf (fun n => h ((nI_ltI ha hb).mpr n)))
theorem tb_ngt (X : tb_X own cc nLc g p c s m args) (ha : a < 2 ^ 31) (hb : b < 2 ^ 31) (hdg : decode cc pc = .ok (.if_icmp .gt off, 3)) (ht : (pc : Int) + off = (tgt : Int)) (kt : b < a → W p l e R s m args below meth c H locs cells slots Q (F0 m tgt ls rest)) (kf : ¬ b < a → W p l e R s m args below meth c H locs cells slots Q (F0 m (pc + 3) ls rest)) : W p l e R s m args below meth c H locs cells slots Q (F0 m pc ls (.int (nI b) :: .int (nI a) :: rest)) :=
  lv_icmp_gt X.1 X.2.1 hdg ht (fun h => kt ((nI_ltI hb ha).mp h)) (fun h => kf (fun n => h ((nI_ltI hb ha).mpr n)))
theorem tb_neq (X : tb_X own cc nLc g p c s m args) (ha : a < 2 ^ 31) (hb : b < 2 ^ 31) (hdg : decode cc pc = .ok (.if_icmp .eq off, 3)) (ht : (pc : Int) + off = (tgt : Int)) (kt : a = b → W p l e R s m args below meth c H locs cells slots Q (F0 m tgt ls rest)) (kf : ¬ a = b → W p l e R s m args below meth c H locs cells slots Q (F0 m (pc + 3) ls rest)) : W p l e R s m args below meth c H locs cells slots Q (F0 m pc ls (.int (nI b) :: .int (nI a) :: rest)) :=
  lv_icmp_eq X.1 X.2.1 hdg ht (fun h => kt ((nI_eq ha hb).mp h)) (fun h => kf (fun n => h ((nI_eq ha hb).mpr n)))
theorem tb_nne (X : tb_X own cc nLc g p c s m args) (ha : a < 2 ^ 31) (hb : b < 2 ^ 31) (hdg : decode cc pc = .ok (.if_icmp .ne off, 3)) (ht : (pc : Int) + off = (tgt : Int)) (kt : ¬ a = b → W p l e R s m args below meth c H locs cells slots Q (F0 m tgt ls rest)) (kf : a = b → W p l e R s m args below meth c H locs cells slots Q (F0 m (pc + 3) ls rest)) : W p l e R s m args below meth c H locs cells slots Q (F0 m pc ls (.int (nI b) :: .int (nI a) :: rest)) :=
  lv_icmp_ne X.1 X.2.1 hdg ht (fun h => kt (fun n => h ((nI_eq ha hb).mpr n))) (fun h => kf ((nI_eq ha hb).mp h))
theorem tb_zeq (X : tb_X own cc nLc g p c s m args) (ha : a < 2 ^ 31) (hdg : decode cc pc = .ok (.ifCond .eq off, 3)) (ht : (pc : Int) + off = (tgt : Int)) (kt : a = 0 → W p l e R s m args below meth c H locs cells slots Q (F0 m tgt ls rest)) (kf : ¬ a = 0 → W p l e R s m args below meth c H locs cells slots Q (F0 m (pc + 3) ls rest)) : W p l e R s m args below meth c H locs cells slots Q (F0 m pc ls (.int (nI a) :: rest)) :=
  lv_if_eq X.1 X.2.1 hdg ht (fun h => kt ((nI_eq ha (by decide)).mp (h.trans nI_0.symm))) (fun h => kf (fun n => h (by rw [n]; exact nI_0)))
theorem tb_zne (X : tb_X own cc nLc g p c s m args) (ha : a < 2 ^ 31) (hdg : decode cc pc = .ok (.ifCond .ne off, 3)) (ht : (pc : Int) + off = (tgt : Int)) (kt : ¬ a = 0 → W p l e R s m args below meth c H locs cells slots Q (F0 m tgt ls rest)) (kf : a = 0 → W p l e R s m args below meth c H locs cells slots Q (F0 m (pc + 3) ls rest)) : W p l e R s m args below meth c H locs cells slots Q (F0 m pc ls (.int (nI a) :: rest)) :=
  lv_if_ne X.1 X.2.1 hdg ht (fun h => kt (fun n => h (by rw [n]; exact nI_0))) (fun h => kf ((nI_eq ha (by decide)).mp (h.trans nI_0.symm)))
theorem tb_zgt (X : tb_X own cc nLc g p c s m args) (ha : a < 2 ^ 31) (hdg : decode cc pc = .ok (.ifCond .gt off, 3)) (ht : (pc : Int) + off = (tgt : Int)) (kt : 0 < a → W p l e R s m args below meth c H locs cells slots Q (F0 m tgt ls rest)) (kf : ¬ 0 < a → W p l e R s m args below meth c H locs cells slots Q (F0 m (pc + 3) ls rest)) : W p l e R s m args below meth c H locs cells slots Q (F0 m pc ls (.int (nI a) :: rest)) :=
  lv_if_gt X.1 X.2.1 hdg ht (fun h => kt ((nI_ltI (by decide) ha).mp (by rw [nI_0]; exact h))) (fun h => kf (fun n => h (by have := (nI_ltI (by decide) ha).mpr n; rw [nI_0] at this; exact this)))
theorem tb_zle (X : tb_X own cc nLc g p c s m args) (ha : a < 2 ^ 31) (hdg : decode cc pc = .ok (.ifCond .le off, 3)) (ht : (pc : Int) + off = (tgt : Int)) (kt : a ≤ 0 → W p l e R s m args below meth c H locs cells slots Q (F0 m tgt ls rest)) (kf : ¬ a ≤ 0 → W p l e R s m args below meth c H locs cells slots Q (F0 m (pc + 3) ls rest)) : W p l e R s m args below meth c H locs cells slots Q (F0 m pc ls (.int (nI a) :: rest)) :=
  lv_if_le X.1 X.2.1 hdg ht (fun h => kt ((nI_leI ha (by decide)).mp (by rw [nI_0]; exact h))) (fun h => kf (fun n => h (by have := (nI_leI ha (by decide)).mpr n; rw [nI_0] at this; exact this)))
def tb_ushr (x : Int64) (y : Int32) : Int64 := (x.toUInt64 >>> (y.toInt64.toUInt64 &&& Int64.toUInt64 63)).toInt64
end TBBR
theorem tb_lcmp0 {x y : Int64} : lg_cmp x y = 0 ↔ x = y := by
  unfold lg_cmp
  by_cases h2 : x = y
  · subst h2
    simp
  · constructor
    · intro h
      rw [if_neg h2] at h
      split at h <;> exact absurd h (by decide)
    · intro h
      exact absurd h h2
section TBJL
variable {p : Program} {l : Launch} {e : Env} {R : Room} {s : State} {m : MethodId} {args : Array Value} {below : List Frame} {meth : Method} {c : Code} {H : Heap} {locs : List Loc} {cells slots : Nat} {Q : State → Prop}
variable {cc : ByteArray} {pc nLc tgt : Nat} {ls : Array Slot} {rest : List Value} {g : tb_G} {own : String} {off : Int} {x y : Int64}
theorem tb_jlne (X : tb_X own cc nLc g p c s m args) (hdg : decode cc pc = .ok (.ifCond .ne off, 3)) (ht : (pc : Int) + off = (tgt : Int)) (kt : ¬ x = y → W p l e R s m args below meth c H locs cells slots Q (F0 m tgt ls rest)) (kf : x = y → W p l e R s m args below meth c H locs cells slots Q (F0 m (pc + 3) ls rest)) : W p l e R s m args below meth c H locs cells slots Q (F0 m pc ls (.int (lg_cmp x y) :: rest)) :=
  lv_if_ne X.1 X.2.1 hdg ht (fun h => kt (fun n => h (tb_lcmp0.mpr n))) (fun h => kf (tb_lcmp0.mp h))
theorem tb_jleq (X : tb_X own cc nLc g p c s m args) (hdg : decode cc pc = .ok (.ifCond .eq off, 3)) (ht : (pc : Int) + off = (tgt : Int)) (kt : x = y → W p l e R s m args below meth c H locs cells slots Q (F0 m tgt ls rest)) (kf : ¬ x = y → W p l e R s m args below meth c H locs cells slots Q (F0 m (pc + 3) ls rest)) : W p l e R s m args below meth c H locs cells slots Q (F0 m pc ls (.int (lg_cmp x y) :: rest)) :=
  lv_if_eq X.1 X.2.1 hdg ht (fun h => kt (tb_lcmp0.mp h)) (fun h => kf (fun n => h (tb_lcmp0.mpr n)))
end TBJL
end
section
/-! the words of each method that is called -/
theorem ky_X5_init : tb_Y yX5_init cX5_init 1 none 0 ∧ Cond.instanceMethod yX5_init ∈ wsL_law := ⟨⟨wm_9, wm_2, ⟨by decide +kernel, by decide +kernel⟩, by decide +kernel⟩, wm_8⟩
theorem ky_X1_init : tb_Y yX1_init cX1_init 1 none 0 ∧ Cond.instanceMethod yX1_init ∈ wsL_law := ⟨⟨wm_31, wm_15, ⟨by decide +kernel, by decide +kernel⟩, by decide +kernel⟩, wm_30⟩
theorem ky_X0_init : tb_Y yX0_init cX0_init 2 none 0 ∧ Cond.instanceMethod yX0_init ∈ wsL_law := ⟨⟨wm_48, wm_37, ⟨by decide +kernel, by decide +kernel⟩, by decide +kernel⟩, wm_47⟩
theorem ky_X4_init : tb_Y yX4_init cX4_init 1 none 0 ∧ Cond.instanceMethod yX4_init ∈ wsL_law := ⟨⟨wm_54, wm_43, ⟨by decide +kernel, by decide +kernel⟩, by decide +kernel⟩, wm_53⟩
theorem ky_X0_takeGoldenImage : tb_Y yX0_takeGoldenImage cX0_takeGoldenImage 1 none 0 ∧ (Cond.instanceMethod yX0_takeGoldenImage ∈ wsL_law ∧ Cond.selects (yX0_takeGoldenImage).cls yX0_takeGoldenImage yX0_takeGoldenImage ∈ wsL_law) := ⟨⟨wm_62, wm_37, ⟨by decide +kernel, by decide +kernel⟩, by decide +kernel⟩, wm_60, wm_61⟩
theorem ky_X0_expectImage : tb_Y yX0_expectImage cX0_expectImage 4 none 3 ∧ (Cond.instanceMethod yX0_expectImage ∈ wsL_law ∧ Cond.selects (yX0_expectImage).cls yX0_expectImage yX0_expectImage ∈ wsL_law) := ⟨⟨wm_67, wm_37, ⟨by decide +kernel, by decide +kernel⟩, by decide +kernel⟩, wm_65, wm_66⟩
theorem ky_X0_addWord : tb_Y yX0_addWord cX0_addWord 2 none 1 ∧ (Cond.instanceMethod yX0_addWord ∈ wsL_law ∧ Cond.selects (yX0_addWord).cls yX0_addWord yX0_addWord ∈ wsL_law) := ⟨⟨wm_75, wm_37, ⟨by decide +kernel, by decide +kernel⟩, by decide +kernel⟩, wm_73, wm_74⟩
theorem ky_X5_isWithin : tb_Y yX5_isWithin cX5_isWithin 3 (some .boolean) 3 ∧ Cond.static yX5_isWithin ∈ wsL_law := ⟨⟨wm_77, wm_2, ⟨by decide +kernel, by decide +kernel⟩, by decide +kernel⟩, wm_76⟩
theorem ky_X0_sumOfImage : tb_Y yX0_sumOfImage cX0_sumOfImage 3 (some .int) 0 ∧ (Cond.instanceMethod yX0_sumOfImage ∈ wsL_law ∧ Cond.selects (yX0_sumOfImage).cls yX0_sumOfImage yX0_sumOfImage ∈ wsL_law) := ⟨⟨wm_81, wm_37, ⟨by decide +kernel, by decide +kernel⟩, by decide +kernel⟩, wm_79, wm_80⟩
theorem ky_X5_sumWith : tb_Y yX5_sumWith cX5_sumWith 2 (some .int) 2 ∧ Cond.static yX5_sumWith ∈ wsL_law := ⟨⟨wm_83, wm_2, ⟨by decide +kernel, by decide +kernel⟩, by decide +kernel⟩, wm_82⟩
theorem ky_X2_init : tb_Y yX2_init cX2_init 2 none 0 ∧ Cond.instanceMethod yX2_init ∈ wsL_law := ⟨⟨wm_86, wm_23, ⟨by decide +kernel, by decide +kernel⟩, by decide +kernel⟩, wm_85⟩
theorem ky_X3_init : tb_Y yX3_init cX3_init 1 none 0 ∧ Cond.instanceMethod yX3_init ∈ wsL_law := ⟨⟨wm_92, wm_27, ⟨by decide +kernel, by decide +kernel⟩, by decide +kernel⟩, wm_91⟩
theorem ky_X6_init : tb_Y yX6_init cX6_init 3 none 0 ∧ Cond.instanceMethod yX6_init ∈ wsL_law := ⟨⟨wm_97, wm_5, ⟨by decide +kernel, by decide +kernel⟩, by decide +kernel⟩, wm_96⟩
theorem ky_X6_setPart : tb_Y yX6_setPart cX6_setPart 4 none 3 ∧ (Cond.instanceMethod yX6_setPart ∈ wsL_law ∧ Cond.selects (yX6_setPart).cls yX6_setPart yX6_setPart ∈ wsL_law) := ⟨⟨wm_108, wm_5, ⟨by decide +kernel, by decide +kernel⟩, by decide +kernel⟩, wm_106, wm_107⟩
theorem ky_X5_set : tb_Y yX5_set cX5_set 4 (some .int) 2 ∧ (Cond.instanceMethod yX5_set ∈ wsL_law ∧ Cond.selects (yX5_set).cls yX5_set yX5_set ∈ wsL_law) := ⟨⟨wm_112, wm_2, ⟨by decide +kernel, by decide +kernel⟩, by decide +kernel⟩, wm_110, wm_111⟩
theorem ky_X2_record : tb_Y yX2_record cX2_record 2 none 1 ∧ (Cond.instanceMethod yX2_record ∈ wsL_law ∧ Cond.selects (yX2_record).cls yX2_record yX2_record ∈ wsL_law) := ⟨⟨wm_119, wm_23, ⟨by decide +kernel, by decide +kernel⟩, by decide +kernel⟩, wm_117, wm_118⟩
theorem ky_J9_floorMod_7cf53 : tb_Y yJ9_floorMod_7cf53 cJ9_floorMod_7cf53 3 (some .int) 2 ∧ Cond.static yJ9_floorMod_7cf53 ∈ wsL_law := ⟨⟨wm_129, wm_128, ⟨by decide +kernel, by decide +kernel⟩, by decide +kernel⟩, wm_127⟩
theorem ky_X1_copyFrom : tb_Y yX1_copyFrom cX1_copyFrom 2 none 1 ∧ (Cond.instanceMethod yX1_copyFrom ∈ wsL_law ∧ Cond.selects (yX1_copyFrom).cls yX1_copyFrom yX1_copyFrom ∈ wsL_law) := ⟨⟨wm_133, wm_15, ⟨by decide +kernel, by decide +kernel⟩, by decide +kernel⟩, wm_131, wm_132⟩
theorem ky_X0_copyFrom : tb_Y yX0_copyFrom cX0_copyFrom 2 none 1 ∧ (Cond.instanceMethod yX0_copyFrom ∈ wsL_law ∧ Cond.selects (yX0_copyFrom).cls yX0_copyFrom yX0_copyFrom ∈ wsL_law) := ⟨⟨wm_145, wm_37, ⟨by decide +kernel, by decide +kernel⟩, by decide +kernel⟩, wm_143, wm_144⟩
theorem ky_X4_copyFrom : tb_Y yX4_copyFrom cX4_copyFrom 2 none 1 ∧ (Cond.instanceMethod yX4_copyFrom ∈ wsL_law ∧ Cond.selects (yX4_copyFrom).cls yX4_copyFrom yX4_copyFrom ∈ wsL_law) := ⟨⟨wm_150, wm_43, ⟨by decide +kernel, by decide +kernel⟩, by decide +kernel⟩, wm_148, wm_149⟩
theorem ky_X6_set : tb_Y yX6_set cX6_set 4 (some .int) 2 ∧ (Cond.instanceMethod yX6_set ∈ wsL_law ∧ Cond.selects (yX6_set).cls yX6_set yX6_set ∈ wsL_law) := ⟨⟨wm_158, wm_5, ⟨by decide +kernel, by decide +kernel⟩, by decide +kernel⟩, wm_156, wm_157⟩
theorem ky_X6_isValue : tb_Y yX6_isValue cX6_isValue 2 (some .boolean) 2 ∧ Cond.static yX6_isValue ∈ wsL_law := ⟨⟨wm_161, wm_5, ⟨by decide +kernel, by decide +kernel⟩, by decide +kernel⟩, wm_160⟩
theorem ky_X6_within : tb_Y yX6_within cX6_within 3 (some .boolean) 3 ∧ Cond.static yX6_within ∈ wsL_law := ⟨⟨wm_164, wm_5, ⟨by decide +kernel, by decide +kernel⟩, by decide +kernel⟩, wm_163⟩
theorem ky_X6_record : tb_Y yX6_record cX6_record 2 none 0 ∧ (Cond.instanceMethod yX6_record ∈ wsL_law ∧ Cond.selects (yX6_record).cls yX6_record yX6_record ∈ wsL_law) := ⟨⟨wm_168, wm_5, ⟨by decide +kernel, by decide +kernel⟩, by decide +kernel⟩, wm_166, wm_167⟩
theorem ky_X6_moves : tb_Y yX6_moves cX6_moves 5 none 4 ∧ Cond.static yX6_moves ∈ wsL_law := ⟨⟨wm_172, wm_5, ⟨by decide +kernel, by decide +kernel⟩, by decide +kernel⟩, wm_171⟩
theorem ky_X5_begin : tb_Y yX5_begin cX5_begin 7 (some .int) 4 ∧ (Cond.instanceMethod yX5_begin ∈ wsL_law ∧ Cond.selects (yX5_begin).cls yX5_begin yX5_begin ∈ wsL_law) := ⟨⟨wm_176, wm_2, ⟨by decide +kernel, by decide +kernel⟩, by decide +kernel⟩, wm_174, wm_175⟩
theorem ky_X5_isSlot : tb_Y yX5_isSlot cX5_isSlot 1 (some .boolean) 1 ∧ Cond.static yX5_isSlot ∈ wsL_law := ⟨⟨wm_181, wm_2, ⟨by decide +kernel, by decide +kernel⟩, by decide +kernel⟩, wm_180⟩
theorem ky_X5_isLength : tb_Y yX5_isLength cX5_isLength 1 (some .boolean) 1 ∧ Cond.static yX5_isLength ∈ wsL_law := ⟨⟨wm_184, wm_2, ⟨by decide +kernel, by decide +kernel⟩, by decide +kernel⟩, wm_183⟩
theorem ky_X5_pagesOf : tb_Y yX5_pagesOf cX5_pagesOf 1 (some .int) 1 ∧ Cond.static yX5_pagesOf ∈ wsL_law := ⟨⟨wm_187, wm_2, ⟨by decide +kernel, by decide +kernel⟩, by decide +kernel⟩, wm_186⟩
theorem ky_X1_beginsLeft : tb_Y yX1_beginsLeft cX1_beginsLeft 3 (some .int) 2 ∧ (Cond.instanceMethod yX1_beginsLeft ∈ wsL_law ∧ Cond.selects (yX1_beginsLeft).cls yX1_beginsLeft yX1_beginsLeft ∈ wsL_law) := ⟨⟨wm_191, wm_15, ⟨by decide +kernel, by decide +kernel⟩, by decide +kernel⟩, wm_189, wm_190⟩
theorem ky_X1_areaAt : tb_Y yX1_areaAt cX1_areaAt 2 (some (.object "TrialBoots$Area")) 1 ∧ (Cond.instanceMethod yX1_areaAt ∈ wsL_law ∧ Cond.selects (yX1_areaAt).cls yX1_areaAt yX1_areaAt ∈ wsL_law) := ⟨⟨wm_198, wm_15, ⟨by decide +kernel, by decide +kernel⟩, by decide +kernel⟩, wm_196, wm_197⟩
theorem ky_X0_greatestWear : tb_Y yX0_greatestWear cX0_greatestWear 4 (some .int) 1 ∧ (Cond.instanceMethod yX0_greatestWear ∈ wsL_law ∧ Cond.selects (yX0_greatestWear).cls yX0_greatestWear yX0_greatestWear ∈ wsL_law) := ⟨⟨wm_202, wm_37, ⟨by decide +kernel, by decide +kernel⟩, by decide +kernel⟩, wm_200, wm_201⟩
theorem ky_X0_emptyPages : tb_Y yX0_emptyPages cX0_emptyPages 3 none 1 ∧ (Cond.instanceMethod yX0_emptyPages ∈ wsL_law ∧ Cond.selects (yX0_emptyPages).cls yX0_emptyPages yX0_emptyPages ∈ wsL_law) := ⟨⟨wm_208, wm_37, ⟨by decide +kernel, by decide +kernel⟩, by decide +kernel⟩, wm_206, wm_207⟩
theorem ky_X6_begin : tb_Y yX6_begin cX6_begin 6 (some .int) 4 ∧ (Cond.instanceMethod yX6_begin ∈ wsL_law ∧ Cond.selects (yX6_begin).cls yX6_begin yX6_begin ∈ wsL_law) := ⟨⟨wm_214, wm_5, ⟨by decide +kernel, by decide +kernel⟩, by decide +kernel⟩, wm_212, wm_213⟩
theorem ky_X6_isSlot : tb_Y yX6_isSlot cX6_isSlot 1 (some .boolean) 1 ∧ Cond.static yX6_isSlot ∈ wsL_law := ⟨⟨wm_217, wm_5, ⟨by decide +kernel, by decide +kernel⟩, by decide +kernel⟩, wm_216⟩
theorem ky_X6_pagesOf : tb_Y yX6_pagesOf cX6_pagesOf 1 (some .int) 1 ∧ Cond.static yX6_pagesOf ∈ wsL_law := ⟨⟨wm_220, wm_5, ⟨by decide +kernel, by decide +kernel⟩, by decide +kernel⟩, wm_219⟩
theorem ky_X6_isAnyWorn : tb_Y yX6_isAnyWorn cX6_isAnyWorn 5 (some .boolean) 2 ∧ (Cond.instanceMethod yX6_isAnyWorn ∈ wsL_law ∧ Cond.selects (yX6_isAnyWorn).cls yX6_isAnyWorn yX6_isAnyWorn ∈ wsL_law) := ⟨⟨wm_224, wm_5, ⟨by decide +kernel, by decide +kernel⟩, by decide +kernel⟩, wm_222, wm_223⟩
theorem ky_X6_isWorn : tb_Y yX6_isWorn cX6_isWorn 3 (some .boolean) 2 ∧ (Cond.instanceMethod yX6_isWorn ∈ wsL_law ∧ Cond.selects (yX6_isWorn).cls yX6_isWorn yX6_isWorn ∈ wsL_law) := ⟨⟨wm_228, wm_5, ⟨by decide +kernel, by decide +kernel⟩, by decide +kernel⟩, wm_226, wm_227⟩
theorem ky_X6_part : tb_Y yX6_part cX6_part 3 (some .int) 2 ∧ (Cond.instanceMethod yX6_part ∈ wsL_law ∧ Cond.selects (yX6_part).cls yX6_part yX6_part ∈ wsL_law) := ⟨⟨wm_232, wm_5, ⟨by decide +kernel, by decide +kernel⟩, by decide +kernel⟩, wm_230, wm_231⟩
theorem ky_X6_emptyPage : tb_Y yX6_emptyPage cX6_emptyPage 4 none 2 ∧ (Cond.instanceMethod yX6_emptyPage ∈ wsL_law ∧ Cond.selects (yX6_emptyPage).cls yX6_emptyPage yX6_emptyPage ∈ wsL_law) := ⟨⟨wm_236, wm_5, ⟨by decide +kernel, by decide +kernel⟩, by decide +kernel⟩, wm_234, wm_235⟩
theorem ky_X6_greatestWear : tb_Y yX6_greatestWear cX6_greatestWear 5 (some .int) 2 ∧ (Cond.instanceMethod yX6_greatestWear ∈ wsL_law ∧ Cond.selects (yX6_greatestWear).cls yX6_greatestWear yX6_greatestWear ∈ wsL_law) := ⟨⟨wm_240, wm_5, ⟨by decide +kernel, by decide +kernel⟩, by decide +kernel⟩, wm_238, wm_239⟩
theorem ky_X5_fill : tb_Y yX5_fill cX5_fill 4 (some .int) 2 ∧ (Cond.instanceMethod yX5_fill ∈ wsL_law ∧ Cond.selects (yX5_fill).cls yX5_fill yX5_fill ∈ wsL_law) := ⟨⟨wm_244, wm_2, ⟨by decide +kernel, by decide +kernel⟩, by decide +kernel⟩, wm_242, wm_243⟩
theorem ky_X0_lacking : tb_Y yX0_lacking cX0_lacking 1 (some .int) 0 ∧ (Cond.instanceMethod yX0_lacking ∈ wsL_law ∧ Cond.selects (yX0_lacking).cls yX0_lacking yX0_lacking ∈ wsL_law) := ⟨⟨wm_250, wm_37, ⟨by decide +kernel, by decide +kernel⟩, by decide +kernel⟩, wm_248, wm_249⟩
theorem ky_X6_fill : tb_Y yX6_fill cX6_fill 3 (some .int) 2 ∧ (Cond.instanceMethod yX6_fill ∈ wsL_law ∧ Cond.selects (yX6_fill).cls yX6_fill yX6_fill ∈ wsL_law) := ⟨⟨wm_255, wm_5, ⟨by decide +kernel, by decide +kernel⟩, by decide +kernel⟩, wm_253, wm_254⟩
theorem ky_X6_isHow : tb_Y yX6_isHow cX6_isHow 3 (some .boolean) 2 ∧ (Cond.instanceMethod yX6_isHow ∈ wsL_law ∧ Cond.selects (yX6_isHow).cls yX6_isHow yX6_isHow ∈ wsL_law) := ⟨⟨wm_259, wm_5, ⟨by decide +kernel, by decide +kernel⟩, by decide +kernel⟩, wm_257, wm_258⟩
theorem ky_X6_lacks : tb_Y yX6_lacks cX6_lacks 2 (some .int) 1 ∧ (Cond.instanceMethod yX6_lacks ∈ wsL_law ∧ Cond.selects (yX6_lacks).cls yX6_lacks yX6_lacks ∈ wsL_law) := ⟨⟨wm_263, wm_5, ⟨by decide +kernel, by decide +kernel⟩, by decide +kernel⟩, wm_261, wm_262⟩
theorem ky_X6_fills : tb_Y yX6_fills cX6_fills 3 none 2 ∧ (Cond.instanceMethod yX6_fills ∈ wsL_law ∧ Cond.selects (yX6_fills).cls yX6_fills yX6_fills ∈ wsL_law) := ⟨⟨wm_267, wm_5, ⟨by decide +kernel, by decide +kernel⟩, by decide +kernel⟩, wm_265, wm_266⟩
theorem ky_X5_fillAll : tb_Y yX5_fillAll cX5_fillAll 5 (some .int) 1 ∧ (Cond.instanceMethod yX5_fillAll ∈ wsL_law ∧ Cond.selects (yX5_fillAll).cls yX5_fillAll yX5_fillAll ∈ wsL_law) := ⟨⟨wm_271, wm_2, ⟨by decide +kernel, by decide +kernel⟩, by decide +kernel⟩, wm_269, wm_270⟩
theorem ky_X3_firstFault : tb_Y yX3_firstFault cX3_firstFault 2 (some .int) 0 ∧ (Cond.instanceMethod yX3_firstFault ∈ wsL_law ∧ Cond.selects (yX3_firstFault).cls yX3_firstFault yX3_firstFault ∈ wsL_law) := ⟨⟨wm_275, wm_27, ⟨by decide +kernel, by decide +kernel⟩, by decide +kernel⟩, wm_273, wm_274⟩
theorem ky_X3_digitAt : tb_Y yX3_digitAt cX3_digitAt 3 (some .int) 1 ∧ (Cond.instanceMethod yX3_digitAt ∈ wsL_law ∧ Cond.selects (yX3_digitAt).cls yX3_digitAt yX3_digitAt ∈ wsL_law) := ⟨⟨wm_280, wm_27, ⟨by decide +kernel, by decide +kernel⟩, by decide +kernel⟩, wm_278, wm_279⟩
theorem ky_X3_words : tb_Y yX3_words cX3_words 1 (some .int) 0 ∧ (Cond.instanceMethod yX3_words ∈ wsL_law ∧ Cond.selects (yX3_words).cls yX3_words yX3_words ∈ wsL_law) := ⟨⟨wm_284, wm_27, ⟨by decide +kernel, by decide +kernel⟩, by decide +kernel⟩, wm_282, wm_283⟩
theorem ky_X3_wordAt : tb_Y yX3_wordAt cX3_wordAt 2 (some .int) 1 ∧ (Cond.instanceMethod yX3_wordAt ∈ wsL_law ∧ Cond.selects (yX3_wordAt).cls yX3_wordAt yX3_wordAt ∈ wsL_law) := ⟨⟨wm_288, wm_27, ⟨by decide +kernel, by decide +kernel⟩, by decide +kernel⟩, wm_286, wm_287⟩
theorem ky_X3_clear : tb_Y yX3_clear cX3_clear 1 none 0 ∧ (Cond.instanceMethod yX3_clear ∈ wsL_law ∧ Cond.selects (yX3_clear).cls yX3_clear yX3_clear ∈ wsL_law) := ⟨⟨wm_292, wm_27, ⟨by decide +kernel, by decide +kernel⟩, by decide +kernel⟩, wm_290, wm_291⟩
theorem ky_X6_fillAll : tb_Y yX6_fillAll cX6_fillAll 3 (some .int) 1 ∧ (Cond.instanceMethod yX6_fillAll ∈ wsL_law ∧ Cond.selects (yX6_fillAll).cls yX6_fillAll yX6_fillAll ∈ wsL_law) := ⟨⟨wm_296, wm_5, ⟨by decide +kernel, by decide +kernel⟩, by decide +kernel⟩, wm_294, wm_295⟩
theorem ky_X6_findFault : tb_Y yX6_findFault cX6_findFault 2 (some .int) 0 ∧ (Cond.instanceMethod yX6_findFault ∈ wsL_law ∧ Cond.selects (yX6_findFault).cls yX6_findFault yX6_findFault ∈ wsL_law) := ⟨⟨wm_301, wm_5, ⟨by decide +kernel, by decide +kernel⟩, by decide +kernel⟩, wm_299, wm_300⟩
theorem ky_X6_digitOf : tb_Y yX6_digitOf cX6_digitOf 1 (some .int) 1 ∧ Cond.static yX6_digitOf ∈ wsL_law := ⟨⟨wm_304, wm_5, ⟨by decide +kernel, by decide +kernel⟩, by decide +kernel⟩, wm_303⟩
theorem ky_X6_padWord : tb_Y yX6_padWord cX6_padWord 2 (some .int) 1 ∧ (Cond.instanceMethod yX6_padWord ∈ wsL_law ∧ Cond.selects (yX6_padWord).cls yX6_padWord yX6_padWord ∈ wsL_law) := ⟨⟨wm_308, wm_5, ⟨by decide +kernel, by decide +kernel⟩, by decide +kernel⟩, wm_306, wm_307⟩
theorem ky_X5_finish : tb_Y yX5_finish cX5_finish 3 (some .int) 1 ∧ (Cond.instanceMethod yX5_finish ∈ wsL_law ∧ Cond.selects (yX5_finish).cls yX5_finish yX5_finish ∈ wsL_law) := ⟨⟨wm_312, wm_2, ⟨by decide +kernel, by decide +kernel⟩, by decide +kernel⟩, wm_310, wm_311⟩
theorem ky_X0_isSound : tb_Y yX0_isSound cX0_isSound 1 (some .boolean) 0 ∧ (Cond.instanceMethod yX0_isSound ∈ wsL_law ∧ Cond.selects (yX0_isSound).cls yX0_isSound yX0_isSound ∈ wsL_law) := ⟨⟨wm_317, wm_37, ⟨by decide +kernel, by decide +kernel⟩, by decide +kernel⟩, wm_315, wm_316⟩
theorem ky_X6_finish : tb_Y yX6_finish cX6_finish 3 (some .int) 1 ∧ (Cond.instanceMethod yX6_finish ∈ wsL_law ∧ Cond.selects (yX6_finish).cls yX6_finish yX6_finish ∈ wsL_law) := ⟨⟨wm_321, wm_5, ⟨by decide +kernel, by decide +kernel⟩, by decide +kernel⟩, wm_319, wm_320⟩
theorem ky_X6_isSound : tb_Y yX6_isSound cX6_isSound 2 (some .boolean) 1 ∧ (Cond.instanceMethod yX6_isSound ∈ wsL_law ∧ Cond.selects (yX6_isSound).cls yX6_isSound yX6_isSound ∈ wsL_law) := ⟨⟨wm_325, wm_5, ⟨by decide +kernel, by decide +kernel⟩, by decide +kernel⟩, wm_323, wm_324⟩
theorem ky_X6_sumOf : tb_Y yX6_sumOf cX6_sumOf 5 (some .int) 1 ∧ (Cond.instanceMethod yX6_sumOf ∈ wsL_law ∧ Cond.selects (yX6_sumOf).cls yX6_sumOf yX6_sumOf ∈ wsL_law) := ⟨⟨wm_329, wm_5, ⟨by decide +kernel, by decide +kernel⟩, by decide +kernel⟩, wm_327, wm_328⟩
theorem ky_X6_wordOf : tb_Y yX6_wordOf cX6_wordOf 3 (some .int) 2 ∧ (Cond.instanceMethod yX6_wordOf ∈ wsL_law ∧ Cond.selects (yX6_wordOf).cls yX6_wordOf yX6_wordOf ∈ wsL_law) := ⟨⟨wm_333, wm_5, ⟨by decide +kernel, by decide +kernel⟩, by decide +kernel⟩, wm_331, wm_332⟩
theorem ky_X5_damage : tb_Y yX5_damage cX5_damage 5 (some .int) 3 ∧ (Cond.instanceMethod yX5_damage ∈ wsL_law ∧ Cond.selects (yX5_damage).cls yX5_damage yX5_damage ∈ wsL_law) := ⟨⟨wm_337, wm_2, ⟨by decide +kernel, by decide +kernel⟩, by decide +kernel⟩, wm_335, wm_336⟩
theorem ky_X6_damage : tb_Y yX6_damage cX6_damage 4 (some .int) 3 ∧ (Cond.instanceMethod yX6_damage ∈ wsL_law ∧ Cond.selects (yX6_damage).cls yX6_damage yX6_damage ∈ wsL_law) := ⟨⟨wm_342, wm_5, ⟨by decide +kernel, by decide +kernel⟩, by decide +kernel⟩, wm_340, wm_341⟩
theorem ky_X5_repair : tb_Y yX5_repair cX5_repair 3 (some .int) 1 ∧ (Cond.instanceMethod yX5_repair ∈ wsL_law ∧ Cond.selects (yX5_repair).cls yX5_repair yX5_repair ∈ wsL_law) := ⟨⟨wm_346, wm_2, ⟨by decide +kernel, by decide +kernel⟩, by decide +kernel⟩, wm_344, wm_345⟩
theorem ky_X6_repair : tb_Y yX6_repair cX6_repair 3 (some .int) 1 ∧ (Cond.instanceMethod yX6_repair ∈ wsL_law ∧ Cond.selects (yX6_repair).cls yX6_repair yX6_repair ∈ wsL_law) := ⟨⟨wm_351, wm_5, ⟨by decide +kernel, by decide +kernel⟩, by decide +kernel⟩, wm_349, wm_350⟩
theorem ky_X5_start : tb_Y yX5_start cX5_start 2 (some .int) 1 ∧ (Cond.instanceMethod yX5_start ∈ wsL_law ∧ Cond.selects (yX5_start).cls yX5_start yX5_start ∈ wsL_law) := ⟨⟨wm_355, wm_2, ⟨by decide +kernel, by decide +kernel⟩, by decide +kernel⟩, wm_353, wm_354⟩
theorem ky_X1_startBy : tb_Y yX1_startBy cX1_startBy 2 none 1 ∧ (Cond.instanceMethod yX1_startBy ∈ wsL_law ∧ Cond.selects (yX1_startBy).cls yX1_startBy yX1_startBy ∈ wsL_law) := ⟨⟨wm_359, wm_15, ⟨by decide +kernel, by decide +kernel⟩, by decide +kernel⟩, wm_357, wm_358⟩
theorem ky_X0_loseFilling : tb_Y yX0_loseFilling cX0_loseFilling 1 none 0 ∧ (Cond.instanceMethod yX0_loseFilling ∈ wsL_law ∧ Cond.selects (yX0_loseFilling).cls yX0_loseFilling yX0_loseFilling ∈ wsL_law) := ⟨⟨wm_363, wm_37, ⟨by decide +kernel, by decide +kernel⟩, by decide +kernel⟩, wm_361, wm_362⟩
theorem ky_X0_giveUpTrial : tb_Y yX0_giveUpTrial cX0_giveUpTrial 1 none 0 ∧ (Cond.instanceMethod yX0_giveUpTrial ∈ wsL_law ∧ Cond.selects (yX0_giveUpTrial).cls yX0_giveUpTrial yX0_giveUpTrial ∈ wsL_law) := ⟨⟨wm_367, wm_37, ⟨by decide +kernel, by decide +kernel⟩, by decide +kernel⟩, wm_365, wm_366⟩
theorem ky_X1_soundArea : tb_Y yX1_soundArea cX1_soundArea 3 (some .int) 0 ∧ (Cond.instanceMethod yX1_soundArea ∈ wsL_law ∧ Cond.selects (yX1_soundArea).cls yX1_soundArea yX1_soundArea ∈ wsL_law) := ⟨⟨wm_371, wm_15, ⟨by decide +kernel, by decide +kernel⟩, by decide +kernel⟩, wm_369, wm_370⟩
theorem ky_X1_bestArea : tb_Y yX1_bestArea cX1_bestArea 2 (some .int) 0 ∧ (Cond.instanceMethod yX1_bestArea ∈ wsL_law ∧ Cond.selects (yX1_bestArea).cls yX1_bestArea yX1_bestArea ∈ wsL_law) := ⟨⟨wm_376, wm_15, ⟨by decide +kernel, by decide +kernel⟩, by decide +kernel⟩, wm_374, wm_375⟩
theorem ky_X1_newestThatIs : tb_Y yX1_newestThatIs cX1_newestThatIs 2 (some .int) 1 ∧ (Cond.instanceMethod yX1_newestThatIs ∈ wsL_law ∧ Cond.selects (yX1_newestThatIs).cls yX1_newestThatIs yX1_newestThatIs ∈ wsL_law) := ⟨⟨wm_380, wm_15, ⟨by decide +kernel, by decide +kernel⟩, by decide +kernel⟩, wm_378, wm_379⟩
theorem ky_X0_useTry : tb_Y yX0_useTry cX0_useTry 1 none 0 ∧ (Cond.instanceMethod yX0_useTry ∈ wsL_law ∧ Cond.selects (yX0_useTry).cls yX0_useTry yX0_useTry ∈ wsL_law) := ⟨⟨wm_386, wm_37, ⟨by decide +kernel, by decide +kernel⟩, by decide +kernel⟩, wm_384, wm_385⟩
theorem ky_X4_add : tb_Y yX4_add cX4_add 5 none 3 ∧ (Cond.instanceMethod yX4_add ∈ wsL_law ∧ Cond.selects (yX4_add).cls yX4_add yX4_add ∈ wsL_law) := ⟨⟨wm_390, wm_43, ⟨by decide +kernel, by decide +kernel⟩, by decide +kernel⟩, wm_388, wm_389⟩
theorem ky_X4_indexOf : tb_Y yX4_indexOf cX4_indexOf 2 (some .int) 1 ∧ (Cond.instanceMethod yX4_indexOf ∈ wsL_law ∧ Cond.selects (yX4_indexOf).cls yX4_indexOf yX4_indexOf ∈ wsL_law) := ⟨⟨wm_395, wm_43, ⟨by decide +kernel, by decide +kernel⟩, by decide +kernel⟩, wm_393, wm_394⟩
theorem ky_X6_start : tb_Y yX6_start cX6_start 2 (some .int) 1 ∧ (Cond.instanceMethod yX6_start ∈ wsL_law ∧ Cond.selects (yX6_start).cls yX6_start yX6_start ∈ wsL_law) := ⟨⟨wm_400, wm_5, ⟨by decide +kernel, by decide +kernel⟩, by decide +kernel⟩, wm_398, wm_399⟩
theorem ky_X6_starts : tb_Y yX6_starts cX6_starts 3 none 1 ∧ (Cond.instanceMethod yX6_starts ∈ wsL_law ∧ Cond.selects (yX6_starts).cls yX6_starts yX6_starts ∈ wsL_law) := ⟨⟨wm_404, wm_5, ⟨by decide +kernel, by decide +kernel⟩, by decide +kernel⟩, wm_402, wm_403⟩
theorem ky_X6_chosen : tb_Y yX6_chosen cX6_chosen 2 (some .int) 0 ∧ (Cond.instanceMethod yX6_chosen ∈ wsL_law ∧ Cond.selects (yX6_chosen).cls yX6_chosen yX6_chosen ∈ wsL_law) := ⟨⟨wm_408, wm_5, ⟨by decide +kernel, by decide +kernel⟩, by decide +kernel⟩, wm_406, wm_407⟩
theorem ky_X6_greatest : tb_Y yX6_greatest cX6_greatest 4 (some .int) 1 ∧ (Cond.instanceMethod yX6_greatest ∈ wsL_law ∧ Cond.selects (yX6_greatest).cls yX6_greatest yX6_greatest ∈ wsL_law) := ⟨⟨wm_412, wm_5, ⟨by decide +kernel, by decide +kernel⟩, by decide +kernel⟩, wm_410, wm_411⟩
theorem ky_X6_canBe : tb_Y yX6_canBe cX6_canBe 3 (some .boolean) 2 ∧ (Cond.instanceMethod yX6_canBe ∈ wsL_law ∧ Cond.selects (yX6_canBe).cls yX6_canBe yX6_canBe ∈ wsL_law) := ⟨⟨wm_416, wm_5, ⟨by decide +kernel, by decide +kernel⟩, by decide +kernel⟩, wm_414, wm_415⟩
theorem ky_X6_remember : tb_Y yX6_remember cX6_remember 3 none 1 ∧ (Cond.instanceMethod yX6_remember ∈ wsL_law ∧ Cond.selects (yX6_remember).cls yX6_remember yX6_remember ∈ wsL_law) := ⟨⟨wm_420, wm_5, ⟨by decide +kernel, by decide +kernel⟩, by decide +kernel⟩, wm_418, wm_419⟩
theorem ky_X5_pass : tb_Y yX5_pass cX5_pass 2 (some .int) 1 ∧ (Cond.instanceMethod yX5_pass ∈ wsL_law ∧ Cond.selects (yX5_pass).cls yX5_pass yX5_pass ∈ wsL_law) := ⟨⟨wm_424, wm_2, ⟨by decide +kernel, by decide +kernel⟩, by decide +kernel⟩, wm_422, wm_423⟩
theorem ky_X1_letPass : tb_Y yX1_letPass cX1_letPass 4 (some .int) 1 ∧ (Cond.instanceMethod yX1_letPass ∈ wsL_law ∧ Cond.selects (yX1_letPass).cls yX1_letPass yX1_letPass ∈ wsL_law) := ⟨⟨wm_428, wm_15, ⟨by decide +kernel, by decide +kernel⟩, by decide +kernel⟩, wm_426, wm_427⟩
theorem ky_X1_startsInTick : tb_Y yX1_startsInTick cX1_startsInTick 4 (some .boolean) 0 ∧ (Cond.instanceMethod yX1_startsInTick ∈ wsL_law ∧ Cond.selects (yX1_startsInTick).cls yX1_startsInTick yX1_startsInTick ∈ wsL_law) := ⟨⟨wm_432, wm_15, ⟨by decide +kernel, by decide +kernel⟩, by decide +kernel⟩, wm_430, wm_431⟩
theorem ky_X6_pass : tb_Y yX6_pass cX6_pass 2 (some .int) 1 ∧ (Cond.instanceMethod yX6_pass ∈ wsL_law ∧ Cond.selects (yX6_pass).cls yX6_pass yX6_pass ∈ wsL_law) := ⟨⟨wm_438, wm_5, ⟨by decide +kernel, by decide +kernel⟩, by decide +kernel⟩, wm_436, wm_437⟩
theorem ky_X6_passes : tb_Y yX6_passes cX6_passes 4 (some .int) 1 ∧ (Cond.instanceMethod yX6_passes ∈ wsL_law ∧ Cond.selects (yX6_passes).cls yX6_passes yX6_passes ∈ wsL_law) := ⟨⟨wm_442, wm_5, ⟨by decide +kernel, by decide +kernel⟩, by decide +kernel⟩, wm_440, wm_441⟩
theorem ky_X6_tick : tb_Y yX6_tick cX6_tick 2 (some .boolean) 0 ∧ (Cond.instanceMethod yX6_tick ∈ wsL_law ∧ Cond.selects (yX6_tick).cls yX6_tick yX6_tick ∈ wsL_law) := ⟨⟨wm_446, wm_5, ⟨by decide +kernel, by decide +kernel⟩, by decide +kernel⟩, wm_444, wm_445⟩
theorem ky_X6_tells : tb_Y yX6_tells cX6_tells 3 (some .boolean) 1 ∧ (Cond.instanceMethod yX6_tells ∈ wsL_law ∧ Cond.selects (yX6_tells).cls yX6_tells yX6_tells ∈ wsL_law) := ⟨⟨wm_450, wm_5, ⟨by decide +kernel, by decide +kernel⟩, by decide +kernel⟩, wm_448, wm_449⟩
theorem ky_X6_isOnTrial : tb_Y yX6_isOnTrial cX6_isOnTrial 1 (some .boolean) 0 ∧ (Cond.instanceMethod yX6_isOnTrial ∈ wsL_law ∧ Cond.selects (yX6_isOnTrial).cls yX6_isOnTrial yX6_isOnTrial ∈ wsL_law) := ⟨⟨wm_454, wm_5, ⟨by decide +kernel, by decide +kernel⟩, by decide +kernel⟩, wm_452, wm_453⟩
theorem ky_X5_slot : tb_Y yX5_slot cX5_slot 4 (some .int) 2 ∧ (Cond.instanceMethod yX5_slot ∈ wsL_law ∧ Cond.selects (yX5_slot).cls yX5_slot yX5_slot ∈ wsL_law) := ⟨⟨wm_458, wm_2, ⟨by decide +kernel, by decide +kernel⟩, by decide +kernel⟩, wm_456, wm_457⟩
theorem ky_X0_wornOutPages : tb_Y yX0_wornOutPages cX0_wornOutPages 4 (some .int) 1 ∧ (Cond.instanceMethod yX0_wornOutPages ∈ wsL_law ∧ Cond.selects (yX0_wornOutPages).cls yX0_wornOutPages yX0_wornOutPages ∈ wsL_law) := ⟨⟨wm_466, wm_37, ⟨by decide +kernel, by decide +kernel⟩, by decide +kernel⟩, wm_464, wm_465⟩
theorem ky_X6_slot : tb_Y yX6_slot cX6_slot 3 (some .int) 2 ∧ (Cond.instanceMethod yX6_slot ∈ wsL_law ∧ Cond.selects (yX6_slot).cls yX6_slot yX6_slot ∈ wsL_law) := ⟨⟨wm_470, wm_5, ⟨by decide +kernel, by decide +kernel⟩, by decide +kernel⟩, wm_468, wm_469⟩
theorem ky_X6_wornMany : tb_Y yX6_wornMany cX6_wornMany 4 (some .int) 1 ∧ (Cond.instanceMethod yX6_wornMany ∈ wsL_law ∧ Cond.selects (yX6_wornMany).cls yX6_wornMany yX6_wornMany ∈ wsL_law) := ⟨⟨wm_474, wm_5, ⟨by decide +kernel, by decide +kernel⟩, by decide +kernel⟩, wm_472, wm_473⟩
theorem ky_X5_word : tb_Y yX5_word cX5_word 3 (some .int) 2 ∧ (Cond.instanceMethod yX5_word ∈ wsL_law ∧ Cond.selects (yX5_word).cls yX5_word yX5_word ∈ wsL_law) := ⟨⟨wm_478, wm_2, ⟨by decide +kernel, by decide +kernel⟩, by decide +kernel⟩, wm_476, wm_477⟩
theorem ky_X6_word : tb_Y yX6_word cX6_word 3 (some .int) 2 ∧ (Cond.instanceMethod yX6_word ∈ wsL_law ∧ Cond.selects (yX6_word).cls yX6_word yX6_word ∈ wsL_law) := ⟨⟨wm_482, wm_5, ⟨by decide +kernel, by decide +kernel⟩, by decide +kernel⟩, wm_480, wm_481⟩
theorem ky_X5_wear : tb_Y yX5_wear cX5_wear 3 (some .int) 2 ∧ (Cond.instanceMethod yX5_wear ∈ wsL_law ∧ Cond.selects (yX5_wear).cls yX5_wear yX5_wear ∈ wsL_law) := ⟨⟨wm_486, wm_2, ⟨by decide +kernel, by decide +kernel⟩, by decide +kernel⟩, wm_484, wm_485⟩
theorem ky_X6_wear : tb_Y yX6_wear cX6_wear 3 (some .int) 2 ∧ (Cond.instanceMethod yX6_wear ∈ wsL_law ∧ Cond.selects (yX6_wear).cls yX6_wear yX6_wear ∈ wsL_law) := ⟨⟨wm_491, wm_5, ⟨by decide +kernel, by decide +kernel⟩, by decide +kernel⟩, wm_489, wm_490⟩
theorem ky_X5_past : tb_Y yX5_past cX5_past 4 (some .int) 2 ∧ (Cond.instanceMethod yX5_past ∈ wsL_law ∧ Cond.selects (yX5_past).cls yX5_past yX5_past ∈ wsL_law) := ⟨⟨wm_495, wm_2, ⟨by decide +kernel, by decide +kernel⟩, by decide +kernel⟩, wm_493, wm_494⟩
theorem ky_X6_past : tb_Y yX6_past cX6_past 3 (some .int) 2 ∧ (Cond.instanceMethod yX6_past ∈ wsL_law ∧ Cond.selects (yX6_past).cls yX6_past yX6_past ∈ wsL_law) := ⟨⟨wm_505, wm_5, ⟨by decide +kernel, by decide +kernel⟩, by decide +kernel⟩, wm_503, wm_504⟩
theorem ky_X5_count : tb_Y yX5_count cX5_count 2 (some .int) 1 ∧ (Cond.instanceMethod yX5_count ∈ wsL_law ∧ Cond.selects (yX5_count).cls yX5_count yX5_count ∈ wsL_law) := ⟨⟨wm_509, wm_2, ⟨by decide +kernel, by decide +kernel⟩, by decide +kernel⟩, wm_507, wm_508⟩
theorem ky_X6_count : tb_Y yX6_count cX6_count 2 (some .int) 1 ∧ (Cond.instanceMethod yX6_count ∈ wsL_law ∧ Cond.selects (yX6_count).cls yX6_count yX6_count ∈ wsL_law) := ⟨⟨wm_520, wm_5, ⟨by decide +kernel, by decide +kernel⟩, by decide +kernel⟩, wm_518, wm_519⟩
theorem ky_X5_padSum : tb_Y yX5_padSum cX5_padSum 1 (some .int) 0 ∧ (Cond.instanceMethod yX5_padSum ∈ wsL_law ∧ Cond.selects (yX5_padSum).cls yX5_padSum yX5_padSum ∈ wsL_law) := ⟨⟨wm_524, wm_2, ⟨by decide +kernel, by decide +kernel⟩, by decide +kernel⟩, wm_522, wm_523⟩
theorem ky_X3_sumOfWords : tb_Y yX3_sumOfWords cX3_sumOfWords 3 (some .int) 0 ∧ (Cond.instanceMethod yX3_sumOfWords ∈ wsL_law ∧ Cond.selects (yX3_sumOfWords).cls yX3_sumOfWords yX3_sumOfWords ∈ wsL_law) := ⟨⟨wm_528, wm_27, ⟨by decide +kernel, by decide +kernel⟩, by decide +kernel⟩, wm_526, wm_527⟩
theorem ky_X6_padSum : tb_Y yX6_padSum cX6_padSum 3 (some .int) 0 ∧ (Cond.instanceMethod yX6_padSum ∈ wsL_law ∧ Cond.selects (yX6_padSum).cls yX6_padSum yX6_padSum ∈ wsL_law) := ⟨⟨wm_534, wm_5, ⟨by decide +kernel, by decide +kernel⟩, by decide +kernel⟩, wm_532, wm_533⟩
theorem ky_X5_ifStarted : tb_Y yX5_ifStarted cX5_ifStarted 2 (some .int) 1 ∧ (Cond.instanceMethod yX5_ifStarted ∈ wsL_law ∧ Cond.selects (yX5_ifStarted).cls yX5_ifStarted yX5_ifStarted ∈ wsL_law) := ⟨⟨wm_538, wm_2, ⟨by decide +kernel, by decide +kernel⟩, by decide +kernel⟩, wm_536, wm_537⟩
theorem ky_X1_badSlots : tb_Y yX1_badSlots cX1_badSlots 1 (some .int) 0 ∧ (Cond.instanceMethod yX1_badSlots ∈ wsL_law ∧ Cond.selects (yX1_badSlots).cls yX1_badSlots yX1_badSlots ∈ wsL_law) := ⟨⟨wm_543, wm_15, ⟨by decide +kernel, by decide +kernel⟩, by decide +kernel⟩, wm_541, wm_542⟩
theorem ky_X6_ifStarted : tb_Y yX6_ifStarted cX6_ifStarted 4 (some .int) 1 ∧ (Cond.instanceMethod yX6_ifStarted ∈ wsL_law ∧ Cond.selects (yX6_ifStarted).cls yX6_ifStarted yX6_ifStarted ∈ wsL_law) := ⟨⟨wm_547, wm_5, ⟨by decide +kernel, by decide +kernel⟩, by decide +kernel⟩, wm_545, wm_546⟩
theorem ky_X6_badMany : tb_Y yX6_badMany cX6_badMany 1 (some .int) 0 ∧ (Cond.instanceMethod yX6_badMany ∈ wsL_law ∧ Cond.selects (yX6_badMany).cls yX6_badMany yX6_badMany ∈ wsL_law) := ⟨⟨wm_551, wm_5, ⟨by decide +kernel, by decide +kernel⟩, by decide +kernel⟩, wm_549, wm_550⟩
theorem ky_X5_ifPassed : tb_Y yX5_ifPassed cX5_ifPassed 4 (some .int) 2 ∧ (Cond.instanceMethod yX5_ifPassed ∈ wsL_law ∧ Cond.selects (yX5_ifPassed).cls yX5_ifPassed yX5_ifPassed ∈ wsL_law) := ⟨⟨wm_555, wm_2, ⟨by decide +kernel, by decide +kernel⟩, by decide +kernel⟩, wm_553, wm_554⟩
theorem ky_X6_ifPassed : tb_Y yX6_ifPassed cX6_ifPassed 5 (some .int) 2 ∧ (Cond.instanceMethod yX6_ifPassed ∈ wsL_law ∧ Cond.selects (yX6_ifPassed).cls yX6_ifPassed yX6_ifPassed ∈ wsL_law) := ⟨⟨wm_559, wm_5, ⟨by decide +kernel, by decide +kernel⟩, by decide +kernel⟩, wm_557, wm_558⟩
theorem ky_X5_nextStart : tb_Y yX5_nextStart cX5_nextStart 2 (some .int) 0 ∧ (Cond.instanceMethod yX5_nextStart ∈ wsL_law ∧ Cond.selects (yX5_nextStart).cls yX5_nextStart yX5_nextStart ∈ wsL_law) := ⟨⟨wm_563, wm_2, ⟨by decide +kernel, by decide +kernel⟩, by decide +kernel⟩, wm_561, wm_562⟩
theorem ky_X6_nextStart : tb_Y yX6_nextStart cX6_nextStart 3 (some .int) 0 ∧ (Cond.instanceMethod yX6_nextStart ∈ wsL_law ∧ Cond.selects (yX6_nextStart).cls yX6_nextStart yX6_nextStart ∈ wsL_law) := ⟨⟨wm_568, wm_5, ⟨by decide +kernel, by decide +kernel⟩, by decide +kernel⟩, wm_566, wm_567⟩
theorem ky_X5_lasts : tb_Y yX5_lasts cX5_lasts 3 (some .int) 2 ∧ (Cond.instanceMethod yX5_lasts ∈ wsL_law ∧ Cond.selects (yX5_lasts).cls yX5_lasts yX5_lasts ∈ wsL_law) := ⟨⟨wm_572, wm_2, ⟨by decide +kernel, by decide +kernel⟩, by decide +kernel⟩, wm_570, wm_571⟩
theorem ky_X6_lasts : tb_Y yX6_lasts cX6_lasts 4 (some .int) 2 ∧ (Cond.instanceMethod yX6_lasts ∈ wsL_law ∧ Cond.selects (yX6_lasts).cls yX6_lasts yX6_lasts ∈ wsL_law) := ⟨⟨wm_576, wm_5, ⟨by decide +kernel, by decide +kernel⟩, by decide +kernel⟩, wm_574, wm_575⟩
theorem ky_X5_put : tb_Y yX5_put cX5_put 4 (some .int) 1 ∧ (Cond.instanceMethod yX5_put ∈ wsL_law ∧ Cond.selects (yX5_put).cls yX5_put yX5_put ∈ wsL_law) := ⟨⟨wm_580, wm_2, ⟨by decide +kernel, by decide +kernel⟩, by decide +kernel⟩, wm_578, wm_579⟩
theorem ky_X3_charactersIn : tb_Y yX3_charactersIn cX3_charactersIn 5 (some .int) 1 ∧ Cond.static yX3_charactersIn ∈ wsL_law := ⟨⟨wm_583, wm_27, ⟨by decide +kernel, by decide +kernel⟩, by decide +kernel⟩, wm_582⟩
theorem ky_X3_append : tb_Y yX3_append cX3_append 5 none 2 ∧ (Cond.instanceMethod yX3_append ∈ wsL_law ∧ Cond.selects (yX3_append).cls yX3_append yX3_append ∈ wsL_law) := ⟨⟨wm_588, wm_27, ⟨by decide +kernel, by decide +kernel⟩, by decide +kernel⟩, wm_586, wm_587⟩
theorem ky_X6_put : tb_Y yX6_put cX6_put 8 (some .int) 1 ∧ (Cond.instanceMethod yX6_put ∈ wsL_law ∧ Cond.selects (yX6_put).cls yX6_put yX6_put ∈ wsL_law) := ⟨⟨wm_592, wm_5, ⟨by decide +kernel, by decide +kernel⟩, by decide +kernel⟩, wm_590, wm_591⟩
theorem ky_X5_wipe : tb_Y yX5_wipe cX5_wipe 2 (some .int) 0 ∧ (Cond.instanceMethod yX5_wipe ∈ wsL_law ∧ Cond.selects (yX5_wipe).cls yX5_wipe yX5_wipe ∈ wsL_law) := ⟨⟨wm_597, wm_2, ⟨by decide +kernel, by decide +kernel⟩, by decide +kernel⟩, wm_595, wm_596⟩
theorem ky_X6_wipe : tb_Y yX6_wipe cX6_wipe 2 (some .int) 0 ∧ (Cond.instanceMethod yX6_wipe ∈ wsL_law ∧ Cond.selects (yX6_wipe).cls yX6_wipe yX6_wipe ∈ wsL_law) := ⟨⟨wm_601, wm_5, ⟨by decide +kernel, by decide +kernel⟩, by decide +kernel⟩, wm_599, wm_600⟩
theorem ky_X5_fault : tb_Y yX5_fault cX5_fault 1 (some .int) 0 ∧ (Cond.instanceMethod yX5_fault ∈ wsL_law ∧ Cond.selects (yX5_fault).cls yX5_fault yX5_fault ∈ wsL_law) := ⟨⟨wm_605, wm_2, ⟨by decide +kernel, by decide +kernel⟩, by decide +kernel⟩, wm_603, wm_604⟩
theorem ky_X6_fault : tb_Y yX6_fault cX6_fault 1 (some .int) 0 ∧ (Cond.instanceMethod yX6_fault ∈ wsL_law ∧ Cond.selects (yX6_fault).cls yX6_fault yX6_fault ∈ wsL_law) := ⟨⟨wm_609, wm_5, ⟨by decide +kernel, by decide +kernel⟩, by decide +kernel⟩, wm_607, wm_608⟩
theorem ky_X5_undo : tb_Y yX5_undo cX5_undo 1 (some .int) 0 ∧ (Cond.instanceMethod yX5_undo ∈ wsL_law ∧ Cond.selects (yX5_undo).cls yX5_undo yX5_undo ∈ wsL_law) := ⟨⟨wm_613, wm_2, ⟨by decide +kernel, by decide +kernel⟩, by decide +kernel⟩, wm_611, wm_612⟩
theorem ky_X2_takeBack : tb_Y yX2_takeBack cX2_takeBack 2 none 1 ∧ (Cond.instanceMethod yX2_takeBack ∈ wsL_law ∧ Cond.selects (yX2_takeBack).cls yX2_takeBack yX2_takeBack ∈ wsL_law) := ⟨⟨wm_617, wm_23, ⟨by decide +kernel, by decide +kernel⟩, by decide +kernel⟩, wm_615, wm_616⟩
theorem ky_X6_undo : tb_Y yX6_undo cX6_undo 1 (some .int) 0 ∧ (Cond.instanceMethod yX6_undo ∈ wsL_law ∧ Cond.selects (yX6_undo).cls yX6_undo yX6_undo ∈ wsL_law) := ⟨⟨wm_621, wm_5, ⟨by decide +kernel, by decide +kernel⟩, by decide +kernel⟩, wm_619, wm_620⟩
theorem ky_X5_save : tb_Y yX5_save cX5_save 2 (some .int) 1 ∧ (Cond.instanceMethod yX5_save ∈ wsL_law ∧ Cond.selects (yX5_save).cls yX5_save yX5_save ∈ wsL_law) := ⟨⟨wm_625, wm_2, ⟨by decide +kernel, by decide +kernel⟩, by decide +kernel⟩, wm_623, wm_624⟩
theorem ky_X6_save : tb_Y yX6_save cX6_save 2 (some .int) 1 ∧ (Cond.instanceMethod yX6_save ∈ wsL_law ∧ Cond.selects (yX6_save).cls yX6_save yX6_save ∈ wsL_law) := ⟨⟨wm_629, wm_5, ⟨by decide +kernel, by decide +kernel⟩, by decide +kernel⟩, wm_627, wm_628⟩
theorem ky_X5_restore : tb_Y yX5_restore cX5_restore 2 (some .int) 1 ∧ (Cond.instanceMethod yX5_restore ∈ wsL_law ∧ Cond.selects (yX5_restore).cls yX5_restore yX5_restore ∈ wsL_law) := ⟨⟨wm_633, wm_2, ⟨by decide +kernel, by decide +kernel⟩, by decide +kernel⟩, wm_631, wm_632⟩
theorem ky_X6_restore : tb_Y yX6_restore cX6_restore 2 (some .int) 1 ∧ (Cond.instanceMethod yX6_restore ∈ wsL_law ∧ Cond.selects (yX6_restore).cls yX6_restore yX6_restore ∈ wsL_law) := ⟨⟨wm_637, wm_5, ⟨by decide +kernel, by decide +kernel⟩, by decide +kernel⟩, wm_635, wm_636⟩
end
section
/-! pure words: sums, greatest numbers, counts, pages that are emptied; over rows of ints -/
def tb_sw (x y : Int32) : Int32 := (nI 3 * x + y) - (nI 3 * x + y) / nI 251 * nI 251
def tb_sm (f : Nat → Int32) : Nat → Int32
  | 0 => nI 1
  | i + 1 => tb_sw (tb_sm f i) (f i)
def tb_gw (f : Nat → Int32) : Nat → Int32
  | 0 => nI 0
  | i + 1 => if tb_gw f i < f i then f i else tb_gw f i
def tb_wo (f : Nat → Int32) (x : Int32) : Nat → Int32
  | 0 => nI 0
  | i + 1 => if f i < x then tb_wo f x i else tb_wo f x i + nI 1
def tb_ew (z : tb_M) (a : Nat) : Nat → tb_M
  | 0 => z
  | i + 1 => tb_up (tb_ew z a i) (a + 2) i ((tb_ew z a i) (a + 2) i + nI 1)
def tb_ec (z : tb_M) (a : Nat) : Nat → tb_M
  | 0 => z
  | i + 1 => tb_up (tb_ec z a i) (a + 1) i (nI 255)
def tb_at (d r : Nat) : Nat := if r = 0 then d + 2 else if r = 1 then d + 5 else d + 8
theorem tb_isat {d : Nat} (h : tb_isD d) (r : Nat) : tb_isA (tb_at d r) := by
  unfold tb_at
  by_cases h0 : r = 0
  · rw [if_pos h0]; exact tb_A1 h
  · rw [if_neg h0]
    by_cases h1 : r = 1
    · rw [if_pos h1]; exact tb_A2 h
    · rw [if_neg h1]; exact tb_A3 h
def tb_len (z : tb_M) (a : Nat) : Nat := (z a 2).toNatClampNeg
def tb_okL (z : tb_M) (a : Nat) : Prop := z a 2 = nI (tb_len z a) ∧ tb_len z a ≤ 32
theorem tb_okL_of {z : tb_M} {a n : Nat} (h : z a 2 = nI n) (hn : n ≤ 32) : tb_okL z a ∧ tb_len z a = n := by
  have e : tb_len z a = n := by
    unfold tb_len
    rw [h]
    exact nI_clamp (by omega)
  exact ⟨⟨by rw [e]; exact h, by omega⟩, e⟩
theorem tb_okL_c {z z2 : tb_M} {a : Nat} (h : tb_okL z a) (e : z2 a 2 = z a 2) : tb_okL z2 a := by
  unfold tb_okL tb_len at *
  rw [e]
  exact h
theorem tb_xor0 {a b : Nat} (ha : a < 2 ^ 31) (hb : b < 2 ^ 31) : 0 ≤ nI a ^^^ nI b := by
  have e : nI a ^^^ nI b = nI (a ^^^ b) := by
    unfold nI
    apply Int32.toBitVec_inj.mp
    simp [Int32.toBitVec_xor]
  rw [e]
  exact nI_pos' (Nat.xor_lt_two_pow ha hb)
def tb_al (z : tb_M) (d : Nat) : Nat := (z (d + 11) 0).toNatClampNeg
def tb_rn (z : tb_M) (d : Nat) : Nat := (z d 5).toNatClampNeg
def tb_okS (z : tb_M) (d : Nat) : Prop := (∀ r, tb_okL z (tb_at d r)) ∧ z (d + 11) 0 = nI (tb_al z d) ∧ tb_al z d + 1 < 2 ^ 30
def tb_okT (z : tb_M) (d : Nat) : Prop := tb_okS z d ∧ z d 5 = nI (tb_rn z d) ∧ tb_rn z d ≤ 2
theorem tb_isA_ne {d a : Nat} (hd : tb_isD d) (ha : tb_isA a) : a ≠ d := by
  obtain ⟨i, -, rfl⟩ := hd
  obtain ⟨d2, ⟨j, -, rfl⟩, h | h | h⟩ := ha <;> omega
theorem tb_isA_ne11 {d a : Nat} (hd : tb_isD d) (ha : tb_isA a) : a ≠ d + 11 := by
  obtain ⟨i, -, rfl⟩ := hd
  obtain ⟨d2, ⟨j, -, rfl⟩, h | h | h⟩ := ha <;> omega
theorem tb_okS_c {z z2 : tb_M} {d : Nat} (h : tb_okS z d) (e2 : ∀ r, z2 (tb_at d r) 2 = z (tb_at d r) 2) (e0 : z2 (d + 11) 0 = z (d + 11) 0) : tb_okS z2 d := by
  refine ⟨fun r => tb_okL_c (h.1 r) (e2 r), ?_⟩
  unfold tb_al
  rw [e0]
  exact h.2
def tb_pr : Nat → Int32
  | 0 => (-1)
  | k + 1 => nI k
theorem tb_pr_dec (k : Nat) : nI k + Int32.ofInt (-1) = tb_pr k := by
  cases k with
  | zero => decide +kernel
  | succ k => exact pk_m1 k
theorem tb_lcmp {x y : Int64} : lg_cmp x y = 0 ↔ x = y := by
  unfold lg_cmp
  by_cases h2 : x = y
  · subst h2
    simp
  · constructor
    · intro h
      rw [if_neg h2] at h
      split at h <;> exact absurd h (by decide)
    · intro h
      exact absurd h h2
def tb_ff (F : Nat → Int32) (t : Int32) : Nat → Nat → Int32
  | 0, _ => t
  | k + 1, i => if 0 ≤ F i then tb_ff F t k (i + 1) else nI i
def tb_tl (n : Nat) : Int32 := if n = 0 then nI n else (if n % 2 = 1 then nI n else (-6))
def tb_wi (x lo hi : Int32) : Prop := ¬ (x < lo) ∧ (¬ (hi < x))
def tb_ci : Nat → Int64 → Nat → Nat
  | 0, x, f => if x = (0 : Int64) then f else 0
  | k + 1, x, f => if ¬ ((x &&& (255 : Int64)).toInt32 < nI 33) ∧ (¬ (nI 126 < (x &&& (255 : Int64)).toInt32)) then tb_ci k (tb_ushr x (nI 8)) (f + 1) else (if x = (0 : Int64) then f else 0)
def tb_ap (z : tb_M) (x : Int64) (n b : Nat) : Nat → tb_M
  | 0 => z
  | j + 1 => tb_up (tb_up (tb_ap z x n b j) 156 (n + j) (tb_ushr x (nI (8 * (b - 1 - j))) &&& (255 : Int64)).toInt32) 155 0 (nI (n + j + 1))
theorem tb_ap_len (z : tb_M) (x : Int64) {n b : Nat} (h : z 155 0 = nI n) (j : Nat) : tb_ap z x n b j 155 0 = nI (n + j) := by
  cases j with
  | zero => exact h
  | succ j => exact tb_up_s _ _ _ _
theorem tb_pr_of {b : Nat} (h : 1 ≤ b) : nI (b - 1) = tb_pr b := by
  cases b with
  | zero => exact absurd h (by decide)
  | succ b => rfl
def tb_mx (j : Nat) : Int32 := if j = 0 then nI 9 else if j = 1 then nI 99 else nI 60
theorem tb_most_v {j : Nat} (h : j < 3) : tb_most (nI j).toNatClampNeg = .int (tb_mx j) := by
  rw [nI_clamp (by omega)]
  rcases (show j = 0 ∨ j = 1 ∨ j = 2 by omega) with rfl | rfl | rfl <;> rfl
def tb_rc (z : tb_M) : Nat := (z 153 1).toNatClampNeg
def tb_okR (z : tb_M) : Prop := z 153 1 = nI (tb_rc z) ∧ tb_rc z < 2 ^ 29
def tb_fl (z : tb_M) (a : Nat) : Nat := (z a 5).toNatClampNeg
def tb_okF (z : tb_M) (a : Nat) : Prop := tb_okL z a ∧ z a 5 = nI (tb_fl z a) ∧ tb_fl z a ≤ tb_len z a
theorem tb_lackN {z : tb_M} {a : Nat} (h : tb_okF z a) : z a 2 - z a 5 = nI (tb_len z a - tb_fl z a) := by
  rw [h.1.1, h.2.1]
  exact pk_sub h.2.2
def tb_pl (z : tb_M) : Nat := (z 155 0).toNatClampNeg
def tb_okP (z : tb_M) : Prop := z 155 0 = nI (tb_pl z) ∧ tb_pl z ≤ 64
theorem tb_ci_le : ∀ (k : Nat) (x : Int64) (f : Nat), tb_ci k x f ≤ f + k
  | 0, x, f => by
    unfold tb_ci
    split <;> omega
  | k + 1, x, f => by
    have ih := tb_ci_le k (tb_ushr x (nI 8)) (f + 1)
    unfold tb_ci
    split
    · omega
    · split <;> omega
def tb_kp (z : tb_M) : Nat := (z 11 2).toNatClampNeg
def tb_okK (z : tb_M) : Prop := z 11 0 = nI (tb_al z 0) ∧ tb_al z 0 + 1 < 2 ^ 30 ∧ z 11 2 = nI (tb_kp z) ∧ tb_kp z ≤ tb_al z 0 ∧ tb_kp z ≤ 12
end
section
set_option maxHeartbeats 4000000 in
set_option maxRecDepth 100000 in
theorem c_X5_isWithin (l : Launch) (g : tb_G) (z : tb_M) (x : Int32) (lo : Int32) (hi : Int32) : tb_Mi (.boolean) l yX5_isWithin cX5_isWithin 3 0 g z [.int x, .int lo, .int hi] (tb_b (¬ (x < lo) ∧ (¬ (hi < x)))) (z) := by
  refine tb_goi (own := RX5) (by decide +kernel) rfl (Nat.le_of_ble_eq_true rfl) ?_
  intro p e s m below meth c ls X hr hlk hH hl
  have hl : lv_has ls 3 [(0, .int (x)), (1, .int (lo)), (2, .int (hi))] := hl
  refine lv_iload_n X.1 X.2.1 dX5_isWithin_0 rfl (lv_at hl 0 rfl) ?_
  refine lv_iload_n X.1 X.2.1 dX5_isWithin_1 rfl (lv_at hl 1 rfl) ?_
  have J_1 : ∀ (H : Heap) (locs : List Loc) (ls : Array Slot) (vq1 : Int32), vq1 = (tb_b (¬ (x < lo) ∧ (¬ (hi < x)))) → tb_H g s.heap z H locs → lv_has ls 3 [(0, .int (x)), (1, .int (lo)), (2, .int (hi))] → W p l e (tb_rm 0) s m ([.int x, .int lo, .int hi] : List Value).toArray below meth c H locs 0 0 (MQ below (va_Qi (fun r9 u9 => r9 = tb_b (¬ (x < lo) ∧ (¬ (hi < x))) ∧ u9 = z) (tb_B g) (tb_A g)) ([.int x, .int lo, .int hi] : List Value).toArray s 0 0 (tb_A g)) (F0 m 15 ls [.int vq1]) := by
    intro H locs ls vq1 evq1 hH hl
    subst evq1
    exact tb_rz X hr hlk hH ⟨(Iff.rfl).symm, rfl⟩ dX5_isWithin_15
  refine lv_icmp_lt (tgt := 14) X.1 X.2.1 dX5_isWithin_2 (by decide) (fun c_1 => ?_) (fun c_1 => ?_)
  · refine lv_iconst (v := nI (0)) X.1 X.2.1 dX5_isWithin_14 (by decide +kernel) ?_
    exact J_1 _ _ _ _ (tb_b_f (fun h => h.1 c_1)).symm hH (lv_sub hl [0, 1, 2] rfl)
  · refine lv_iload_n X.1 X.2.1 dX5_isWithin_5 rfl (lv_at hl 0 rfl) ?_
    refine lv_iload_n X.1 X.2.1 dX5_isWithin_6 rfl (lv_at hl 2 rfl) ?_
    refine lv_icmp_gt (tgt := 14) X.1 X.2.1 dX5_isWithin_7 (by decide) (fun c_2 => ?_) (fun c_2 => ?_)
    · refine lv_iconst (v := nI (0)) X.1 X.2.1 dX5_isWithin_14 (by decide +kernel) ?_
      exact J_1 _ _ _ _ (tb_b_f (fun h => (fun h => h c_2) h.2)).symm hH (lv_sub hl [0, 1, 2] rfl)
    · refine lv_iconst (v := nI (1)) X.1 X.2.1 dX5_isWithin_10 (by decide +kernel) ?_
      refine lv_goto (tgt := 15) X.1 X.2.1 dX5_isWithin_11 (by decide) ?_
      exact J_1 _ _ _ _ (tb_b_t ⟨c_1, c_2⟩).symm hH (lv_sub hl [0, 1, 2] rfl)
set_option maxHeartbeats 4000000 in
set_option maxRecDepth 100000 in
theorem c_X5_sumWith (l : Launch) (g : tb_G) (z : tb_M) (x : Int32) (y : Int32) : tb_Mi (.int) l yX5_sumWith cX5_sumWith 2 0 g z [.int x, .int y] (tb_sw x y) (z) := by
  refine tb_goi (own := RX5) (by decide +kernel) rfl (Nat.le_of_ble_eq_true rfl) ?_
  intro p e s m below meth c ls X hr hlk hH hl
  have hl : lv_has ls 2 [(0, .int (x)), (1, .int (y))] := hl
  refine lv_iconst (v := nI (3)) X.1 X.2.1 dX5_sumWith_0 (by decide +kernel) ?_
  refine lv_iload_n X.1 X.2.1 dX5_sumWith_1 rfl (lv_at hl 0 rfl) ?_
  refine lv_imul X.1 X.2.1 dX5_sumWith_2 ?_
  refine lv_iload_n X.1 X.2.1 dX5_sumWith_3 rfl (lv_at hl 1 rfl) ?_
  refine lv_iadd X.1 X.2.1 dX5_sumWith_4 ?_
  refine lv_sipush (v := nI (251)) X.1 X.2.1 dX5_sumWith_5 (by decide +kernel) ?_
  refine lv_irem X.1 X.2.1 dX5_sumWith_8 (by decide +kernel) ?_
  exact tb_ri X hr hlk hH ⟨rfl, rfl⟩ dX5_sumWith_9
set_option maxHeartbeats 4000000 in
set_option maxRecDepth 100000 in
theorem c_J9_floorMod_7cf53 (l : Launch) (g : tb_G) (z : tb_M) (x : Nat) (y : Nat) (hx : x < 2 ^ 31) (hy : y < 2 ^ 31) (hy0 : 0 < y) : tb_Mi (.int) l yJ9_floorMod_7cf53 cJ9_floorMod_7cf53 3 0 g z [.int (nI x), .int (nI y)] (nI (x % y)) (z) := by
  refine tb_goiF (own := RJ9) (by decide +kernel) rfl (Nat.le_of_ble_eq_true rfl) ?_
  intro p e s m below meth c ls X hr hlk hH hl
  have hl : lv_has ls 3 [(0, .int (nI (x))), (1, .int (nI (y)))] := hl
  refine lv_iload_n X.1 X.2.1 dJ9_floorMod_7cf53_0 rfl (lv_at hl 0 rfl) ?_
  refine lv_iload_n X.1 X.2.1 dJ9_floorMod_7cf53_1 rfl (lv_at hl 1 rfl) ?_
  refine lv_irem X.1 X.2.1 dJ9_floorMod_7cf53_2 (nI_ne0 hy0 hy) ?_
  refine tb_top (x2 := nI (x % y)) (pk_rem hx hy0 hy) ?_
  refine lv_istore_n (lv' := [(2, .int (nI (x % y))), (0, .int (nI (x))), (1, .int (nI (y)))]) X.1 X.2.1 dJ9_floorMod_7cf53_3 rfl hl (by decide) rfl (fun ls hl => ?_)
  refine lv_iload_n X.1 X.2.1 dJ9_floorMod_7cf53_4 rfl (lv_at hl 1 rfl) ?_
  refine lv_iload_n X.1 X.2.1 dJ9_floorMod_7cf53_5 rfl (lv_at hl 2 rfl) ?_
  refine lv_ixor X.1 X.2.1 dJ9_floorMod_7cf53_6 ?_
  refine lv_if_ge (tgt := 18) X.1 X.2.1 dJ9_floorMod_7cf53_7 (by decide) (fun _ => ?_) (fun c => (c (tb_xor0 hx hy) : False).elim)
  refine lv_iload_n X.1 X.2.1 dJ9_floorMod_7cf53_18 rfl (lv_at hl 0 rfl) ?_
  exact tb_ri X hr hlk hH ⟨rfl, rfl⟩ dJ9_floorMod_7cf53_19
def sz_X0_expectImage (z : tb_M) (a : Nat) (x : Int32) (y : Int32) (w : Int32) : tb_M := tb_up (tb_up (tb_up (tb_up (tb_up (tb_up z a 0 (nI (1))) a 1 x) a 2 y) a 3 w) a 4 (nI (0))) a 5 (nI (0))
set_option maxHeartbeats 4000000 in
set_option maxRecDepth 100000 in
theorem c_X0_expectImage (l : Launch) (g : tb_G) (z : tb_M) (a : Nat) (ha : tb_isA a) (x : Int32) (y : Int32) (w : Int32) : tb_Mv l yX0_expectImage cX0_expectImage 4 0 g z [.ref (tb_ad g a), .int x, .int y, .int w] (sz_X0_expectImage z a x y w) := by
  refine tb_gov (own := RX0) (by decide +kernel) rfl (Nat.le_of_ble_eq_true rfl) ?_
  intro p e s m below meth c ls X hr hlk hH hl
  have hl : lv_has ls 4 [(0, .ref (tb_ad g (a))), (1, .int (x)), (2, .int (y)), (3, .int (w))] := hl
  refine lv_aload_n X.1 X.2.1 dX0_expectImage_0 rfl (lv_at hl 0 rfl) ?_
  refine lv_iconst (v := nI (1)) X.1 X.2.1 dX0_expectImage_1 (by decide +kernel) ?_
  refine tb_putA X hH ha 0 (by decide) wm_50 dX0_expectImage_2 (fun H locs hH => ?_)
  refine lv_aload_n X.1 X.2.1 dX0_expectImage_5 rfl (lv_at hl 0 rfl) ?_
  refine lv_iload_n X.1 X.2.1 dX0_expectImage_6 rfl (lv_at hl 1 rfl) ?_
  refine tb_putA X hH ha 1 (by decide) wm_68 dX0_expectImage_7 (fun H locs hH => ?_)
  refine lv_aload_n X.1 X.2.1 dX0_expectImage_10 rfl (lv_at hl 0 rfl) ?_
  refine lv_iload_n X.1 X.2.1 dX0_expectImage_11 rfl (lv_at hl 2 rfl) ?_
  refine tb_putA X hH ha 2 (by decide) wm_69 dX0_expectImage_12 (fun H locs hH => ?_)
  refine lv_aload_n X.1 X.2.1 dX0_expectImage_15 rfl (lv_at hl 0 rfl) ?_
  refine lv_iload_n X.1 X.2.1 dX0_expectImage_16 rfl (lv_at hl 3 rfl) ?_
  refine tb_putA X hH ha 3 (by decide) wm_63 dX0_expectImage_17 (fun H locs hH => ?_)
  refine lv_aload_n X.1 X.2.1 dX0_expectImage_20 rfl (lv_at hl 0 rfl) ?_
  refine lv_iconst (v := nI (0)) X.1 X.2.1 dX0_expectImage_21 (by decide +kernel) ?_
  refine tb_putA X hH ha 4 (by decide) wm_70 dX0_expectImage_22 (fun H locs hH => ?_)
  refine lv_aload_n X.1 X.2.1 dX0_expectImage_25 rfl (lv_at hl 0 rfl) ?_
  refine lv_iconst (v := nI (0)) X.1 X.2.1 dX0_expectImage_26 (by decide +kernel) ?_
  refine tb_putA X hH ha 5 (by decide) wm_71 dX0_expectImage_27 (fun H locs hH => ?_)
  exact tb_rv X hr hlk hH (by rw [sz_X0_expectImage]) dX0_expectImage_30
set_option maxHeartbeats 4000000 in
set_option maxRecDepth 100000 in
theorem c_X0_lacking (l : Launch) (g : tb_G) (z : tb_M) (a : Nat) (ha : tb_isA a) : tb_Mi (.int) l yX0_lacking cX0_lacking 1 0 g z [.ref (tb_ad g a)] ((z a 2) - (z a 5)) (z) := by
  refine tb_goi (own := RX0) (by decide +kernel) rfl (Nat.le_of_ble_eq_true rfl) ?_
  intro p e s m below meth c ls X hr hlk hH hl
  have hl : lv_has ls 1 [(0, .ref (tb_ad g (a)))] := hl
  refine lv_aload_n X.1 X.2.1 dX0_lacking_0 rfl (lv_at hl 0 rfl) ?_
  refine tb_get X hH (tb_Ac ha).1 ((tb_Ac ha).2 _ _) rfl inlX0 2 (by decide) wm_69 (v := .int (z a 2)) rfl dX0_lacking_1 ?_
  refine lv_aload_n X.1 X.2.1 dX0_lacking_4 rfl (lv_at hl 0 rfl) ?_
  refine tb_get X hH (tb_Ac ha).1 ((tb_Ac ha).2 _ _) rfl inlX0 5 (by decide) wm_71 (v := .int (z a 5)) rfl dX0_lacking_5 ?_
  refine lv_isub X.1 X.2.1 dX0_lacking_8 ?_
  exact tb_ri X hr hlk hH ⟨rfl, rfl⟩ dX0_lacking_9
def sz_X0_loseFilling_m1 (z : tb_M) (a : Nat) : tb_M := if (z a 0) = (nI (1)) then (tb_up z a 0 (nI (0))) else z
set_option maxHeartbeats 4000000 in
set_option maxRecDepth 100000 in
theorem c_X0_loseFilling (l : Launch) (g : tb_G) (z : tb_M) (a : Nat) (ha : tb_isA a) : tb_Mv l yX0_loseFilling cX0_loseFilling 1 0 g z [.ref (tb_ad g a)] (sz_X0_loseFilling_m1 z a) := by
  refine tb_gov (own := RX0) (by decide +kernel) rfl (Nat.le_of_ble_eq_true rfl) ?_
  intro p e s m below meth c ls X hr hlk hH hl
  have hl : lv_has ls 1 [(0, .ref (tb_ad g (a)))] := hl
  refine lv_aload_n X.1 X.2.1 dX0_loseFilling_0 rfl (lv_at hl 0 rfl) ?_
  refine tb_get X hH (tb_Ac ha).1 ((tb_Ac ha).2 _ _) rfl inlX0 0 (by decide) wm_50 (v := .int (z a 0)) rfl dX0_loseFilling_1 ?_
  refine lv_iconst (v := nI (1)) X.1 X.2.1 dX0_loseFilling_4 (by decide +kernel) ?_
  have J_1 : ∀ (H : Heap) (locs : List Loc) (ls : Array Slot) (zq : tb_M), zq = (if (z a 0) = (nI (1)) then (tb_up z a 0 (nI (0))) else z) → tb_H g s.heap zq H locs → lv_has ls 1 [(0, .ref (tb_ad g (a)))] → W p l e (tb_rm 0) s m ([.ref (tb_ad g a)] : List Value).toArray below meth c H locs 0 0 (MQ below (va_Qv (fun u9 => u9 = (sz_X0_loseFilling_m1 z a)) (tb_B g) (tb_A g)) ([.ref (tb_ad g a)] : List Value).toArray s 0 0 (tb_A g)) (F0 m 13 ls []) := by
    intro H locs ls zq  ezq  hH hl
    subst ezq
    have hH : tb_H g s.heap (sz_X0_loseFilling_m1 z a) H locs := hH
    exact tb_rv X hr hlk hH rfl dX0_loseFilling_13
  refine lv_icmp_ne (tgt := 13) X.1 X.2.1 dX0_loseFilling_5 (by decide) (fun c_1 => ?_) (fun c_1 => ?_)
  · exact J_1 _ _ _ _ (by simp only [if_neg c_1]) hH (lv_sub hl [0] rfl)
  · refine lv_aload_n X.1 X.2.1 dX0_loseFilling_8 rfl (lv_at hl 0 rfl) ?_
    refine lv_iconst (v := nI (0)) X.1 X.2.1 dX0_loseFilling_9 (by decide +kernel) ?_
    refine tb_putA X hH ha 0 (by decide) wm_50 dX0_loseFilling_10 (fun H locs hH => ?_)
    exact J_1 _ _ _ _ (by simp only [if_pos c_1]) hH (lv_sub hl [0] rfl)
def sz_X0_giveUpTrial_m1 (z : tb_M) (a : Nat) : tb_M := if (z a 0) = (nI (2)) then (if (z a 4) = 0 then (tb_up z a 0 (nI (4))) else z) else z
set_option maxHeartbeats 4000000 in
set_option maxRecDepth 100000 in
theorem c_X0_giveUpTrial (l : Launch) (g : tb_G) (z : tb_M) (a : Nat) (ha : tb_isA a) : tb_Mv l yX0_giveUpTrial cX0_giveUpTrial 1 0 g z [.ref (tb_ad g a)] (sz_X0_giveUpTrial_m1 z a) := by
  refine tb_gov (own := RX0) (by decide +kernel) rfl (Nat.le_of_ble_eq_true rfl) ?_
  intro p e s m below meth c ls X hr hlk hH hl
  have hl : lv_has ls 1 [(0, .ref (tb_ad g (a)))] := hl
  refine lv_aload_n X.1 X.2.1 dX0_giveUpTrial_0 rfl (lv_at hl 0 rfl) ?_
  refine tb_get X hH (tb_Ac ha).1 ((tb_Ac ha).2 _ _) rfl inlX0 0 (by decide) wm_50 (v := .int (z a 0)) rfl dX0_giveUpTrial_1 ?_
  refine lv_iconst (v := nI (2)) X.1 X.2.1 dX0_giveUpTrial_4 (by decide +kernel) ?_
  have J_1 : ∀ (H : Heap) (locs : List Loc) (ls : Array Slot) (zq : tb_M), zq = (if (z a 0) = (nI (2)) then (if (z a 4) = 0 then (tb_up z a 0 (nI (4))) else z) else z) → tb_H g s.heap zq H locs → lv_has ls 1 [(0, .ref (tb_ad g (a)))] → W p l e (tb_rm 0) s m ([.ref (tb_ad g a)] : List Value).toArray below meth c H locs 0 0 (MQ below (va_Qv (fun u9 => u9 = (sz_X0_giveUpTrial_m1 z a)) (tb_B g) (tb_A g)) ([.ref (tb_ad g a)] : List Value).toArray s 0 0 (tb_A g)) (F0 m 20 ls []) := by
    intro H locs ls zq  ezq  hH hl
    subst ezq
    have hH : tb_H g s.heap (sz_X0_giveUpTrial_m1 z a) H locs := hH
    exact tb_rv X hr hlk hH rfl dX0_giveUpTrial_20
  refine lv_icmp_ne (tgt := 20) X.1 X.2.1 dX0_giveUpTrial_5 (by decide) (fun c_1 => ?_) (fun c_1 => ?_)
  · exact J_1 _ _ _ _ (by simp only [if_neg c_1]) hH (lv_sub hl [0] rfl)
  · refine lv_aload_n X.1 X.2.1 dX0_giveUpTrial_8 rfl (lv_at hl 0 rfl) ?_
    refine tb_get X hH (tb_Ac ha).1 ((tb_Ac ha).2 _ _) rfl inlX0 4 (by decide) wm_70 (v := .int (z a 4)) rfl dX0_giveUpTrial_9 ?_
    refine lv_if_ne (tgt := 20) X.1 X.2.1 dX0_giveUpTrial_12 (by decide) (fun c_2 => ?_) (fun c_2 => ?_)
    · exact J_1 _ _ _ _ (by simp only [if_pos c_1, if_neg c_2]) hH (lv_sub hl [0] rfl)
    · refine lv_aload_n X.1 X.2.1 dX0_giveUpTrial_15 rfl (lv_at hl 0 rfl) ?_
      refine lv_iconst (v := nI (4)) X.1 X.2.1 dX0_giveUpTrial_16 (by decide +kernel) ?_
      refine tb_putA X hH ha 0 (by decide) wm_50 dX0_giveUpTrial_17 (fun H locs hH => ?_)
      exact J_1 _ _ _ _ (by simp only [if_pos c_1, if_pos c_2]) hH (lv_sub hl [0] rfl)
def sz_X0_useTry_m1 (z : tb_M) (a : Nat) : tb_M := if (z a 0) = (nI (2)) then (tb_up z a 4 ((z a 4) - (nI (1)))) else z
set_option maxHeartbeats 4000000 in
set_option maxRecDepth 100000 in
theorem c_X0_useTry (l : Launch) (g : tb_G) (z : tb_M) (a : Nat) (ha : tb_isA a) : tb_Mv l yX0_useTry cX0_useTry 1 0 g z [.ref (tb_ad g a)] (sz_X0_useTry_m1 z a) := by
  refine tb_gov (own := RX0) (by decide +kernel) rfl (Nat.le_of_ble_eq_true rfl) ?_
  intro p e s m below meth c ls X hr hlk hH hl
  have hl : lv_has ls 1 [(0, .ref (tb_ad g (a)))] := hl
  refine lv_aload_n X.1 X.2.1 dX0_useTry_0 rfl (lv_at hl 0 rfl) ?_
  refine tb_get X hH (tb_Ac ha).1 ((tb_Ac ha).2 _ _) rfl inlX0 0 (by decide) wm_50 (v := .int (z a 0)) rfl dX0_useTry_1 ?_
  refine lv_iconst (v := nI (2)) X.1 X.2.1 dX0_useTry_4 (by decide +kernel) ?_
  have J_1 : ∀ (H : Heap) (locs : List Loc) (ls : Array Slot) (zq : tb_M), zq = (if (z a 0) = (nI (2)) then (tb_up z a 4 ((z a 4) - (nI (1)))) else z) → tb_H g s.heap zq H locs → lv_has ls 1 [(0, .ref (tb_ad g (a)))] → W p l e (tb_rm 0) s m ([.ref (tb_ad g a)] : List Value).toArray below meth c H locs 0 0 (MQ below (va_Qv (fun u9 => u9 = (sz_X0_useTry_m1 z a)) (tb_B g) (tb_A g)) ([.ref (tb_ad g a)] : List Value).toArray s 0 0 (tb_A g)) (F0 m 18 ls []) := by
    intro H locs ls zq  ezq  hH hl
    subst ezq
    have hH : tb_H g s.heap (sz_X0_useTry_m1 z a) H locs := hH
    exact tb_rv X hr hlk hH rfl dX0_useTry_18
  refine lv_icmp_ne (tgt := 18) X.1 X.2.1 dX0_useTry_5 (by decide) (fun c_1 => ?_) (fun c_1 => ?_)
  · exact J_1 _ _ _ _ (by simp only [if_neg c_1]) hH (lv_sub hl [0] rfl)
  · refine lv_aload_n X.1 X.2.1 dX0_useTry_8 rfl (lv_at hl 0 rfl) ?_
    refine lv_dup X.1 X.2.1 dX0_useTry_9 rfl ?_
    refine tb_get X hH (tb_Ac ha).1 ((tb_Ac ha).2 _ _) rfl inlX0 4 (by decide) wm_70 (v := .int (z a 4)) rfl dX0_useTry_10 ?_
    refine lv_iconst (v := nI (1)) X.1 X.2.1 dX0_useTry_13 (by decide +kernel) ?_
    refine lv_isub X.1 X.2.1 dX0_useTry_14 ?_
    refine tb_putA X hH ha 4 (by decide) wm_70 dX0_useTry_15 (fun H locs hH => ?_)
    exact J_1 _ _ _ _ (by simp only [if_pos c_1]) hH (lv_sub hl [0] rfl)
set_option maxHeartbeats 4000000 in
set_option maxRecDepth 100000 in
theorem c_X0_addWord (l : Launch) (g : tb_G) (z : tb_M) (a : Nat) (ha : tb_isA a) (w : Int32) (n : Nat) (hn : z a 5 = nI n) (hn2 : n < 32) : tb_Mv l yX0_addWord cX0_addWord 2 1 g z [.ref (tb_ad g a), .int w] (tb_up (tb_up z (a + 1) n w) a 5 (nI (n + 1))) := by
  refine tb_gov (own := RX0) (by decide +kernel) rfl (Nat.le_of_ble_eq_true rfl) ?_
  intro p e s m below meth c ls X hr hlk hH hl
  have hl : lv_has ls 2 [(0, .ref (tb_ad g (a))), (1, .int (w))] := hl
  refine lv_aload_n X.1 X.2.1 dX0_addWord_0 rfl (lv_at hl 0 rfl) ?_
  refine tb_get X hH (tb_Ac ha).1 ((tb_Ac ha).2 _ _) rfl inlX0 5 (by decide) wm_71 (v := .int (z a 5)) rfl dX0_addWord_1 ?_
  refine lv_iconst (v := nI (0)) X.1 X.2.1 dX0_addWord_4 (by decide +kernel) ?_
  refine lv_bipush (v := nI (31)) X.1 X.2.1 dX0_addWord_5 (by decide +kernel) ?_
  refine tb_cNi X hH hl.1 (c_X5_isWithin l g z (z a 5) (nI (0)) (nI (31))) ky_X5_isWithin.1 ky_X5_isWithin.2 X.2.2.2.2.1.2.2.1.1 rfl rfl (Nat.le_of_ble_eq_true rfl) ⟨by decide, by decide⟩ ⟨by decide, by decide⟩ dX0_addWord_7 (fun H locs hH => ?_)
  refine tb_jbeq (tgt := 33) X dX0_addWord_10 (by decide) (fun c => (c ⟨by rw [hn]; exact nI_nlt (by omega) (by omega), by rw [hn]; exact nI_nlt (by omega) (by omega)⟩ : False).elim) (fun _ => ?_)
  refine lv_aload_n X.1 X.2.1 dX0_addWord_13 rfl (lv_at hl 0 rfl) ?_
  refine tb_get X hH (tb_Ac ha).1 ((tb_Ac ha).2 _ _) rfl inlX0 6 (by decide) wm_51 (v := .ref (tb_ad g (a + 1))) rfl dX0_addWord_14 ?_
  refine lv_aload_n X.1 X.2.1 dX0_addWord_17 rfl (lv_at hl 0 rfl) ?_
  refine tb_get X hH (tb_Ac ha).1 ((tb_Ac ha).2 _ _) rfl inlX0 5 (by decide) wm_71 (v := .int (z a 5)) rfl dX0_addWord_18 ?_
  refine lv_iload_n X.1 X.2.1 dX0_addWord_21 rfl (lv_at hl 1 rfl) ?_
  refine tb_ast X hH (tb_iw ha) (n) hn hn2 (by decide) dX0_addWord_22 (fun H locs hH => ?_)
  refine lv_aload_n X.1 X.2.1 dX0_addWord_23 rfl (lv_at hl 0 rfl) ?_
  refine lv_dup X.1 X.2.1 dX0_addWord_24 rfl ?_
  refine tb_get X hH (tb_Ac ha).1 ((tb_Ac ha).2 _ _) rfl inlX0 5 (by decide) wm_71 (v := .int ((tb_up z (a + 1) n w) a 5)) rfl dX0_addWord_25 ?_
  refine tb_top (x2 := nI (n)) (by rw [tb_up_k _ _ _ (by omega)]; exact hn) ?_
  refine lv_iconst (v := nI (1)) X.1 X.2.1 dX0_addWord_28 (by decide +kernel) ?_
  refine tb_iaddN X dX0_addWord_29 ?_
  refine tb_putA X hH ha 5 (by decide) wm_71 dX0_addWord_30 (fun H locs hH => ?_)
  exact tb_rv X hr hlk hH rfl dX0_addWord_33
set_option maxHeartbeats 4000000 in
set_option maxRecDepth 100000 in
theorem c_X0_sumOfImage (l : Launch) (g : tb_G) (z : tb_M) (a : Nat) (ha : tb_isA a) (hL : tb_okL z a) : tb_Mi (.int) l yX0_sumOfImage cX0_sumOfImage 3 1 g z [.ref (tb_ad g a)] (tb_sm (z (a + 1)) (tb_len z a)) (z) := by
  refine tb_goi (own := RX0) (by decide +kernel) rfl (Nat.le_of_ble_eq_true rfl) ?_
  intro p e s m below meth c ls X hr hlk hH hl
  have hl : lv_has ls 3 [(0, .ref (tb_ad g (a)))] := hl
  have hL2 := hL.2
  refine lv_iconst (v := nI (1)) X.1 X.2.1 dX0_sumOfImage_0 (by decide +kernel) ?_
  refine lv_istore_n (lv' := [(1, .int (nI (1))), (0, .ref (tb_ad g (a)))]) X.1 X.2.1 dX0_sumOfImage_1 rfl hl (by decide) rfl (fun ls hl => ?_)
  refine lv_iconst (v := nI (0)) X.1 X.2.1 dX0_sumOfImage_2 (by decide +kernel) ?_
  refine lv_istore_n (lv' := [(2, .int (nI (0))), (1, .int (nI (1))), (0, .ref (tb_ad g (a)))]) X.1 X.2.1 dX0_sumOfImage_3 rfl hl (by decide) rfl (fun ls hl => ?_)
  have L_4 : ∀ (k : Nat) (i : Nat), i + k = tb_len z a → ∀ (H : Heap) (locs : List Loc) (ls : Array Slot), tb_H g s.heap (z) H locs → lv_has ls 3 [(0, .ref (tb_ad g (a))), (1, .int (tb_sm (z (a + 1)) i)), (2, .int (nI (i)))] → W p l e (tb_rm 1) s m ([.ref (tb_ad g a)] : List Value).toArray below meth c H locs 0 0 (MQ below (va_Qi (fun r9 u9 => r9 = tb_sm (z (a + 1)) (tb_len z a) ∧ u9 = z) (tb_B g) (tb_A g)) ([.ref (tb_ad g a)] : List Value).toArray s 0 0 (tb_A g)) (F0 m 4 ls []) := by
    intro k
    induction k with
    | zero =>
      intro i hik H locs ls hH hl
      refine lv_iload_n X.1 X.2.1 dX0_sumOfImage_4 rfl (lv_at hl 2 rfl) ?_
      refine lv_aload_n X.1 X.2.1 dX0_sumOfImage_5 rfl (lv_at hl 0 rfl) ?_
      refine tb_get X hH (tb_Ac ha).1 ((tb_Ac ha).2 _ _) rfl inlX0 2 (by decide) wm_69 (v := .int (z a 2)) rfl dX0_sumOfImage_6 ?_
      refine tb_top (x2 := nI (tb_len z a)) (hL.1) ?_
      refine tb_nge (tgt := 35) X (by omega) (by omega) dX0_sumOfImage_9 (by decide) (fun _ => ?_) (fun c => ((by omega) : False).elim)
      refine lv_iload_n X.1 X.2.1 dX0_sumOfImage_35 rfl (lv_at hl 1 rfl) ?_
      exact tb_ri X hr hlk hH ⟨(by rw [show i = tb_len z a by omega]), rfl⟩ dX0_sumOfImage_36
    | succ k ih_4 =>
      intro i hik H locs ls hH hl
      refine lv_iload_n X.1 X.2.1 dX0_sumOfImage_4 rfl (lv_at hl 2 rfl) ?_
      refine lv_aload_n X.1 X.2.1 dX0_sumOfImage_5 rfl (lv_at hl 0 rfl) ?_
      refine tb_get X hH (tb_Ac ha).1 ((tb_Ac ha).2 _ _) rfl inlX0 2 (by decide) wm_69 (v := .int (z a 2)) rfl dX0_sumOfImage_6 ?_
      refine tb_top (x2 := nI (tb_len z a)) (hL.1) ?_
      refine tb_nge (tgt := 35) X (by omega) (by omega) dX0_sumOfImage_9 (by decide) (fun c => ((by omega) : False).elim) (fun _ => ?_)
      refine lv_iload_n X.1 X.2.1 dX0_sumOfImage_12 rfl (lv_at hl 2 rfl) ?_
      refine lv_bipush (v := nI (32)) X.1 X.2.1 dX0_sumOfImage_13 (by decide +kernel) ?_
      refine tb_nge (tgt := 35) X (by omega) (by omega) dX0_sumOfImage_15 (by decide) (fun c => ((by omega) : False).elim) (fun _ => ?_)
      refine lv_iload_n X.1 X.2.1 dX0_sumOfImage_18 rfl (lv_at hl 1 rfl) ?_
      refine lv_aload_n X.1 X.2.1 dX0_sumOfImage_19 rfl (lv_at hl 0 rfl) ?_
      refine tb_get X hH (tb_Ac ha).1 ((tb_Ac ha).2 _ _) rfl inlX0 6 (by decide) wm_51 (v := .ref (tb_ad g (a + 1))) rfl dX0_sumOfImage_20 ?_
      refine lv_iload_n X.1 X.2.1 dX0_sumOfImage_23 rfl (lv_at hl 2 rfl) ?_
      refine tb_ald X hH (tb_iw ha) (i) rfl (by omega) (by decide) dX0_sumOfImage_24 ?_
      refine tb_cNi X hH hl.1 (c_X5_sumWith l g z (tb_sm (z (a + 1)) i) (z (a + 1) i)) ky_X5_sumWith.1 ky_X5_sumWith.2 X.2.2.2.2.1.2.2.1.2.1 rfl rfl (Nat.le_of_ble_eq_true rfl) ⟨by decide, by decide⟩ ⟨by decide, by decide⟩ dX0_sumOfImage_25 (fun H locs hH => ?_)
      refine lv_istore_n (lv' := [(1, .int ((tb_sw (tb_sm (z (a + 1)) i) (z (a + 1) i)))), (0, .ref (tb_ad g (a))), (2, .int (nI (i)))]) X.1 X.2.1 dX0_sumOfImage_28 rfl hl (by decide) rfl (fun ls hl => ?_)
      refine lv_iinc (v := nI (i + 1)) (lv' := [(2, .int (nI (i + 1))), (1, .int ((tb_sw (tb_sm (z (a + 1)) i) (z (a + 1) i)))), (0, .ref (tb_ad g (a)))]) X.1 X.2.1 dX0_sumOfImage_29 hl (k := 2) rfl (nI_add _ _) (by decide) rfl (fun ls hl => ?_)
      refine lv_goto (tgt := 4) X.1 X.2.1 dX0_sumOfImage_32 (by decide) ?_
      exact ih_4 (i + 1) (by omega) _ _ _ hH (lv_sub hl [2, 1, 0] rfl)
  exact L_4 (tb_len z a) 0 (by omega) _ _ _ hH (lv_sub hl [2, 1, 0] rfl)
set_option maxHeartbeats 4000000 in
set_option maxRecDepth 100000 in
theorem c_X0_isSound (l : Launch) (g : tb_G) (z : tb_M) (a : Nat) (ha : tb_isA a) (hL : tb_okL z a) : tb_Mi (.boolean) l yX0_isSound cX0_isSound 1 2 g z [.ref (tb_ad g a)] (tb_b (((tb_sm (z (a + 1)) (tb_len z a))) = (z a 3))) (z) := by
  refine tb_goi (own := RX0) (by decide +kernel) rfl (Nat.le_of_ble_eq_true rfl) ?_
  intro p e s m below meth c ls X hr hlk hH hl
  have hl : lv_has ls 1 [(0, .ref (tb_ad g (a)))] := hl
  refine lv_aload_n X.1 X.2.1 dX0_isSound_0 rfl (lv_at hl 0 rfl) ?_
  refine tb_cVi X hH hl.1 (c_X0_sumOfImage l g z a ha (by first | assumption | omega | decide)) ky_X0_sumOfImage.1 ky_X0_sumOfImage.2 wm_78 (tb_oA ha) rfl rfl (Nat.le_of_ble_eq_true rfl) ⟨by decide, by decide⟩ ⟨by decide, by decide⟩ dX0_isSound_1 (fun H locs hH => ?_)
  refine lv_aload_n X.1 X.2.1 dX0_isSound_4 rfl (lv_at hl 0 rfl) ?_
  refine tb_get X hH (tb_Ac ha).1 ((tb_Ac ha).2 _ _) rfl inlX0 3 (by decide) wm_63 (v := .int (z a 3)) rfl dX0_isSound_5 ?_
  have J_1 : ∀ (H : Heap) (locs : List Loc) (ls : Array Slot) (vq1 : Int32), vq1 = (tb_b (((tb_sm (z (a + 1)) (tb_len z a))) = (z a 3))) → tb_H g s.heap z H locs → lv_has ls 1 [(0, .ref (tb_ad g (a)))] → W p l e (tb_rm 2) s m ([.ref (tb_ad g a)] : List Value).toArray below meth c H locs 0 0 (MQ below (va_Qi (fun r9 u9 => r9 = tb_b (((tb_sm (z (a + 1)) (tb_len z a))) = (z a 3)) ∧ u9 = z) (tb_B g) (tb_A g)) ([.ref (tb_ad g a)] : List Value).toArray s 0 0 (tb_A g)) (F0 m 16 ls [.int vq1]) := by
    intro H locs ls vq1 evq1 hH hl
    subst evq1
    exact tb_rz X hr hlk hH ⟨(Iff.rfl).symm, rfl⟩ dX0_isSound_16
  refine lv_icmp_ne (tgt := 15) X.1 X.2.1 dX0_isSound_8 (by decide) (fun c_1 => ?_) (fun c_1 => ?_)
  · refine lv_iconst (v := nI (0)) X.1 X.2.1 dX0_isSound_15 (by decide +kernel) ?_
    exact J_1 _ _ _ _ (tb_b_f c_1).symm hH (lv_sub hl [0] rfl)
  · refine lv_iconst (v := nI (1)) X.1 X.2.1 dX0_isSound_11 (by decide +kernel) ?_
    refine lv_goto (tgt := 16) X.1 X.2.1 dX0_isSound_12 (by decide) ?_
    exact J_1 _ _ _ _ (tb_b_t c_1).symm hH (lv_sub hl [0] rfl)
def sz_X0_takeGoldenImage (z : tb_M) (a : Nat) : tb_M := tb_up (tb_up (tb_up (tb_up (tb_up (tb_up (sz_X0_expectImage z a (nI (0)) (nI (2)) (nI (0))) (a + 1) 0 (nI (0))) a 5 (nI (0 + 1))) (a + 1) 1 (nI (0))) a 5 (nI (1 + 1))) a 3 ((tb_sm ((tb_up (tb_up (tb_up (tb_up (sz_X0_expectImage z a (nI (0)) (nI (2)) (nI (0))) (a + 1) 0 (nI (0))) a 5 (nI (0 + 1))) (a + 1) 1 (nI (0))) a 5 (nI (1 + 1))) (a + 1)) (tb_len (tb_up (tb_up (tb_up (tb_up (sz_X0_expectImage z a (nI (0)) (nI (2)) (nI (0))) (a + 1) 0 (nI (0))) a 5 (nI (0 + 1))) (a + 1) 1 (nI (0))) a 5 (nI (1 + 1))) a)))) a 0 (nI (3))
set_option maxHeartbeats 4000000 in
set_option maxRecDepth 100000 in
theorem c_X0_takeGoldenImage (l : Launch) (g : tb_G) (z : tb_M) (a : Nat) (ha : tb_isA a) : tb_Mv l yX0_takeGoldenImage cX0_takeGoldenImage 1 2 g z [.ref (tb_ad g a)] (sz_X0_takeGoldenImage z a) := by
  refine tb_gov (own := RX0) (by decide +kernel) rfl (Nat.le_of_ble_eq_true rfl) ?_
  intro p e s m below meth c ls X hr hlk hH hl
  have hl : lv_has ls 1 [(0, .ref (tb_ad g (a)))] := hl
  refine lv_aload_n X.1 X.2.1 dX0_takeGoldenImage_0 rfl (lv_at hl 0 rfl) ?_
  refine lv_iconst (v := nI (0)) X.1 X.2.1 dX0_takeGoldenImage_1 (by decide +kernel) ?_
  refine lv_iconst (v := nI (2)) X.1 X.2.1 dX0_takeGoldenImage_2 (by decide +kernel) ?_
  refine lv_iconst (v := nI (0)) X.1 X.2.1 dX0_takeGoldenImage_3 (by decide +kernel) ?_
  refine tb_cVv X hH hl.1 (c_X0_expectImage l g z a ha (nI (0)) (nI (2)) (nI (0))) ky_X0_expectImage.1 ky_X0_expectImage.2 wm_64 (tb_oA ha) rfl rfl (Nat.le_of_ble_eq_true rfl) ⟨by decide, by decide⟩ ⟨by decide, by decide⟩ dX0_takeGoldenImage_4 (fun H locs hH => ?_)
  refine lv_aload_n X.1 X.2.1 dX0_takeGoldenImage_7 rfl (lv_at hl 0 rfl) ?_
  refine lv_iconst (v := nI (0)) X.1 X.2.1 dX0_takeGoldenImage_8 (by decide +kernel) ?_
  refine tb_cVv X hH hl.1 (c_X0_addWord l g (sz_X0_expectImage z a (nI (0)) (nI (2)) (nI (0))) a ha (nI (0)) 0 (by simp [sz_X0_expectImage, tb_up]) (by decide)) ky_X0_addWord.1 ky_X0_addWord.2 wm_72 (tb_oA ha) rfl rfl (Nat.le_of_ble_eq_true rfl) ⟨by decide, by decide⟩ ⟨by decide, by decide⟩ dX0_takeGoldenImage_9 (fun H locs hH => ?_)
  refine lv_aload_n X.1 X.2.1 dX0_takeGoldenImage_12 rfl (lv_at hl 0 rfl) ?_
  refine lv_iconst (v := nI (0)) X.1 X.2.1 dX0_takeGoldenImage_13 (by decide +kernel) ?_
  refine tb_cVv X hH hl.1 (c_X0_addWord l g (tb_up (tb_up (sz_X0_expectImage z a (nI (0)) (nI (2)) (nI (0))) (a + 1) 0 (nI (0))) a 5 (nI (0 + 1))) a ha (nI (0)) 1 (by simp [tb_up]) (by decide)) ky_X0_addWord.1 ky_X0_addWord.2 wm_72 (tb_oA ha) rfl rfl (Nat.le_of_ble_eq_true rfl) ⟨by decide, by decide⟩ ⟨by decide, by decide⟩ dX0_takeGoldenImage_14 (fun H locs hH => ?_)
  refine lv_aload_n X.1 X.2.1 dX0_takeGoldenImage_17 rfl (lv_at hl 0 rfl) ?_
  refine lv_aload_n X.1 X.2.1 dX0_takeGoldenImage_18 rfl (lv_at hl 0 rfl) ?_
  refine tb_cVi X hH hl.1 (c_X0_sumOfImage l g (tb_up (tb_up (tb_up (tb_up (sz_X0_expectImage z a (nI (0)) (nI (2)) (nI (0))) (a + 1) 0 (nI (0))) a 5 (nI (0 + 1))) (a + 1) 1 (nI (0))) a 5 (nI (1 + 1))) a ha (tb_okL_of (n := 2) (by simp [sz_X0_expectImage, tb_up]) (by decide)).1) ky_X0_sumOfImage.1 ky_X0_sumOfImage.2 wm_78 (tb_oA ha) rfl rfl (Nat.le_of_ble_eq_true rfl) ⟨by decide, by decide⟩ ⟨by decide, by decide⟩ dX0_takeGoldenImage_19 (fun H locs hH => ?_)
  refine tb_putA X hH ha 3 (by decide) wm_63 dX0_takeGoldenImage_22 (fun H locs hH => ?_)
  refine lv_aload_n X.1 X.2.1 dX0_takeGoldenImage_25 rfl (lv_at hl 0 rfl) ?_
  refine lv_iconst (v := nI (3)) X.1 X.2.1 dX0_takeGoldenImage_26 (by decide +kernel) ?_
  refine tb_putA X hH ha 0 (by decide) wm_50 dX0_takeGoldenImage_27 (fun H locs hH => ?_)
  exact tb_rv X hr hlk hH (by rw [sz_X0_takeGoldenImage]) dX0_takeGoldenImage_30
set_option maxHeartbeats 4000000 in
set_option maxRecDepth 100000 in
theorem c_X0_greatestWear (l : Launch) (g : tb_G) (z : tb_M) (a : Nat) (ha : tb_isA a) (q : Nat) (hq : q ≤ 8) : tb_Mi (.int) l yX0_greatestWear cX0_greatestWear 4 1 g z [.ref (tb_ad g a), .int (nI q)] (tb_gw (z (a + 2)) q) (z) := by
  refine tb_goi (own := RX0) (by decide +kernel) rfl (Nat.le_of_ble_eq_true rfl) ?_
  intro p e s m below meth c ls X hr hlk hH hl
  have hl : lv_has ls 4 [(0, .ref (tb_ad g (a))), (1, .int (nI (q)))] := hl
  refine lv_iconst (v := nI (0)) X.1 X.2.1 dX0_greatestWear_0 (by decide +kernel) ?_
  refine lv_istore_n (lv' := [(2, .int (nI (0))), (0, .ref (tb_ad g (a))), (1, .int (nI (q)))]) X.1 X.2.1 dX0_greatestWear_1 rfl hl (by decide) rfl (fun ls hl => ?_)
  refine lv_iconst (v := nI (0)) X.1 X.2.1 dX0_greatestWear_2 (by decide +kernel) ?_
  refine lv_istore_n (lv' := [(3, .int (nI (0))), (2, .int (nI (0))), (0, .ref (tb_ad g (a))), (1, .int (nI (q)))]) X.1 X.2.1 dX0_greatestWear_3 rfl hl (by decide) rfl (fun ls hl => ?_)
  have L_4 : ∀ (k : Nat) (i : Nat), i + k = q → ∀ (H : Heap) (locs : List Loc) (ls : Array Slot), tb_H g s.heap (z) H locs → lv_has ls 4 [(0, .ref (tb_ad g (a))), (1, .int (nI (q))), (2, .int (tb_gw (z (a + 2)) i)), (3, .int (nI (i)))] → W p l e (tb_rm 1) s m ([.ref (tb_ad g a), .int (nI q)] : List Value).toArray below meth c H locs 0 0 (MQ below (va_Qi (fun r9 u9 => r9 = tb_gw (z (a + 2)) q ∧ u9 = z) (tb_B g) (tb_A g)) ([.ref (tb_ad g a), .int (nI q)] : List Value).toArray s 0 0 (tb_A g)) (F0 m 4 ls []) := by
    intro k
    induction k with
    | zero =>
      intro i hik H locs ls hH hl
      refine lv_iload_n X.1 X.2.1 dX0_greatestWear_4 rfl (lv_at hl 3 rfl) ?_
      refine lv_iload_n X.1 X.2.1 dX0_greatestWear_5 rfl (lv_at hl 1 rfl) ?_
      refine tb_nge (tgt := 32) X (by omega) (by omega) dX0_greatestWear_6 (by decide) (fun _ => ?_) (fun c => ((by omega) : False).elim)
      refine lv_iload_n X.1 X.2.1 dX0_greatestWear_32 rfl (lv_at hl 2 rfl) ?_
      exact tb_ri X hr hlk hH ⟨(by rw [show i = q by omega]), rfl⟩ dX0_greatestWear_33
    | succ k ih_4 =>
      intro i hik H locs ls hH hl
      refine lv_iload_n X.1 X.2.1 dX0_greatestWear_4 rfl (lv_at hl 3 rfl) ?_
      refine lv_iload_n X.1 X.2.1 dX0_greatestWear_5 rfl (lv_at hl 1 rfl) ?_
      refine tb_nge (tgt := 32) X (by omega) (by omega) dX0_greatestWear_6 (by decide) (fun c => ((by omega) : False).elim) (fun _ => ?_)
      refine lv_iload_n X.1 X.2.1 dX0_greatestWear_9 rfl (lv_at hl 3 rfl) ?_
      refine lv_bipush (v := nI (8)) X.1 X.2.1 dX0_greatestWear_10 (by decide +kernel) ?_
      refine tb_nge (tgt := 32) X (by omega) (by omega) dX0_greatestWear_12 (by decide) (fun c => ((by omega) : False).elim) (fun _ => ?_)
      refine lv_iload_n X.1 X.2.1 dX0_greatestWear_15 rfl (lv_at hl 2 rfl) ?_
      refine lv_aload_n X.1 X.2.1 dX0_greatestWear_16 rfl (lv_at hl 0 rfl) ?_
      refine tb_get X hH (tb_Ac ha).1 ((tb_Ac ha).2 _ _) rfl inlX0 7 (by decide) wm_52 (v := .ref (tb_ad g (a + 2))) rfl dX0_greatestWear_17 ?_
      refine lv_iload_n X.1 X.2.1 dX0_greatestWear_20 rfl (lv_at hl 3 rfl) ?_
      refine tb_ald X hH (tb_iv ha) (i) rfl (by omega) (by decide) dX0_greatestWear_21 ?_
      refine tb_cmax X hl.1 wm_203 wm_193 wm_124 wm_194 (by decide) (Nat.le_of_ble_eq_true rfl) ⟨by decide, by decide⟩ dX0_greatestWear_22 ?_
      refine lv_istore_n (lv' := [(2, .int (if tb_gw (z (a + 2)) i < z (a + 2) i then z (a + 2) i else tb_gw (z (a + 2)) i)), (0, .ref (tb_ad g (a))), (1, .int (nI (q))), (3, .int (nI (i)))]) X.1 X.2.1 dX0_greatestWear_25 rfl hl (by decide) rfl (fun ls hl => ?_)
      refine lv_iinc (v := nI (i + 1)) (lv' := [(3, .int (nI (i + 1))), (2, .int (if tb_gw (z (a + 2)) i < z (a + 2) i then z (a + 2) i else tb_gw (z (a + 2)) i)), (0, .ref (tb_ad g (a))), (1, .int (nI (q)))]) X.1 X.2.1 dX0_greatestWear_26 hl (k := 3) rfl (nI_add _ _) (by decide) rfl (fun ls hl => ?_)
      refine lv_goto (tgt := 4) X.1 X.2.1 dX0_greatestWear_29 (by decide) ?_
      exact ih_4 (i + 1) (by omega) _ _ _ hH (lv_sub hl [2, 3, 1, 0] rfl)
  exact L_4 q 0 (by omega) _ _ _ hH (lv_sub hl [2, 3, 1, 0] rfl)
set_option maxHeartbeats 4000000 in
set_option maxRecDepth 100000 in
theorem c_X0_wornOutPages (l : Launch) (g : tb_G) (z : tb_M) (a : Nat) (ha : tb_isA a) (x : Int32) : tb_Mi (.int) l yX0_wornOutPages cX0_wornOutPages 4 0 g z [.ref (tb_ad g a), .int x] (tb_wo (z (a + 2)) x 8) (z) := by
  refine tb_goi (own := RX0) (by decide +kernel) rfl (Nat.le_of_ble_eq_true rfl) ?_
  intro p e s m below meth c ls X hr hlk hH hl
  have hl : lv_has ls 4 [(0, .ref (tb_ad g (a))), (1, .int (x))] := hl
  refine lv_iconst (v := nI (0)) X.1 X.2.1 dX0_wornOutPages_0 (by decide +kernel) ?_
  refine lv_istore_n (lv' := [(2, .int (nI (0))), (0, .ref (tb_ad g (a))), (1, .int (x))]) X.1 X.2.1 dX0_wornOutPages_1 rfl hl (by decide) rfl (fun ls hl => ?_)
  refine lv_iconst (v := nI (0)) X.1 X.2.1 dX0_wornOutPages_2 (by decide +kernel) ?_
  refine lv_istore_n (lv' := [(3, .int (nI (0))), (2, .int (nI (0))), (0, .ref (tb_ad g (a))), (1, .int (x))]) X.1 X.2.1 dX0_wornOutPages_3 rfl hl (by decide) rfl (fun ls hl => ?_)
  have L_4 : ∀ (k : Nat) (i : Nat), i + k = 8 → ∀ (H : Heap) (locs : List Loc) (ls : Array Slot), tb_H g s.heap (z) H locs → lv_has ls 4 [(0, .ref (tb_ad g (a))), (1, .int (x)), (2, .int (tb_wo (z (a + 2)) x i)), (3, .int (nI (i)))] → W p l e (tb_rm 0) s m ([.ref (tb_ad g a), .int x] : List Value).toArray below meth c H locs 0 0 (MQ below (va_Qi (fun r9 u9 => r9 = tb_wo (z (a + 2)) x 8 ∧ u9 = z) (tb_B g) (tb_A g)) ([.ref (tb_ad g a), .int x] : List Value).toArray s 0 0 (tb_A g)) (F0 m 4 ls []) := by
    intro k
    induction k with
    | zero =>
      intro i hik H locs ls hH hl
      refine lv_iload_n X.1 X.2.1 dX0_wornOutPages_4 rfl (lv_at hl 3 rfl) ?_
      refine lv_bipush (v := nI (8)) X.1 X.2.1 dX0_wornOutPages_5 (by decide +kernel) ?_
      refine tb_nge (tgt := 29) X (by omega) (by omega) dX0_wornOutPages_7 (by decide) (fun _ => ?_) (fun c => ((by omega) : False).elim)
      refine lv_iload_n X.1 X.2.1 dX0_wornOutPages_29 rfl (lv_at hl 2 rfl) ?_
      exact tb_ri X hr hlk hH ⟨(by rw [show i = 8 by omega]), rfl⟩ dX0_wornOutPages_30
    | succ k ih_4 =>
      intro i hik H locs ls hH hl
      refine lv_iload_n X.1 X.2.1 dX0_wornOutPages_4 rfl (lv_at hl 3 rfl) ?_
      refine lv_bipush (v := nI (8)) X.1 X.2.1 dX0_wornOutPages_5 (by decide +kernel) ?_
      refine tb_nge (tgt := 29) X (by omega) (by omega) dX0_wornOutPages_7 (by decide) (fun c => ((by omega) : False).elim) (fun _ => ?_)
      refine lv_aload_n X.1 X.2.1 dX0_wornOutPages_10 rfl (lv_at hl 0 rfl) ?_
      refine tb_get X hH (tb_Ac ha).1 ((tb_Ac ha).2 _ _) rfl inlX0 7 (by decide) wm_52 (v := .ref (tb_ad g (a + 2))) rfl dX0_wornOutPages_11 ?_
      refine lv_iload_n X.1 X.2.1 dX0_wornOutPages_14 rfl (lv_at hl 3 rfl) ?_
      refine tb_ald X hH (tb_iv ha) (i) rfl (by omega) (by decide) dX0_wornOutPages_15 ?_
      refine lv_iload_n X.1 X.2.1 dX0_wornOutPages_16 rfl (lv_at hl 1 rfl) ?_
      have J_1 : ∀ (H : Heap) (locs : List Loc) (ls : Array Slot) (vq1 : Int32), vq1 = (if (z (a + 2) i) < x then (tb_wo (z (a + 2)) x i) else ((tb_wo (z (a + 2)) x i) + nI 1)) → tb_H g s.heap z H locs → lv_has ls 4 [(0, .ref (tb_ad g (a))), (1, .int (x)), (2, .int vq1), (3, .int (nI (i)))] → W p l e (tb_rm 0) s m ([.ref (tb_ad g a), .int x] : List Value).toArray below meth c H locs 0 0 (MQ below (va_Qi (fun r9 u9 => r9 = tb_wo (z (a + 2)) x 8 ∧ u9 = z) (tb_B g) (tb_A g)) ([.ref (tb_ad g a), .int x] : List Value).toArray s 0 0 (tb_A g)) (F0 m 23 ls []) := by
        intro H locs ls vq1 evq1 hH hl
        subst evq1
        refine lv_iinc (v := nI (i + 1)) (lv' := [(3, .int (nI (i + 1))), (0, .ref (tb_ad g (a))), (1, .int (x)), (2, .int (if (z (a + 2) i) < x then (tb_wo (z (a + 2)) x i) else ((tb_wo (z (a + 2)) x i) + nI 1)))]) X.1 X.2.1 dX0_wornOutPages_23 hl (k := 3) rfl (nI_add _ _) (by decide) rfl (fun ls hl => ?_)
        refine lv_goto (tgt := 4) X.1 X.2.1 dX0_wornOutPages_26 (by decide) ?_
        exact ih_4 (i + 1) (by omega) _ _ _ hH (lv_sub hl [1, 2, 3, 0] rfl)
      refine lv_icmp_lt (tgt := 23) X.1 X.2.1 dX0_wornOutPages_17 (by decide) (fun c_1 => ?_) (fun c_1 => ?_)
      · exact J_1 _ _ _ _ (by simp only [if_pos c_1]) hH (lv_sub hl [0, 1, 2, 3] rfl)
      · refine lv_iinc (v := (tb_wo (z (a + 2)) x i) + nI 1) (lv' := [(2, .int ((tb_wo (z (a + 2)) x i) + nI 1)), (0, .ref (tb_ad g (a))), (1, .int (x)), (3, .int (nI (i)))]) X.1 X.2.1 dX0_wornOutPages_20 hl (k := 2) rfl rfl (by decide) rfl (fun ls hl => ?_)
        exact J_1 _ _ _ _ (by simp only [if_neg c_1]) hH (lv_sub hl [1, 2, 0, 3] rfl)
  exact L_4 8 0 (by omega) _ _ _ hH (lv_sub hl [2, 3, 1, 0] rfl)
set_option maxHeartbeats 4000000 in
set_option maxRecDepth 100000 in
theorem c_X0_emptyPages (l : Launch) (g : tb_G) (z : tb_M) (a : Nat) (ha : tb_isA a) (q : Nat) (hq : q ≤ 8) : tb_Mv l yX0_emptyPages cX0_emptyPages 3 0 g z [.ref (tb_ad g a), .int (nI q)] (tb_ec (tb_ew z a q) a (q * 4)) := by
  refine tb_gov (own := RX0) (by decide +kernel) rfl (Nat.le_of_ble_eq_true rfl) ?_
  intro p e s m below meth c ls X hr hlk hH hl
  have hl : lv_has ls 3 [(0, .ref (tb_ad g (a))), (1, .int (nI (q)))] := hl
  refine lv_iconst (v := nI (0)) X.1 X.2.1 dX0_emptyPages_0 (by decide +kernel) ?_
  refine lv_istore_n (lv' := [(2, .int (nI (0))), (0, .ref (tb_ad g (a))), (1, .int (nI (q)))]) X.1 X.2.1 dX0_emptyPages_1 rfl hl (by decide) rfl (fun ls hl => ?_)
  have L_2 : ∀ (k : Nat) (i : Nat), i + k = q → ∀ (H : Heap) (locs : List Loc) (ls : Array Slot), tb_H g s.heap (tb_ew z a i) H locs → lv_has ls 3 [(0, .ref (tb_ad g (a))), (1, .int (nI (q))), (2, .int (nI (i)))] → W p l e (tb_rm 0) s m ([.ref (tb_ad g a), .int (nI q)] : List Value).toArray below meth c H locs 0 0 (MQ below (va_Qv (fun u9 => u9 = (tb_ec (tb_ew z a q) a (q * 4))) (tb_B g) (tb_A g)) ([.ref (tb_ad g a), .int (nI q)] : List Value).toArray s 0 0 (tb_A g)) (F0 m 2 ls []) := by
    intro k
    induction k with
    | zero =>
      intro i hik H locs ls hH hl
      refine lv_iload_n X.1 X.2.1 dX0_emptyPages_2 rfl (lv_at hl 2 rfl) ?_
      refine lv_iload_n X.1 X.2.1 dX0_emptyPages_3 rfl (lv_at hl 1 rfl) ?_
      refine tb_nge (tgt := 29) X (by omega) (by omega) dX0_emptyPages_4 (by decide) (fun _ => ?_) (fun c => ((by omega) : False).elim)
      refine lv_iconst (v := nI (0)) X.1 X.2.1 dX0_emptyPages_29 (by decide +kernel) ?_
      refine lv_istore_n (lv' := [(2, .int (nI (0))), (0, .ref (tb_ad g (a))), (1, .int (nI (q)))]) X.1 X.2.1 dX0_emptyPages_30 rfl hl (by decide) rfl (fun ls hl => ?_)
      have L_31 : ∀ (k : Nat) (i2 : Nat), i2 + k = q * 4 → ∀ (H : Heap) (locs : List Loc) (ls : Array Slot), tb_H g s.heap (tb_ec (tb_ew z a q) a i2) H locs → lv_has ls 3 [(0, .ref (tb_ad g (a))), (1, .int (nI (q))), (2, .int (nI (i2)))] → W p l e (tb_rm 0) s m ([.ref (tb_ad g a), .int (nI q)] : List Value).toArray below meth c H locs 0 0 (MQ below (va_Qv (fun u9 => u9 = (tb_ec (tb_ew z a q) a (q * 4))) (tb_B g) (tb_A g)) ([.ref (tb_ad g a), .int (nI q)] : List Value).toArray s 0 0 (tb_A g)) (F0 m 31 ls []) := by
        intro k
        induction k with
        | zero =>
          intro i2 hik2 H locs ls hH hl
          refine lv_iload_n X.1 X.2.1 dX0_emptyPages_31 rfl (lv_at hl 2 rfl) ?_
          refine lv_iload_n X.1 X.2.1 dX0_emptyPages_32 rfl (lv_at hl 1 rfl) ?_
          refine lv_iconst (v := nI (4)) X.1 X.2.1 dX0_emptyPages_33 (by decide +kernel) ?_
          refine tb_imulN X dX0_emptyPages_34 ?_
          refine tb_nge (tgt := 59) X (by omega) (by omega) dX0_emptyPages_35 (by decide) (fun _ => ?_) (fun c => ((by omega) : False).elim)
          exact tb_rv X hr hlk hH (by rw [show i2 = q * 4 by omega]) dX0_emptyPages_59
        | succ k ih_31 =>
          intro i2 hik2 H locs ls hH hl
          refine lv_iload_n X.1 X.2.1 dX0_emptyPages_31 rfl (lv_at hl 2 rfl) ?_
          refine lv_iload_n X.1 X.2.1 dX0_emptyPages_32 rfl (lv_at hl 1 rfl) ?_
          refine lv_iconst (v := nI (4)) X.1 X.2.1 dX0_emptyPages_33 (by decide +kernel) ?_
          refine tb_imulN X dX0_emptyPages_34 ?_
          refine tb_nge (tgt := 59) X (by omega) (by omega) dX0_emptyPages_35 (by decide) (fun c => ((by omega) : False).elim) (fun _ => ?_)
          refine lv_iload_n X.1 X.2.1 dX0_emptyPages_38 rfl (lv_at hl 2 rfl) ?_
          refine lv_bipush (v := nI (32)) X.1 X.2.1 dX0_emptyPages_39 (by decide +kernel) ?_
          refine tb_nge (tgt := 59) X (by omega) (by omega) dX0_emptyPages_41 (by decide) (fun c => ((by omega) : False).elim) (fun _ => ?_)
          refine lv_aload_n X.1 X.2.1 dX0_emptyPages_44 rfl (lv_at hl 0 rfl) ?_
          refine tb_get X hH (tb_Ac ha).1 ((tb_Ac ha).2 _ _) rfl inlX0 6 (by decide) wm_51 (v := .ref (tb_ad g (a + 1))) rfl dX0_emptyPages_45 ?_
          refine lv_iload_n X.1 X.2.1 dX0_emptyPages_48 rfl (lv_at hl 2 rfl) ?_
          refine lv_sipush (v := nI (255)) X.1 X.2.1 dX0_emptyPages_49 (by decide +kernel) ?_
          refine tb_ast X hH (tb_iw ha) (i2) rfl (by omega) (by decide) dX0_emptyPages_52 (fun H locs hH => ?_)
          refine lv_iinc (v := nI (i2 + 1)) (lv' := [(2, .int (nI (i2 + 1))), (0, .ref (tb_ad g (a))), (1, .int (nI (q)))]) X.1 X.2.1 dX0_emptyPages_53 hl (k := 2) rfl (nI_add _ _) (by decide) rfl (fun ls hl => ?_)
          refine lv_goto (tgt := 31) X.1 X.2.1 dX0_emptyPages_56 (by decide) ?_
          exact ih_31 (i2 + 1) (by omega) _ _ _ hH (lv_sub hl [1, 2, 0] rfl)
      exact L_31 (q * 4) 0 (by omega) _ _ _ (by rw [show i = q by omega] at hH; exact hH) (lv_sub hl [1, 2, 0] rfl)
    | succ k ih_2 =>
      intro i hik H locs ls hH hl
      refine lv_iload_n X.1 X.2.1 dX0_emptyPages_2 rfl (lv_at hl 2 rfl) ?_
      refine lv_iload_n X.1 X.2.1 dX0_emptyPages_3 rfl (lv_at hl 1 rfl) ?_
      refine tb_nge (tgt := 29) X (by omega) (by omega) dX0_emptyPages_4 (by decide) (fun c => ((by omega) : False).elim) (fun _ => ?_)
      refine lv_iload_n X.1 X.2.1 dX0_emptyPages_7 rfl (lv_at hl 2 rfl) ?_
      refine lv_bipush (v := nI (8)) X.1 X.2.1 dX0_emptyPages_8 (by decide +kernel) ?_
      refine tb_nge (tgt := 29) X (by omega) (by omega) dX0_emptyPages_10 (by decide) (fun c => ((by omega) : False).elim) (fun _ => ?_)
      refine lv_aload_n X.1 X.2.1 dX0_emptyPages_13 rfl (lv_at hl 0 rfl) ?_
      refine tb_get X hH (tb_Ac ha).1 ((tb_Ac ha).2 _ _) rfl inlX0 7 (by decide) wm_52 (v := .ref (tb_ad g (a + 2))) rfl dX0_emptyPages_14 ?_
      refine lv_iload_n X.1 X.2.1 dX0_emptyPages_17 rfl (lv_at hl 2 rfl) ?_
      refine lv_dup2_11 X.1 X.2.1 dX0_emptyPages_18 rfl rfl ?_
      refine tb_ald X hH (tb_iv ha) (i) rfl (by omega) (by decide) dX0_emptyPages_19 ?_
      refine lv_iconst (v := nI (1)) X.1 X.2.1 dX0_emptyPages_20 (by decide +kernel) ?_
      refine lv_iadd X.1 X.2.1 dX0_emptyPages_21 ?_
      refine tb_ast X hH (tb_iv ha) (i) rfl (by omega) (by decide) dX0_emptyPages_22 (fun H locs hH => ?_)
      refine lv_iinc (v := nI (i + 1)) (lv' := [(2, .int (nI (i + 1))), (0, .ref (tb_ad g (a))), (1, .int (nI (q)))]) X.1 X.2.1 dX0_emptyPages_23 hl (k := 2) rfl (nI_add _ _) (by decide) rfl (fun ls hl => ?_)
      refine lv_goto (tgt := 2) X.1 X.2.1 dX0_emptyPages_26 (by decide) ?_
      exact ih_2 (i + 1) (by omega) _ _ _ hH (lv_sub hl [1, 2, 0] rfl)
  exact L_2 q 0 (by omega) _ _ _ hH (lv_sub hl [1, 2, 0] rfl)
def sz_X0_copyFrom (z : tb_M) (a : Nat) (b : Nat) : tb_M := tb_cp (tb_cp (tb_up (tb_up (tb_up (tb_up (tb_up (tb_up z a 0 (z b 0)) a 1 ((tb_up z a 0 (z b 0)) b 1)) a 2 ((tb_up (tb_up z a 0 (z b 0)) a 1 ((tb_up z a 0 (z b 0)) b 1)) b 2)) a 3 ((tb_up (tb_up (tb_up z a 0 (z b 0)) a 1 ((tb_up z a 0 (z b 0)) b 1)) a 2 ((tb_up (tb_up z a 0 (z b 0)) a 1 ((tb_up z a 0 (z b 0)) b 1)) b 2)) b 3)) a 4 ((tb_up (tb_up (tb_up (tb_up z a 0 (z b 0)) a 1 ((tb_up z a 0 (z b 0)) b 1)) a 2 ((tb_up (tb_up z a 0 (z b 0)) a 1 ((tb_up z a 0 (z b 0)) b 1)) b 2)) a 3 ((tb_up (tb_up (tb_up z a 0 (z b 0)) a 1 ((tb_up z a 0 (z b 0)) b 1)) a 2 ((tb_up (tb_up z a 0 (z b 0)) a 1 ((tb_up z a 0 (z b 0)) b 1)) b 2)) b 3)) b 4)) a 5 ((tb_up (tb_up (tb_up (tb_up (tb_up z a 0 (z b 0)) a 1 ((tb_up z a 0 (z b 0)) b 1)) a 2 ((tb_up (tb_up z a 0 (z b 0)) a 1 ((tb_up z a 0 (z b 0)) b 1)) b 2)) a 3 ((tb_up (tb_up (tb_up z a 0 (z b 0)) a 1 ((tb_up z a 0 (z b 0)) b 1)) a 2 ((tb_up (tb_up z a 0 (z b 0)) a 1 ((tb_up z a 0 (z b 0)) b 1)) b 2)) b 3)) a 4 ((tb_up (tb_up (tb_up (tb_up z a 0 (z b 0)) a 1 ((tb_up z a 0 (z b 0)) b 1)) a 2 ((tb_up (tb_up z a 0 (z b 0)) a 1 ((tb_up z a 0 (z b 0)) b 1)) b 2)) a 3 ((tb_up (tb_up (tb_up z a 0 (z b 0)) a 1 ((tb_up z a 0 (z b 0)) b 1)) a 2 ((tb_up (tb_up z a 0 (z b 0)) a 1 ((tb_up z a 0 (z b 0)) b 1)) b 2)) b 3)) b 4)) b 5)) (b + 1) (a + 1) 32) (b + 2) (a + 2) 8
set_option maxHeartbeats 4000000 in
set_option maxRecDepth 100000 in
theorem c_X0_copyFrom (l : Launch) (g : tb_G) (z : tb_M) (a : Nat) (ha : tb_isA a) (b : Nat) (hb : tb_isA b) : tb_Mv l yX0_copyFrom cX0_copyFrom 2 1 g z [.ref (tb_ad g a), .ref (tb_ad g b)] (sz_X0_copyFrom z a b) := by
  refine tb_gov (own := RX0) (by decide +kernel) rfl (Nat.le_of_ble_eq_true rfl) ?_
  intro p e s m below meth c ls X hr hlk hH hl
  have hl : lv_has ls 2 [(0, .ref (tb_ad g (a))), (1, .ref (tb_ad g (b)))] := hl
  refine lv_aload_n X.1 X.2.1 dX0_copyFrom_0 rfl (lv_at hl 0 rfl) ?_
  refine lv_aload_n X.1 X.2.1 dX0_copyFrom_1 rfl (lv_at hl 1 rfl) ?_
  refine tb_get X hH (tb_Ac hb).1 ((tb_Ac hb).2 _ _) rfl inlX0 0 (by decide) wm_50 (v := .int (z b 0)) rfl dX0_copyFrom_2 ?_
  refine tb_putA X hH ha 0 (by decide) wm_50 dX0_copyFrom_5 (fun H locs hH => ?_)
  refine lv_aload_n X.1 X.2.1 dX0_copyFrom_8 rfl (lv_at hl 0 rfl) ?_
  refine lv_aload_n X.1 X.2.1 dX0_copyFrom_9 rfl (lv_at hl 1 rfl) ?_
  refine tb_get X hH (tb_Ac hb).1 ((tb_Ac hb).2 _ _) rfl inlX0 1 (by decide) wm_68 (v := .int ((tb_up z a 0 (z b 0)) b 1)) rfl dX0_copyFrom_10 ?_
  refine tb_putA X hH ha 1 (by decide) wm_68 dX0_copyFrom_13 (fun H locs hH => ?_)
  refine lv_aload_n X.1 X.2.1 dX0_copyFrom_16 rfl (lv_at hl 0 rfl) ?_
  refine lv_aload_n X.1 X.2.1 dX0_copyFrom_17 rfl (lv_at hl 1 rfl) ?_
  refine tb_get X hH (tb_Ac hb).1 ((tb_Ac hb).2 _ _) rfl inlX0 2 (by decide) wm_69 (v := .int ((tb_up (tb_up z a 0 (z b 0)) a 1 ((tb_up z a 0 (z b 0)) b 1)) b 2)) rfl dX0_copyFrom_18 ?_
  refine tb_putA X hH ha 2 (by decide) wm_69 dX0_copyFrom_21 (fun H locs hH => ?_)
  refine lv_aload_n X.1 X.2.1 dX0_copyFrom_24 rfl (lv_at hl 0 rfl) ?_
  refine lv_aload_n X.1 X.2.1 dX0_copyFrom_25 rfl (lv_at hl 1 rfl) ?_
  refine tb_get X hH (tb_Ac hb).1 ((tb_Ac hb).2 _ _) rfl inlX0 3 (by decide) wm_63 (v := .int ((tb_up (tb_up (tb_up z a 0 (z b 0)) a 1 ((tb_up z a 0 (z b 0)) b 1)) a 2 ((tb_up (tb_up z a 0 (z b 0)) a 1 ((tb_up z a 0 (z b 0)) b 1)) b 2)) b 3)) rfl dX0_copyFrom_26 ?_
  refine tb_putA X hH ha 3 (by decide) wm_63 dX0_copyFrom_29 (fun H locs hH => ?_)
  refine lv_aload_n X.1 X.2.1 dX0_copyFrom_32 rfl (lv_at hl 0 rfl) ?_
  refine lv_aload_n X.1 X.2.1 dX0_copyFrom_33 rfl (lv_at hl 1 rfl) ?_
  refine tb_get X hH (tb_Ac hb).1 ((tb_Ac hb).2 _ _) rfl inlX0 4 (by decide) wm_70 (v := .int ((tb_up (tb_up (tb_up (tb_up z a 0 (z b 0)) a 1 ((tb_up z a 0 (z b 0)) b 1)) a 2 ((tb_up (tb_up z a 0 (z b 0)) a 1 ((tb_up z a 0 (z b 0)) b 1)) b 2)) a 3 ((tb_up (tb_up (tb_up z a 0 (z b 0)) a 1 ((tb_up z a 0 (z b 0)) b 1)) a 2 ((tb_up (tb_up z a 0 (z b 0)) a 1 ((tb_up z a 0 (z b 0)) b 1)) b 2)) b 3)) b 4)) rfl dX0_copyFrom_34 ?_
  refine tb_putA X hH ha 4 (by decide) wm_70 dX0_copyFrom_37 (fun H locs hH => ?_)
  refine lv_aload_n X.1 X.2.1 dX0_copyFrom_40 rfl (lv_at hl 0 rfl) ?_
  refine lv_aload_n X.1 X.2.1 dX0_copyFrom_41 rfl (lv_at hl 1 rfl) ?_
  refine tb_get X hH (tb_Ac hb).1 ((tb_Ac hb).2 _ _) rfl inlX0 5 (by decide) wm_71 (v := .int ((tb_up (tb_up (tb_up (tb_up (tb_up z a 0 (z b 0)) a 1 ((tb_up z a 0 (z b 0)) b 1)) a 2 ((tb_up (tb_up z a 0 (z b 0)) a 1 ((tb_up z a 0 (z b 0)) b 1)) b 2)) a 3 ((tb_up (tb_up (tb_up z a 0 (z b 0)) a 1 ((tb_up z a 0 (z b 0)) b 1)) a 2 ((tb_up (tb_up z a 0 (z b 0)) a 1 ((tb_up z a 0 (z b 0)) b 1)) b 2)) b 3)) a 4 ((tb_up (tb_up (tb_up (tb_up z a 0 (z b 0)) a 1 ((tb_up z a 0 (z b 0)) b 1)) a 2 ((tb_up (tb_up z a 0 (z b 0)) a 1 ((tb_up z a 0 (z b 0)) b 1)) b 2)) a 3 ((tb_up (tb_up (tb_up z a 0 (z b 0)) a 1 ((tb_up z a 0 (z b 0)) b 1)) a 2 ((tb_up (tb_up z a 0 (z b 0)) a 1 ((tb_up z a 0 (z b 0)) b 1)) b 2)) b 3)) b 4)) b 5)) rfl dX0_copyFrom_42 ?_
  refine tb_putA X hH ha 5 (by decide) wm_71 dX0_copyFrom_45 (fun H locs hH => ?_)
  refine lv_aload_n X.1 X.2.1 dX0_copyFrom_48 rfl (lv_at hl 1 rfl) ?_
  refine tb_get X hH (tb_Ac hb).1 ((tb_Ac hb).2 _ _) rfl inlX0 6 (by decide) wm_51 (v := .ref (tb_ad g (b + 1))) rfl dX0_copyFrom_49 ?_
  refine lv_iconst (v := nI (0)) X.1 X.2.1 dX0_copyFrom_52 (by decide +kernel) ?_
  refine lv_aload_n X.1 X.2.1 dX0_copyFrom_53 rfl (lv_at hl 0 rfl) ?_
  refine tb_get X hH (tb_Ac ha).1 ((tb_Ac ha).2 _ _) rfl inlX0 6 (by decide) wm_51 (v := .ref (tb_ad g (a + 1))) rfl dX0_copyFrom_54 ?_
  refine lv_iconst (v := nI (0)) X.1 X.2.1 dX0_copyFrom_57 (by decide +kernel) ?_
  refine lv_bipush (v := nI (32)) X.1 X.2.1 dX0_copyFrom_58 (by decide +kernel) ?_
  refine tb_acp X hH hl.1 (tb_iw hb) (tb_iw ha) 32 (by decide) (by decide) (by decide) wm_146 wm_135 wm_136 wm_137 (by decide) (Nat.le_of_ble_eq_true rfl) dX0_copyFrom_60 (fun H locs hH => ?_)
  refine lv_aload_n X.1 X.2.1 dX0_copyFrom_63 rfl (lv_at hl 1 rfl) ?_
  refine tb_get X hH (tb_Ac hb).1 ((tb_Ac hb).2 _ _) rfl inlX0 7 (by decide) wm_52 (v := .ref (tb_ad g (b + 2))) rfl dX0_copyFrom_64 ?_
  refine lv_iconst (v := nI (0)) X.1 X.2.1 dX0_copyFrom_67 (by decide +kernel) ?_
  refine lv_aload_n X.1 X.2.1 dX0_copyFrom_68 rfl (lv_at hl 0 rfl) ?_
  refine tb_get X hH (tb_Ac ha).1 ((tb_Ac ha).2 _ _) rfl inlX0 7 (by decide) wm_52 (v := .ref (tb_ad g (a + 2))) rfl dX0_copyFrom_69 ?_
  refine lv_iconst (v := nI (0)) X.1 X.2.1 dX0_copyFrom_72 (by decide +kernel) ?_
  refine lv_bipush (v := nI (8)) X.1 X.2.1 dX0_copyFrom_73 (by decide +kernel) ?_
  refine tb_acp X hH hl.1 (tb_iv hb) (tb_iv ha) 8 (by decide) (by decide) (by decide) wm_146 wm_135 wm_136 wm_137 (by decide) (Nat.le_of_ble_eq_true rfl) dX0_copyFrom_75 (fun H locs hH => ?_)
  exact tb_rv X hr hlk hH (by rw [sz_X0_copyFrom]) dX0_copyFrom_78
end
section
set_option maxHeartbeats 4000000 in
set_option maxRecDepth 100000 in
theorem c_X4_indexOf (l : Launch) (g : tb_G) (z : tb_M) (q : Nat) (hq : tb_isS q) (b : Nat) (al : Nat) (hal : z q 0 = nI al) (hal2 : al < 2 ^ 30) (hb : b + 1 ≤ al) : tb_Mi (.int) l yX4_indexOf cX4_indexOf 2 1 g z [.ref (tb_ad g q), .int (nI b)] (nI ((((al - 1) - b) % 12))) (z) := by
  refine tb_goi (own := RX4) (by decide +kernel) rfl (Nat.le_of_ble_eq_true rfl) ?_
  intro p e s m below meth c ls X hr hlk hH hl
  have hl : lv_has ls 2 [(0, .ref (tb_ad g (q))), (1, .int (nI (b)))] := hl
  refine lv_aload_n X.1 X.2.1 dX4_indexOf_0 rfl (lv_at hl 0 rfl) ?_
  refine tb_get X hH (tb_Sc hq).1 ((tb_Sc hq).2 _ _) rfl inlX4 0 (by decide) wm_151 (v := .int (z q 0)) rfl dX4_indexOf_1 ?_
  refine tb_top (x2 := nI (al)) (hal) ?_
  refine lv_iconst (v := nI (1)) X.1 X.2.1 dX4_indexOf_4 (by decide +kernel) ?_
  refine tb_isubN X (by omega) dX4_indexOf_5 ?_
  refine lv_iload_n X.1 X.2.1 dX4_indexOf_6 rfl (lv_at hl 1 rfl) ?_
  refine tb_isubN X (by omega) dX4_indexOf_7 ?_
  refine lv_bipush (v := nI (12)) X.1 X.2.1 dX4_indexOf_8 (by decide +kernel) ?_
  refine tb_cSi X hH hl.1 (c_J9_floorMod_7cf53 l g z ((al - 1) - b) 12 (by omega) (by decide) (by decide)) ky_J9_floorMod_7cf53.1 ky_J9_floorMod_7cf53.2 wm_396 rfl rfl (Nat.le_of_ble_eq_true rfl) ⟨by decide, by decide⟩ ⟨by decide, by decide⟩ dX4_indexOf_10 (fun H locs hH => ?_)
  exact tb_ri X hr hlk hH ⟨rfl, rfl⟩ dX4_indexOf_13
def sz_X4_copyFrom (z : tb_M) (q : Nat) (w : Nat) : tb_M := tb_cp (tb_cp (tb_cp (tb_up (tb_up (tb_up z q 0 (z w 0)) q 1 ((tb_up z q 0 (z w 0)) w 1)) q 2 ((tb_up (tb_up z q 0 (z w 0)) q 1 ((tb_up z q 0 (z w 0)) w 1)) w 2)) (w + 1) (q + 1) 12) (w + 2) (q + 2) 12) (w + 3) (q + 3) 12
set_option maxHeartbeats 4000000 in
set_option maxRecDepth 100000 in
theorem c_X4_copyFrom (l : Launch) (g : tb_G) (z : tb_M) (q : Nat) (hq : tb_isS q) (w : Nat) (hw : tb_isS w) : tb_Mv l yX4_copyFrom cX4_copyFrom 2 1 g z [.ref (tb_ad g q), .ref (tb_ad g w)] (sz_X4_copyFrom z q w) := by
  refine tb_gov (own := RX4) (by decide +kernel) rfl (Nat.le_of_ble_eq_true rfl) ?_
  intro p e s m below meth c ls X hr hlk hH hl
  have hl : lv_has ls 2 [(0, .ref (tb_ad g (q))), (1, .ref (tb_ad g (w)))] := hl
  refine lv_aload_n X.1 X.2.1 dX4_copyFrom_0 rfl (lv_at hl 0 rfl) ?_
  refine lv_aload_n X.1 X.2.1 dX4_copyFrom_1 rfl (lv_at hl 1 rfl) ?_
  refine tb_get X hH (tb_Sc hw).1 ((tb_Sc hw).2 _ _) rfl inlX4 0 (by decide) wm_151 (v := .int (z w 0)) rfl dX4_copyFrom_2 ?_
  refine tb_putS X hH hq 0 (by decide) wm_151 dX4_copyFrom_5 (fun H locs hH => ?_)
  refine lv_aload_n X.1 X.2.1 dX4_copyFrom_8 rfl (lv_at hl 0 rfl) ?_
  refine lv_aload_n X.1 X.2.1 dX4_copyFrom_9 rfl (lv_at hl 1 rfl) ?_
  refine tb_get X hH (tb_Sc hw).1 ((tb_Sc hw).2 _ _) rfl inlX4 1 (by decide) wm_152 (v := .int ((tb_up z q 0 (z w 0)) w 1)) rfl dX4_copyFrom_10 ?_
  refine tb_putS X hH hq 1 (by decide) wm_152 dX4_copyFrom_13 (fun H locs hH => ?_)
  refine lv_aload_n X.1 X.2.1 dX4_copyFrom_16 rfl (lv_at hl 0 rfl) ?_
  refine lv_aload_n X.1 X.2.1 dX4_copyFrom_17 rfl (lv_at hl 1 rfl) ?_
  refine tb_get X hH (tb_Sc hw).1 ((tb_Sc hw).2 _ _) rfl inlX4 2 (by decide) wm_153 (v := .int ((tb_up (tb_up z q 0 (z w 0)) q 1 ((tb_up z q 0 (z w 0)) w 1)) w 2)) rfl dX4_copyFrom_18 ?_
  refine tb_putS X hH hq 2 (by decide) wm_153 dX4_copyFrom_21 (fun H locs hH => ?_)
  refine lv_aload_n X.1 X.2.1 dX4_copyFrom_24 rfl (lv_at hl 1 rfl) ?_
  refine tb_get X hH (tb_Sc hw).1 ((tb_Sc hw).2 _ _) rfl inlX4 3 (by decide) wm_56 (v := .ref (tb_ad g (w + 1))) rfl dX4_copyFrom_25 ?_
  refine lv_iconst (v := nI (0)) X.1 X.2.1 dX4_copyFrom_28 (by decide +kernel) ?_
  refine lv_aload_n X.1 X.2.1 dX4_copyFrom_29 rfl (lv_at hl 0 rfl) ?_
  refine tb_get X hH (tb_Sc hq).1 ((tb_Sc hq).2 _ _) rfl inlX4 3 (by decide) wm_56 (v := .ref (tb_ad g (q + 1))) rfl dX4_copyFrom_30 ?_
  refine lv_iconst (v := nI (0)) X.1 X.2.1 dX4_copyFrom_33 (by decide +kernel) ?_
  refine lv_bipush (v := nI (12)) X.1 X.2.1 dX4_copyFrom_34 (by decide +kernel) ?_
  refine tb_acp X hH hl.1 (tb_s1 hw) (tb_s1 hq) 12 (by decide) (by decide) (by decide) wm_154 wm_135 wm_136 wm_137 (by decide) (Nat.le_of_ble_eq_true rfl) dX4_copyFrom_36 (fun H locs hH => ?_)
  refine lv_aload_n X.1 X.2.1 dX4_copyFrom_39 rfl (lv_at hl 1 rfl) ?_
  refine tb_get X hH (tb_Sc hw).1 ((tb_Sc hw).2 _ _) rfl inlX4 4 (by decide) wm_57 (v := .ref (tb_ad g (w + 2))) rfl dX4_copyFrom_40 ?_
  refine lv_iconst (v := nI (0)) X.1 X.2.1 dX4_copyFrom_43 (by decide +kernel) ?_
  refine lv_aload_n X.1 X.2.1 dX4_copyFrom_44 rfl (lv_at hl 0 rfl) ?_
  refine tb_get X hH (tb_Sc hq).1 ((tb_Sc hq).2 _ _) rfl inlX4 4 (by decide) wm_57 (v := .ref (tb_ad g (q + 2))) rfl dX4_copyFrom_45 ?_
  refine lv_iconst (v := nI (0)) X.1 X.2.1 dX4_copyFrom_48 (by decide +kernel) ?_
  refine lv_bipush (v := nI (12)) X.1 X.2.1 dX4_copyFrom_49 (by decide +kernel) ?_
  refine tb_acp X hH hl.1 (tb_s2 hw) (tb_s2 hq) 12 (by decide) (by decide) (by decide) wm_154 wm_135 wm_136 wm_137 (by decide) (Nat.le_of_ble_eq_true rfl) dX4_copyFrom_51 (fun H locs hH => ?_)
  refine lv_aload_n X.1 X.2.1 dX4_copyFrom_54 rfl (lv_at hl 1 rfl) ?_
  refine tb_get X hH (tb_Sc hw).1 ((tb_Sc hw).2 _ _) rfl inlX4 5 (by decide) wm_58 (v := .ref (tb_ad g (w + 3))) rfl dX4_copyFrom_55 ?_
  refine lv_iconst (v := nI (0)) X.1 X.2.1 dX4_copyFrom_58 (by decide +kernel) ?_
  refine lv_aload_n X.1 X.2.1 dX4_copyFrom_59 rfl (lv_at hl 0 rfl) ?_
  refine tb_get X hH (tb_Sc hq).1 ((tb_Sc hq).2 _ _) rfl inlX4 5 (by decide) wm_58 (v := .ref (tb_ad g (q + 3))) rfl dX4_copyFrom_60 ?_
  refine lv_iconst (v := nI (0)) X.1 X.2.1 dX4_copyFrom_63 (by decide +kernel) ?_
  refine lv_bipush (v := nI (12)) X.1 X.2.1 dX4_copyFrom_64 (by decide +kernel) ?_
  refine tb_acp X hH hl.1 (tb_s3 hw) (tb_s3 hq) 12 (by decide) (by decide) (by decide) wm_154 wm_135 wm_136 wm_137 (by decide) (Nat.le_of_ble_eq_true rfl) dX4_copyFrom_66 (fun H locs hH => ?_)
  exact tb_rv X hr hlk hH (by rw [sz_X4_copyFrom]) dX4_copyFrom_69
def sz_X4_add_m1 (z : tb_M) (q : Nat) (x : Nat) (w : Int32) (y : Int32) (al : Nat) : tb_M := if w = (nI (1)) then (tb_up (tb_up (tb_up (tb_up (tb_up (tb_up z q 0 (nI (al + 1))) q 2 (if nI (12) < ((tb_up z q 0 (nI (al + 1))) q 2) + (nI (1)) then nI (12) else ((tb_up z q 0 (nI (al + 1))) q 2) + (nI (1)))) (q + 1) (al % 12) (nI (x))) (q + 2) (al % 12) w) (q + 3) (al % 12) y) q 1 (((tb_up (tb_up (tb_up (tb_up (tb_up z q 0 (nI (al + 1))) q 2 (if nI (12) < ((tb_up z q 0 (nI (al + 1))) q 2) + (nI (1)) then nI (12) else ((tb_up z q 0 (nI (al + 1))) q 2) + (nI (1)))) (q + 1) (al % 12) (nI (x))) (q + 2) (al % 12) w) (q + 3) (al % 12) y) q 1) + (nI (1)))) else (tb_up (tb_up (tb_up (tb_up (tb_up z q 0 (nI (al + 1))) q 2 (if nI (12) < ((tb_up z q 0 (nI (al + 1))) q 2) + (nI (1)) then nI (12) else ((tb_up z q 0 (nI (al + 1))) q 2) + (nI (1)))) (q + 1) (al % 12) (nI (x))) (q + 2) (al % 12) w) (q + 3) (al % 12) y)
set_option maxHeartbeats 4000000 in
set_option maxRecDepth 100000 in
theorem c_X4_add (l : Launch) (g : tb_G) (z : tb_M) (q : Nat) (hq : tb_isS q) (x : Nat) (w : Int32) (y : Int32) (al : Nat) (hal : z q 0 = nI al) (hal2 : al + 1 < 2 ^ 30) : tb_Mv l yX4_add cX4_add 5 2 g z [.ref (tb_ad g q), .int (nI x), .int w, .int y] (sz_X4_add_m1 z q x w y al) := by
  refine tb_gov (own := RX4) (by decide +kernel) rfl (Nat.le_of_ble_eq_true rfl) ?_
  intro p e s m below meth c ls X hr hlk hH hl
  have hl : lv_has ls 5 [(0, .ref (tb_ad g (q))), (1, .int (nI (x))), (2, .int (w)), (3, .int (y))] := hl
  refine lv_aload_n X.1 X.2.1 dX4_add_0 rfl (lv_at hl 0 rfl) ?_
  refine lv_dup X.1 X.2.1 dX4_add_1 rfl ?_
  refine tb_get X hH (tb_Sc hq).1 ((tb_Sc hq).2 _ _) rfl inlX4 0 (by decide) wm_151 (v := .int (z q 0)) rfl dX4_add_2 ?_
  refine tb_top (x2 := nI (al)) (hal) ?_
  refine lv_iconst (v := nI (1)) X.1 X.2.1 dX4_add_5 (by decide +kernel) ?_
  refine tb_iaddN X dX4_add_6 ?_
  refine tb_putS X hH hq 0 (by decide) wm_151 dX4_add_7 (fun H locs hH => ?_)
  refine lv_aload_n X.1 X.2.1 dX4_add_10 rfl (lv_at hl 0 rfl) ?_
  refine lv_aload_n X.1 X.2.1 dX4_add_11 rfl (lv_at hl 0 rfl) ?_
  refine tb_get X hH (tb_Sc hq).1 ((tb_Sc hq).2 _ _) rfl inlX4 2 (by decide) wm_153 (v := .int ((tb_up z q 0 (nI (al + 1))) q 2)) rfl dX4_add_12 ?_
  refine lv_iconst (v := nI (1)) X.1 X.2.1 dX4_add_15 (by decide +kernel) ?_
  refine lv_iadd X.1 X.2.1 dX4_add_16 ?_
  refine lv_bipush (v := nI (12)) X.1 X.2.1 dX4_add_17 (by decide +kernel) ?_
  refine tb_cmin X hl.1 wm_391 wm_123 wm_124 wm_125 (by decide) (Nat.le_of_ble_eq_true rfl) ⟨by decide, by decide⟩ dX4_add_19 ?_
  refine tb_putS X hH hq 2 (by decide) wm_153 dX4_add_22 (fun H locs hH => ?_)
  refine lv_aload_n X.1 X.2.1 dX4_add_25 rfl (lv_at hl 0 rfl) ?_
  refine lv_iconst (v := nI (0)) X.1 X.2.1 dX4_add_26 (by decide +kernel) ?_
  refine tb_cVi X hH hl.1 (c_X4_indexOf l g (tb_up (tb_up z q 0 (nI (al + 1))) q 2 (if nI (12) < ((tb_up z q 0 (nI (al + 1))) q 2) + (nI (1)) then nI (12) else ((tb_up z q 0 (nI (al + 1))) q 2) + (nI (1)))) q hq 0 (al + 1) (by rw [tb_up_j _ _ _ (by decide), tb_up_s]) (by omega) (by omega)) ky_X4_indexOf.1 ky_X4_indexOf.2 wm_392 (tb_oS hq) rfl rfl (Nat.le_of_ble_eq_true rfl) ⟨by decide, by decide⟩ ⟨by decide, by decide⟩ dX4_add_27 (fun H locs hH => ?_)
  refine tb_top (x2 := nI (al % 12)) (rfl) ?_
  refine lv_istore (lv' := [(4, .int (nI (al % 12))), (0, .ref (tb_ad g (q))), (1, .int (nI (x))), (2, .int (w)), (3, .int (y))]) X.1 X.2.1 dX4_add_30 hl (by decide) rfl (fun ls hl => ?_)
  refine lv_aload_n X.1 X.2.1 dX4_add_32 rfl (lv_at hl 1 rfl) ?_
  refine tb_get X hH (tb_Sc hq).1 ((tb_Sc hq).2 _ _) rfl inlX4 3 (by decide) wm_56 (v := .ref (tb_ad g (q + 1))) rfl dX4_add_33 ?_
  refine lv_iload X.1 X.2.1 dX4_add_36 (lv_at hl 0 rfl) ?_
  refine lv_iload_n X.1 X.2.1 dX4_add_38 rfl (lv_at hl 2 rfl) ?_
  refine tb_ast X hH (tb_s1 hq) (al % 12) rfl (by omega) (by decide) dX4_add_39 (fun H locs hH => ?_)
  refine lv_aload_n X.1 X.2.1 dX4_add_40 rfl (lv_at hl 1 rfl) ?_
  refine tb_get X hH (tb_Sc hq).1 ((tb_Sc hq).2 _ _) rfl inlX4 4 (by decide) wm_57 (v := .ref (tb_ad g (q + 2))) rfl dX4_add_41 ?_
  refine lv_iload X.1 X.2.1 dX4_add_44 (lv_at hl 0 rfl) ?_
  refine lv_iload_n X.1 X.2.1 dX4_add_46 rfl (lv_at hl 3 rfl) ?_
  refine tb_ast X hH (tb_s2 hq) (al % 12) rfl (by omega) (by decide) dX4_add_47 (fun H locs hH => ?_)
  refine lv_aload_n X.1 X.2.1 dX4_add_48 rfl (lv_at hl 1 rfl) ?_
  refine tb_get X hH (tb_Sc hq).1 ((tb_Sc hq).2 _ _) rfl inlX4 5 (by decide) wm_58 (v := .ref (tb_ad g (q + 3))) rfl dX4_add_49 ?_
  refine lv_iload X.1 X.2.1 dX4_add_52 (lv_at hl 0 rfl) ?_
  refine lv_iload_n X.1 X.2.1 dX4_add_54 rfl (lv_at hl 4 rfl) ?_
  refine tb_ast X hH (tb_s3 hq) (al % 12) rfl (by omega) (by decide) dX4_add_55 (fun H locs hH => ?_)
  refine lv_iload_n X.1 X.2.1 dX4_add_56 rfl (lv_at hl 3 rfl) ?_
  refine lv_iconst (v := nI (1)) X.1 X.2.1 dX4_add_57 (by decide +kernel) ?_
  have J_1 : ∀ (H : Heap) (locs : List Loc) (ls : Array Slot) (zq : tb_M), zq = (if w = (nI (1)) then (tb_up (tb_up (tb_up (tb_up (tb_up (tb_up z q 0 (nI (al + 1))) q 2 (if nI (12) < ((tb_up z q 0 (nI (al + 1))) q 2) + (nI (1)) then nI (12) else ((tb_up z q 0 (nI (al + 1))) q 2) + (nI (1)))) (q + 1) (al % 12) (nI (x))) (q + 2) (al % 12) w) (q + 3) (al % 12) y) q 1 (((tb_up (tb_up (tb_up (tb_up (tb_up z q 0 (nI (al + 1))) q 2 (if nI (12) < ((tb_up z q 0 (nI (al + 1))) q 2) + (nI (1)) then nI (12) else ((tb_up z q 0 (nI (al + 1))) q 2) + (nI (1)))) (q + 1) (al % 12) (nI (x))) (q + 2) (al % 12) w) (q + 3) (al % 12) y) q 1) + (nI (1)))) else (tb_up (tb_up (tb_up (tb_up (tb_up z q 0 (nI (al + 1))) q 2 (if nI (12) < ((tb_up z q 0 (nI (al + 1))) q 2) + (nI (1)) then nI (12) else ((tb_up z q 0 (nI (al + 1))) q 2) + (nI (1)))) (q + 1) (al % 12) (nI (x))) (q + 2) (al % 12) w) (q + 3) (al % 12) y)) → tb_H g s.heap zq H locs → lv_has ls 5 [(4, .int (nI (al % 12))), (0, .ref (tb_ad g (q))), (1, .int (nI (x))), (2, .int (w)), (3, .int (y))] → W p l e (tb_rm 2) s m ([.ref (tb_ad g q), .int (nI x), .int w, .int y] : List Value).toArray below meth c H locs 0 0 (MQ below (va_Qv (fun u9 => u9 = (sz_X4_add_m1 z q x w y al)) (tb_B g) (tb_A g)) ([.ref (tb_ad g q), .int (nI x), .int w, .int y] : List Value).toArray s 0 0 (tb_A g)) (F0 m 71 ls []) := by
    intro H locs ls zq  ezq  hH hl
    subst ezq
    have hH : tb_H g s.heap (sz_X4_add_m1 z q x w y al) H locs := hH
    exact tb_rv X hr hlk hH rfl dX4_add_71
  refine lv_icmp_ne (tgt := 71) X.1 X.2.1 dX4_add_58 (by decide) (fun c_1 => ?_) (fun c_1 => ?_)
  · exact J_1 _ _ _ _ (by simp only [if_neg c_1]) hH (lv_sub hl [0, 1, 2, 3, 4] rfl)
  · refine lv_aload_n X.1 X.2.1 dX4_add_61 rfl (lv_at hl 1 rfl) ?_
    refine lv_dup X.1 X.2.1 dX4_add_62 rfl ?_
    refine tb_get X hH (tb_Sc hq).1 ((tb_Sc hq).2 _ _) rfl inlX4 1 (by decide) wm_152 (v := .int ((tb_up (tb_up (tb_up (tb_up (tb_up z q 0 (nI (al + 1))) q 2 (if nI (12) < ((tb_up z q 0 (nI (al + 1))) q 2) + (nI (1)) then nI (12) else ((tb_up z q 0 (nI (al + 1))) q 2) + (nI (1)))) (q + 1) (al % 12) (nI (x))) (q + 2) (al % 12) w) (q + 3) (al % 12) y) q 1)) rfl dX4_add_63 ?_
    refine lv_iconst (v := nI (1)) X.1 X.2.1 dX4_add_66 (by decide +kernel) ?_
    refine lv_iadd X.1 X.2.1 dX4_add_67 ?_
    refine tb_putS X hH hq 1 (by decide) wm_152 dX4_add_68 (fun H locs hH => ?_)
    exact J_1 _ _ _ _ (by simp only [if_pos c_1]) hH (lv_sub hl [0, 1, 2, 3, 4] rfl)
set_option maxHeartbeats 4000000 in
set_option maxRecDepth 100000 in
theorem c_X1_areaAt (l : Launch) (g : tb_G) (z : tb_M) (d : Nat) (hd : tb_isD d) (r : Nat) (hr2 : r ≤ 2) : tb_Mr "TrialBoots$Area" l yX1_areaAt cX1_areaAt 2 0 g z [.ref (tb_ad g d), .int (nI r)] (tb_at d r) (z) := by
  refine tb_gor (own := RX1) (by decide +kernel) rfl (Nat.le_of_ble_eq_true rfl) ?_
  intro p e s m below meth c ls X hr hlk hH hl
  have hl : lv_has ls 2 [(0, .ref (tb_ad g (d))), (1, .int (nI (r)))] := hl
  refine lv_iload_n X.1 X.2.1 dX1_areaAt_0 rfl (lv_at hl 1 rfl) ?_
  refine tb_zne (tgt := 9) X (by omega) dX1_areaAt_1 (by decide) (fun c_1 => ?_) (fun c_1 => ?_)
  · refine lv_iload_n X.1 X.2.1 dX1_areaAt_9 rfl (lv_at hl 1 rfl) ?_
    refine lv_iconst (v := nI (1)) X.1 X.2.1 dX1_areaAt_10 (by decide +kernel) ?_
    refine tb_nne (tgt := 21) X (by omega) (by omega) dX1_areaAt_11 (by decide) (fun c_2 => ?_) (fun c_2 => ?_)
    · refine lv_aload_n X.1 X.2.1 dX1_areaAt_21 rfl (lv_at hl 0 rfl) ?_
      refine tb_get X hH (tb_Dc hd).1 ((tb_Dc hd).2 _ _) rfl inlX1 3 (by decide) wm_40 (v := .ref (tb_ad g (d + 8))) rfl dX1_areaAt_22 ?_
      exact tb_rr X hr hlk hH ⟨(by simp [tb_at, c_1, c_2]), rfl⟩ dX1_areaAt_25
    · refine lv_aload_n X.1 X.2.1 dX1_areaAt_14 rfl (lv_at hl 0 rfl) ?_
      refine tb_get X hH (tb_Dc hd).1 ((tb_Dc hd).2 _ _) rfl inlX1 2 (by decide) wm_39 (v := .ref (tb_ad g (d + 5))) rfl dX1_areaAt_15 ?_
      refine lv_goto (tgt := 25) X.1 X.2.1 dX1_areaAt_18 (by decide) ?_
      exact tb_rr X hr hlk hH ⟨(by simp [tb_at, c_1, c_2]), rfl⟩ dX1_areaAt_25
  · refine lv_aload_n X.1 X.2.1 dX1_areaAt_4 rfl (lv_at hl 0 rfl) ?_
    refine tb_get X hH (tb_Dc hd).1 ((tb_Dc hd).2 _ _) rfl inlX1 1 (by decide) wm_38 (v := .ref (tb_ad g (d + 2))) rfl dX1_areaAt_5 ?_
    exact tb_rr X hr hlk hH ⟨(by simp [tb_at, c_1]), rfl⟩ dX1_areaAt_8
def sr_X1_badSlots (z : tb_M) (d : Nat) : Int32 := (tb_b ((z (d + 2) 0) = (nI (4)))) + (tb_b ((z (d + 5) 0) = (nI (4))))
set_option maxHeartbeats 4000000 in
set_option maxRecDepth 100000 in
theorem c_X1_badSlots (l : Launch) (g : tb_G) (z : tb_M) (d : Nat) (hd : tb_isD d) : tb_Mi (.int) l yX1_badSlots cX1_badSlots 1 0 g z [.ref (tb_ad g d)] (sr_X1_badSlots z d) (z) := by
  refine tb_goi (own := RX1) (by decide +kernel) rfl (Nat.le_of_ble_eq_true rfl) ?_
  intro p e s m below meth c ls X hr hlk hH hl
  have hl : lv_has ls 1 [(0, .ref (tb_ad g (d)))] := hl
  refine lv_aload_n X.1 X.2.1 dX1_badSlots_0 rfl (lv_at hl 0 rfl) ?_
  refine tb_get X hH (tb_Dc hd).1 ((tb_Dc hd).2 _ _) rfl inlX1 1 (by decide) wm_38 (v := .ref (tb_ad g (d + 2))) rfl dX1_badSlots_1 ?_
  refine tb_get X hH (tb_Ac (tb_A1 hd)).1 ((tb_Ac (tb_A1 hd)).2 _ _) rfl inlX0 0 (by decide) wm_372 (v := .int (z (d + 2) 0)) rfl dX1_badSlots_4 ?_
  refine lv_iconst (v := nI (4)) X.1 X.2.1 dX1_badSlots_7 (by decide +kernel) ?_
  have J_1 : ∀ (H : Heap) (locs : List Loc) (ls : Array Slot) (vq1 : Int32), vq1 = (tb_b ((z (d + 2) 0) = (nI (4)))) → tb_H g s.heap z H locs → lv_has ls 1 [(0, .ref (tb_ad g (d)))] → W p l e (tb_rm 0) s m ([.ref (tb_ad g d)] : List Value).toArray below meth c H locs 0 0 (MQ below (va_Qi (fun r9 u9 => r9 = sr_X1_badSlots z d ∧ u9 = z) (tb_B g) (tb_A g)) ([.ref (tb_ad g d)] : List Value).toArray s 0 0 (tb_A g)) (F0 m 16 ls [.int vq1]) := by
    intro H locs ls vq1 evq1 hH hl
    subst evq1
    refine lv_aload_n X.1 X.2.1 dX1_badSlots_16 rfl (lv_at hl 0 rfl) ?_
    refine tb_get X hH (tb_Dc hd).1 ((tb_Dc hd).2 _ _) rfl inlX1 2 (by decide) wm_39 (v := .ref (tb_ad g (d + 5))) rfl dX1_badSlots_17 ?_
    refine tb_get X hH (tb_Ac (tb_A2 hd)).1 ((tb_Ac (tb_A2 hd)).2 _ _) rfl inlX0 0 (by decide) wm_372 (v := .int (z (d + 5) 0)) rfl dX1_badSlots_20 ?_
    refine lv_iconst (v := nI (4)) X.1 X.2.1 dX1_badSlots_23 (by decide +kernel) ?_
    have J_2 : ∀ (H : Heap) (locs : List Loc) (ls : Array Slot) (vq1 : Int32), vq1 = (tb_b ((z (d + 5) 0) = (nI (4)))) → tb_H g s.heap z H locs → lv_has ls 1 [(0, .ref (tb_ad g (d)))] → W p l e (tb_rm 0) s m ([.ref (tb_ad g d)] : List Value).toArray below meth c H locs 0 0 (MQ below (va_Qi (fun r9 u9 => r9 = sr_X1_badSlots z d ∧ u9 = z) (tb_B g) (tb_A g)) ([.ref (tb_ad g d)] : List Value).toArray s 0 0 (tb_A g)) (F0 m 32 ls [.int vq1, .int (tb_b ((z (d + 2) 0) = (nI (4))))]) := by
      intro H locs ls vq1 evq1 hH hl
      subst evq1
      refine lv_iadd X.1 X.2.1 dX1_badSlots_32 ?_
      exact tb_ri X hr hlk hH ⟨(by rw [sr_X1_badSlots]), rfl⟩ dX1_badSlots_33
    refine lv_icmp_ne (tgt := 31) X.1 X.2.1 dX1_badSlots_24 (by decide) (fun c_2 => ?_) (fun c_2 => ?_)
    · refine lv_iconst (v := nI (0)) X.1 X.2.1 dX1_badSlots_31 (by decide +kernel) ?_
      exact J_2 _ _ _ _ (tb_b_f c_2).symm hH (lv_sub hl [0] rfl)
    · refine lv_iconst (v := nI (1)) X.1 X.2.1 dX1_badSlots_27 (by decide +kernel) ?_
      refine lv_goto (tgt := 32) X.1 X.2.1 dX1_badSlots_28 (by decide) ?_
      exact J_2 _ _ _ _ (tb_b_t c_2).symm hH (lv_sub hl [0] rfl)
  refine lv_icmp_ne (tgt := 15) X.1 X.2.1 dX1_badSlots_8 (by decide) (fun c_1 => ?_) (fun c_1 => ?_)
  · refine lv_iconst (v := nI (0)) X.1 X.2.1 dX1_badSlots_15 (by decide +kernel) ?_
    exact J_1 _ _ _ _ (tb_b_f c_1).symm hH (lv_sub hl [0] rfl)
  · refine lv_iconst (v := nI (1)) X.1 X.2.1 dX1_badSlots_11 (by decide +kernel) ?_
    refine lv_goto (tgt := 16) X.1 X.2.1 dX1_badSlots_12 (by decide) ?_
    exact J_1 _ _ _ _ (tb_b_t c_1).symm hH (lv_sub hl [0] rfl)
def sr_X1_beginsLeft (z : tb_M) (d : Nat) (r : Nat) (q : Nat) : Int32 := if nI (0) < (z (d + 1) 2) - ((tb_gw (z (((tb_at d r)) + 2)) q)) then (z (d + 1) 2) - ((tb_gw (z (((tb_at d r)) + 2)) q)) else nI (0)
set_option maxHeartbeats 4000000 in
set_option maxRecDepth 100000 in
theorem c_X1_beginsLeft (l : Launch) (g : tb_G) (z : tb_M) (d : Nat) (hd : tb_isD d) (r : Nat) (q : Nat) (hr2 : r ≤ 2) (hq : q ≤ 8) : tb_Mi (.int) l yX1_beginsLeft cX1_beginsLeft 3 2 g z [.ref (tb_ad g d), .int (nI r), .int (nI q)] (sr_X1_beginsLeft z d r q) (z) := by
  refine tb_goi (own := RX1) (by decide +kernel) rfl (Nat.le_of_ble_eq_true rfl) ?_
  intro p e s m below meth c ls X hr hlk hH hl
  have hl : lv_has ls 3 [(0, .ref (tb_ad g (d))), (1, .int (nI (r))), (2, .int (nI (q)))] := hl
  refine lv_iconst (v := nI (0)) X.1 X.2.1 dX1_beginsLeft_0 (by decide +kernel) ?_
  refine lv_aload_n X.1 X.2.1 dX1_beginsLeft_1 rfl (lv_at hl 0 rfl) ?_
  refine tb_get X hH (tb_Dc hd).1 ((tb_Dc hd).2 _ _) rfl inlX1 0 (by decide) wm_34 (v := .ref (tb_ad g (d + 1))) rfl dX1_beginsLeft_2 ?_
  refine lv_iconst (v := nI (2)) X.1 X.2.1 dX1_beginsLeft_5 (by decide +kernel) ?_
  refine tb_ald X hH (tb_iset hd) (2) rfl (by decide) (by decide) dX1_beginsLeft_6 ?_
  refine lv_aload_n X.1 X.2.1 dX1_beginsLeft_7 rfl (lv_at hl 0 rfl) ?_
  refine lv_iload_n X.1 X.2.1 dX1_beginsLeft_8 rfl (lv_at hl 1 rfl) ?_
  refine tb_cVr X hH hl.1 (c_X1_areaAt l g z d hd r (by first | assumption | omega | decide)) ky_X1_areaAt.1 ky_X1_areaAt.2 wm_195 (tb_oD hd) rfl rfl (Nat.le_of_ble_eq_true rfl) ⟨by decide, by decide⟩ ⟨by decide, by decide⟩ dX1_beginsLeft_9 (fun H locs hH => ?_)
  refine lv_iload_n X.1 X.2.1 dX1_beginsLeft_12 rfl (lv_at hl 2 rfl) ?_
  refine tb_cVi X hH hl.1 (c_X0_greatestWear l g z ((tb_at d r)) (tb_isat hd r) q (by first | assumption | omega | decide)) ky_X0_greatestWear.1 ky_X0_greatestWear.2 wm_199 (tb_oA (tb_isat hd r)) rfl rfl (Nat.le_of_ble_eq_true rfl) ⟨by decide, by decide⟩ ⟨by decide, by decide⟩ dX1_beginsLeft_13 (fun H locs hH => ?_)
  refine lv_isub X.1 X.2.1 dX1_beginsLeft_16 ?_
  refine tb_cmax X hl.1 wm_192 wm_193 wm_124 wm_194 (by decide) (Nat.le_of_ble_eq_true rfl) ⟨by decide, by decide⟩ dX1_beginsLeft_17 ?_
  exact tb_ri X hr hlk hH ⟨(by rw [sr_X1_beginsLeft]), rfl⟩ dX1_beginsLeft_20
def sr_X1_newestThatIs (z : tb_M) (d : Nat) (x : Int32) : Nat := if (z (d + 5) 0) = x then (if (z (d + 2) 0) = x then (if (z (d + 5) 1) ≤ (z (d + 2) 1) then (if (z (d + 2) 0) = x then 0 else 2) else 1) else 1) else (if (z (d + 2) 0) = x then 0 else 2)
set_option maxHeartbeats 4000000 in
set_option maxRecDepth 100000 in
theorem c_X1_newestThatIs (l : Launch) (g : tb_G) (z : tb_M) (d : Nat) (hd : tb_isD d) (x : Int32) : tb_Mi (.int) l yX1_newestThatIs cX1_newestThatIs 2 0 g z [.ref (tb_ad g d), .int x] (nI (sr_X1_newestThatIs z d x)) (z) := by
  refine tb_goi (own := RX1) (by decide +kernel) rfl (Nat.le_of_ble_eq_true rfl) ?_
  intro p e s m below meth c ls X hr hlk hH hl
  have hl : lv_has ls 2 [(0, .ref (tb_ad g (d))), (1, .int (x))] := hl
  refine lv_aload_n X.1 X.2.1 dX1_newestThatIs_0 rfl (lv_at hl 0 rfl) ?_
  refine tb_get X hH (tb_Dc hd).1 ((tb_Dc hd).2 _ _) rfl inlX1 2 (by decide) wm_39 (v := .ref (tb_ad g (d + 5))) rfl dX1_newestThatIs_1 ?_
  refine tb_get X hH (tb_Ac (tb_A2 hd)).1 ((tb_Ac (tb_A2 hd)).2 _ _) rfl inlX0 0 (by decide) wm_372 (v := .int (z (d + 5) 0)) rfl dX1_newestThatIs_4 ?_
  refine lv_iload_n X.1 X.2.1 dX1_newestThatIs_7 rfl (lv_at hl 1 rfl) ?_
  refine lv_icmp_ne (tgt := 41) X.1 X.2.1 dX1_newestThatIs_8 (by decide) (fun c_1 => ?_) (fun c_1 => ?_)
  · refine lv_aload_n X.1 X.2.1 dX1_newestThatIs_41 rfl (lv_at hl 0 rfl) ?_
    refine tb_get X hH (tb_Dc hd).1 ((tb_Dc hd).2 _ _) rfl inlX1 1 (by decide) wm_38 (v := .ref (tb_ad g (d + 2))) rfl dX1_newestThatIs_42 ?_
    refine tb_get X hH (tb_Ac (tb_A1 hd)).1 ((tb_Ac (tb_A1 hd)).2 _ _) rfl inlX0 0 (by decide) wm_372 (v := .int (z (d + 2) 0)) rfl dX1_newestThatIs_45 ?_
    refine lv_iload_n X.1 X.2.1 dX1_newestThatIs_48 rfl (lv_at hl 1 rfl) ?_
    have J_1 : ∀ (H : Heap) (locs : List Loc) (ls : Array Slot) (vq1 : Int32), vq1 = (nI (if (z (d + 2) 0) = x then 0 else 2)) → tb_H g s.heap z H locs → lv_has ls 2 [(0, .ref (tb_ad g (d))), (1, .int (x))] → W p l e (tb_rm 0) s m ([.ref (tb_ad g d), .int x] : List Value).toArray below meth c H locs 0 0 (MQ below (va_Qi (fun r9 u9 => r9 = nI (sr_X1_newestThatIs z d x) ∧ u9 = z) (tb_B g) (tb_A g)) ([.ref (tb_ad g d), .int x] : List Value).toArray s 0 0 (tb_A g)) (F0 m 57 ls [.int vq1]) := by
      intro H locs ls vq1 evq1 hH hl
      subst evq1
      exact tb_ri X hr hlk hH ⟨(by rw [sr_X1_newestThatIs]; simp only [if_neg c_1]), rfl⟩ dX1_newestThatIs_57
    refine lv_icmp_ne (tgt := 56) X.1 X.2.1 dX1_newestThatIs_49 (by decide) (fun c_2 => ?_) (fun c_2 => ?_)
    · refine lv_iconst (v := nI (2)) X.1 X.2.1 dX1_newestThatIs_56 (by decide +kernel) ?_
      exact J_1 _ _ _ _ (by simp only [if_neg c_2]) hH (lv_sub hl [0, 1] rfl)
    · refine lv_iconst (v := nI (0)) X.1 X.2.1 dX1_newestThatIs_52 (by decide +kernel) ?_
      refine lv_goto (tgt := 57) X.1 X.2.1 dX1_newestThatIs_53 (by decide) ?_
      exact J_1 _ _ _ _ (by simp only [if_pos c_2]) hH (lv_sub hl [0, 1] rfl)
  · refine lv_aload_n X.1 X.2.1 dX1_newestThatIs_11 rfl (lv_at hl 0 rfl) ?_
    refine tb_get X hH (tb_Dc hd).1 ((tb_Dc hd).2 _ _) rfl inlX1 1 (by decide) wm_38 (v := .ref (tb_ad g (d + 2))) rfl dX1_newestThatIs_12 ?_
    refine tb_get X hH (tb_Ac (tb_A1 hd)).1 ((tb_Ac (tb_A1 hd)).2 _ _) rfl inlX0 0 (by decide) wm_372 (v := .int (z (d + 2) 0)) rfl dX1_newestThatIs_15 ?_
    refine lv_iload_n X.1 X.2.1 dX1_newestThatIs_18 rfl (lv_at hl 1 rfl) ?_
    refine lv_icmp_ne (tgt := 39) X.1 X.2.1 dX1_newestThatIs_19 (by decide) (fun c_3 => ?_) (fun c_3 => ?_)
    · refine lv_iconst (v := nI (1)) X.1 X.2.1 dX1_newestThatIs_39 (by decide +kernel) ?_
      exact tb_ri X hr hlk hH ⟨(by rw [sr_X1_newestThatIs]; simp only [if_pos c_1, if_neg c_3]), rfl⟩ dX1_newestThatIs_40
    · refine lv_aload_n X.1 X.2.1 dX1_newestThatIs_22 rfl (lv_at hl 0 rfl) ?_
      refine tb_get X hH (tb_Dc hd).1 ((tb_Dc hd).2 _ _) rfl inlX1 2 (by decide) wm_39 (v := .ref (tb_ad g (d + 5))) rfl dX1_newestThatIs_23 ?_
      refine tb_get X hH (tb_Ac (tb_A2 hd)).1 ((tb_Ac (tb_A2 hd)).2 _ _) rfl inlX0 1 (by decide) wm_381 (v := .int (z (d + 5) 1)) rfl dX1_newestThatIs_26 ?_
      refine lv_aload_n X.1 X.2.1 dX1_newestThatIs_29 rfl (lv_at hl 0 rfl) ?_
      refine tb_get X hH (tb_Dc hd).1 ((tb_Dc hd).2 _ _) rfl inlX1 1 (by decide) wm_38 (v := .ref (tb_ad g (d + 2))) rfl dX1_newestThatIs_30 ?_
      refine tb_get X hH (tb_Ac (tb_A1 hd)).1 ((tb_Ac (tb_A1 hd)).2 _ _) rfl inlX0 1 (by decide) wm_381 (v := .int (z (d + 2) 1)) rfl dX1_newestThatIs_33 ?_
      refine lv_icmp_le (tgt := 41) X.1 X.2.1 dX1_newestThatIs_36 (by decide) (fun c_4 => ?_) (fun c_4 => ?_)
      · refine lv_aload_n X.1 X.2.1 dX1_newestThatIs_41 rfl (lv_at hl 0 rfl) ?_
        refine tb_get X hH (tb_Dc hd).1 ((tb_Dc hd).2 _ _) rfl inlX1 1 (by decide) wm_38 (v := .ref (tb_ad g (d + 2))) rfl dX1_newestThatIs_42 ?_
        refine tb_get X hH (tb_Ac (tb_A1 hd)).1 ((tb_Ac (tb_A1 hd)).2 _ _) rfl inlX0 0 (by decide) wm_372 (v := .int (z (d + 2) 0)) rfl dX1_newestThatIs_45 ?_
        refine lv_iload_n X.1 X.2.1 dX1_newestThatIs_48 rfl (lv_at hl 1 rfl) ?_
        have J_2 : ∀ (H : Heap) (locs : List Loc) (ls : Array Slot) (vq1 : Int32), vq1 = (nI (if (z (d + 2) 0) = x then 0 else 2)) → tb_H g s.heap z H locs → lv_has ls 2 [(0, .ref (tb_ad g (d))), (1, .int (x))] → W p l e (tb_rm 0) s m ([.ref (tb_ad g d), .int x] : List Value).toArray below meth c H locs 0 0 (MQ below (va_Qi (fun r9 u9 => r9 = nI (sr_X1_newestThatIs z d x) ∧ u9 = z) (tb_B g) (tb_A g)) ([.ref (tb_ad g d), .int x] : List Value).toArray s 0 0 (tb_A g)) (F0 m 57 ls [.int vq1]) := by
          intro H locs ls vq1 evq1 hH hl
          subst evq1
          exact tb_ri X hr hlk hH ⟨(by rw [sr_X1_newestThatIs]; simp only [if_pos c_1, if_pos c_3, if_pos c_4]), rfl⟩ dX1_newestThatIs_57
        refine lv_icmp_ne (tgt := 56) X.1 X.2.1 dX1_newestThatIs_49 (by decide) (fun c_5 => ?_) (fun c_5 => ?_)
        · refine lv_iconst (v := nI (2)) X.1 X.2.1 dX1_newestThatIs_56 (by decide +kernel) ?_
          exact J_2 _ _ _ _ (by simp only [if_neg c_5]) hH (lv_sub hl [0, 1] rfl)
        · refine lv_iconst (v := nI (0)) X.1 X.2.1 dX1_newestThatIs_52 (by decide +kernel) ?_
          refine lv_goto (tgt := 57) X.1 X.2.1 dX1_newestThatIs_53 (by decide) ?_
          exact J_2 _ _ _ _ (by simp only [if_pos c_5]) hH (lv_sub hl [0, 1] rfl)
      · refine lv_iconst (v := nI (1)) X.1 X.2.1 dX1_newestThatIs_39 (by decide +kernel) ?_
        exact tb_ri X hr hlk hH ⟨(by rw [sr_X1_newestThatIs]; simp only [if_pos c_1, if_pos c_3, if_neg c_4]), rfl⟩ dX1_newestThatIs_40
theorem tb_nw_le (z : tb_M) (d : Nat) (x : Int32) : sr_X1_newestThatIs z d x ≤ 2 := by
  unfold sr_X1_newestThatIs
  repeat' split
  all_goals decide
def sr_X1_bestArea (z : tb_M) (d : Nat) : Nat := if ((sr_X1_newestThatIs z d (nI (2)))) = 2 then ((sr_X1_newestThatIs z d (nI (3)))) else ((sr_X1_newestThatIs z d (nI (2))))
set_option maxHeartbeats 4000000 in
set_option maxRecDepth 100000 in
theorem c_X1_bestArea (l : Launch) (g : tb_G) (z : tb_M) (d : Nat) (hd : tb_isD d) : tb_Mi (.int) l yX1_bestArea cX1_bestArea 2 1 g z [.ref (tb_ad g d)] (nI (sr_X1_bestArea z d)) (z) := by
  refine tb_goi (own := RX1) (by decide +kernel) rfl (Nat.le_of_ble_eq_true rfl) ?_
  intro p e s m below meth c ls X hr hlk hH hl
  have hl : lv_has ls 2 [(0, .ref (tb_ad g (d)))] := hl
  refine lv_aload_n X.1 X.2.1 dX1_bestArea_0 rfl (lv_at hl 0 rfl) ?_
  refine lv_iconst (v := nI (2)) X.1 X.2.1 dX1_bestArea_1 (by decide +kernel) ?_
  refine tb_cVi X hH hl.1 (c_X1_newestThatIs l g z d hd (nI (2))) ky_X1_newestThatIs.1 ky_X1_newestThatIs.2 wm_377 (tb_oD hd) rfl rfl (Nat.le_of_ble_eq_true rfl) ⟨by decide, by decide⟩ ⟨by decide, by decide⟩ dX1_bestArea_2 (fun H locs hH => ?_)
  have hb_1 := (tb_nw_le z d (nI (2)))
  refine lv_istore_n (lv' := [(1, .int (nI ((sr_X1_newestThatIs z d (nI (2)))))), (0, .ref (tb_ad g (d)))]) X.1 X.2.1 dX1_bestArea_5 rfl hl (by decide) rfl (fun ls hl => ?_)
  refine lv_iload_n X.1 X.2.1 dX1_bestArea_6 rfl (lv_at hl 0 rfl) ?_
  refine lv_iconst (v := nI (2)) X.1 X.2.1 dX1_bestArea_7 (by decide +kernel) ?_
  have J_1 : ∀ (H : Heap) (locs : List Loc) (ls : Array Slot) (vq1 : Int32), vq1 = (nI (if ((sr_X1_newestThatIs z d (nI (2)))) = 2 then ((sr_X1_newestThatIs z d (nI (3)))) else ((sr_X1_newestThatIs z d (nI (2)))))) → tb_H g s.heap z H locs → lv_has ls 2 [(1, .int (nI ((sr_X1_newestThatIs z d (nI (2)))))), (0, .ref (tb_ad g (d)))] → W p l e (tb_rm 1) s m ([.ref (tb_ad g d)] : List Value).toArray below meth c H locs 0 0 (MQ below (va_Qi (fun r9 u9 => r9 = nI (sr_X1_bestArea z d) ∧ u9 = z) (tb_B g) (tb_A g)) ([.ref (tb_ad g d)] : List Value).toArray s 0 0 (tb_A g)) (F0 m 20 ls [.int vq1]) := by
    intro H locs ls vq1 evq1 hH hl
    subst evq1
    exact tb_ri X hr hlk hH ⟨(by rw [sr_X1_bestArea]), rfl⟩ dX1_bestArea_20
  refine tb_neq (tgt := 15) X (by omega) (by omega) dX1_bestArea_8 (by decide) (fun c_1 => ?_) (fun c_1 => ?_)
  · refine lv_aload_n X.1 X.2.1 dX1_bestArea_15 rfl (lv_at hl 1 rfl) ?_
    refine lv_iconst (v := nI (3)) X.1 X.2.1 dX1_bestArea_16 (by decide +kernel) ?_
    refine tb_cVi X hH hl.1 (c_X1_newestThatIs l g z d hd (nI (3))) ky_X1_newestThatIs.1 ky_X1_newestThatIs.2 wm_377 (tb_oD hd) rfl rfl (Nat.le_of_ble_eq_true rfl) ⟨by decide, by decide⟩ ⟨by decide, by decide⟩ dX1_bestArea_17 (fun H locs hH => ?_)
    have hb_2 := (tb_nw_le z d (nI (3)))
    exact J_1 _ _ _ _ (by simp only [if_pos c_1]) hH (lv_sub hl [0, 1] rfl)
  · refine lv_iload_n X.1 X.2.1 dX1_bestArea_11 rfl (lv_at hl 0 rfl) ?_
    refine lv_goto (tgt := 20) X.1 X.2.1 dX1_bestArea_12 (by decide) ?_
    exact J_1 _ _ _ _ (by simp only [if_neg c_1]) hH (lv_sub hl [0, 1] rfl)
theorem tb_ba_le (z : tb_M) (d : Nat) : sr_X1_bestArea z d ≤ 2 := by
  unfold sr_X1_bestArea
  repeat' split
  all_goals exact tb_nw_le _ _ _
def sz_X1_soundArea (z : tb_M) (d : Nat) : tb_M := if (((tb_sm (z (((tb_at d ((sr_X1_bestArea z d)))) + 1)) (tb_len z ((tb_at d ((sr_X1_bestArea z d))))))) = (z ((tb_at d ((sr_X1_bestArea z d)))) 3)) then z else (if (((tb_sm ((tb_up z ((tb_at d ((sr_X1_bestArea z d)))) 0 (nI (4))) (((tb_at d ((sr_X1_bestArea (tb_up z ((tb_at d ((sr_X1_bestArea z d)))) 0 (nI (4))) d)))) + 1)) (tb_len (tb_up z ((tb_at d ((sr_X1_bestArea z d)))) 0 (nI (4))) ((tb_at d ((sr_X1_bestArea (tb_up z ((tb_at d ((sr_X1_bestArea z d)))) 0 (nI (4))) d))))))) = ((tb_up z ((tb_at d ((sr_X1_bestArea z d)))) 0 (nI (4))) ((tb_at d ((sr_X1_bestArea (tb_up z ((tb_at d ((sr_X1_bestArea z d)))) 0 (nI (4))) d)))) 3)) then (tb_up z ((tb_at d ((sr_X1_bestArea z d)))) 0 (nI (4))) else (tb_up (tb_up z ((tb_at d ((sr_X1_bestArea z d)))) 0 (nI (4))) ((tb_at d ((sr_X1_bestArea (tb_up z ((tb_at d ((sr_X1_bestArea z d)))) 0 (nI (4))) d)))) 0 (nI (4))))
def sr_X1_soundArea (z : tb_M) (d : Nat) : Nat := if (((tb_sm (z (((tb_at d ((sr_X1_bestArea z d)))) + 1)) (tb_len z ((tb_at d ((sr_X1_bestArea z d))))))) = (z ((tb_at d ((sr_X1_bestArea z d)))) 3)) then ((sr_X1_bestArea z d)) else (if (((tb_sm ((tb_up z ((tb_at d ((sr_X1_bestArea z d)))) 0 (nI (4))) (((tb_at d ((sr_X1_bestArea (tb_up z ((tb_at d ((sr_X1_bestArea z d)))) 0 (nI (4))) d)))) + 1)) (tb_len (tb_up z ((tb_at d ((sr_X1_bestArea z d)))) 0 (nI (4))) ((tb_at d ((sr_X1_bestArea (tb_up z ((tb_at d ((sr_X1_bestArea z d)))) 0 (nI (4))) d))))))) = ((tb_up z ((tb_at d ((sr_X1_bestArea z d)))) 0 (nI (4))) ((tb_at d ((sr_X1_bestArea (tb_up z ((tb_at d ((sr_X1_bestArea z d)))) 0 (nI (4))) d)))) 3)) then ((sr_X1_bestArea (tb_up z ((tb_at d ((sr_X1_bestArea z d)))) 0 (nI (4))) d)) else 2)
set_option maxHeartbeats 4000000 in
set_option maxRecDepth 100000 in
theorem c_X1_soundArea (l : Launch) (g : tb_G) (z : tb_M) (d : Nat) (hd : tb_isD d) (hL : ∀ r, tb_okL z (tb_at d r)) : tb_Mi (.int) l yX1_soundArea cX1_soundArea 3 3 g z [.ref (tb_ad g d)] (nI (sr_X1_soundArea z d)) (sz_X1_soundArea z d) := by
  refine tb_goi (own := RX1) (by decide +kernel) rfl (Nat.le_of_ble_eq_true rfl) ?_
  intro p e s m below meth c ls X hr hlk hH hl
  have hl : lv_has ls 3 [(0, .ref (tb_ad g (d)))] := hl
  refine lv_iconst (v := nI (0)) X.1 X.2.1 dX1_soundArea_0 (by decide +kernel) ?_
  refine lv_istore_n (lv' := [(1, .int (nI (0))), (0, .ref (tb_ad g (d)))]) X.1 X.2.1 dX1_soundArea_1 rfl hl (by decide) rfl (fun ls hl => ?_)
  refine lv_iload_n X.1 X.2.1 dX1_soundArea_2 rfl (lv_at hl 0 rfl) ?_
  refine lv_iconst (v := nI (2)) X.1 X.2.1 dX1_soundArea_3 (by decide +kernel) ?_
  refine tb_nge (tgt := 40) X (by omega) (by omega) dX1_soundArea_4 (by decide) (fun c => ((by omega) : False).elim) (fun _ => ?_)
  refine lv_aload_n X.1 X.2.1 dX1_soundArea_7 rfl (lv_at hl 1 rfl) ?_
  refine tb_cVi X hH hl.1 (c_X1_bestArea l g z d hd) ky_X1_bestArea.1 ky_X1_bestArea.2 wm_373 (tb_oD hd) rfl rfl (Nat.le_of_ble_eq_true rfl) ⟨by decide, by decide⟩ ⟨by decide, by decide⟩ dX1_soundArea_8 (fun H locs hH => ?_)
  have hb_1 := (tb_ba_le z d)
  refine lv_istore_n (lv' := [(2, .int (nI ((sr_X1_bestArea z d)))), (1, .int (nI (0))), (0, .ref (tb_ad g (d)))]) X.1 X.2.1 dX1_soundArea_11 rfl hl (by decide) rfl (fun ls hl => ?_)
  refine lv_aload_n X.1 X.2.1 dX1_soundArea_12 rfl (lv_at hl 2 rfl) ?_
  refine lv_iload_n X.1 X.2.1 dX1_soundArea_13 rfl (lv_at hl 0 rfl) ?_
  refine tb_cVr X hH hl.1 (c_X1_areaAt l g z d hd ((sr_X1_bestArea z d)) (by first | assumption | omega | decide)) ky_X1_areaAt.1 ky_X1_areaAt.2 wm_195 (tb_oD hd) rfl rfl (Nat.le_of_ble_eq_true rfl) ⟨by decide, by decide⟩ ⟨by decide, by decide⟩ dX1_soundArea_14 (fun H locs hH => ?_)
  refine tb_cVi X hH hl.1 (c_X0_isSound l g z ((tb_at d ((sr_X1_bestArea z d)))) (tb_isat hd ((sr_X1_bestArea z d))) (hL _)) ky_X0_isSound.1 ky_X0_isSound.2 wm_382 (tb_oA (tb_isat hd ((sr_X1_bestArea z d)))) rfl rfl (Nat.le_of_ble_eq_true rfl) ⟨by decide, by decide⟩ ⟨by decide, by decide⟩ dX1_soundArea_17 (fun H locs hH => ?_)
  refine tb_jbeq (tgt := 25) X dX1_soundArea_20 (by decide) (fun c_1 => ?_) (fun c_1 => ?_)
  · refine lv_aload_n X.1 X.2.1 dX1_soundArea_25 rfl (lv_at hl 2 rfl) ?_
    refine lv_iload_n X.1 X.2.1 dX1_soundArea_26 rfl (lv_at hl 0 rfl) ?_
    refine tb_cVr X hH hl.1 (c_X1_areaAt l g z d hd ((sr_X1_bestArea z d)) (by first | assumption | omega | decide)) ky_X1_areaAt.1 ky_X1_areaAt.2 wm_195 (tb_oD hd) rfl rfl (Nat.le_of_ble_eq_true rfl) ⟨by decide, by decide⟩ ⟨by decide, by decide⟩ dX1_soundArea_27 (fun H locs hH => ?_)
    refine lv_iconst (v := nI (4)) X.1 X.2.1 dX1_soundArea_30 (by decide +kernel) ?_
    refine tb_putA X hH (tb_isat hd ((sr_X1_bestArea z d))) 0 (by decide) wm_372 dX1_soundArea_31 (fun H locs hH => ?_)
    refine lv_iinc (v := nI (1)) (lv' := [(1, .int (nI (1))), (2, .int (nI ((sr_X1_bestArea z d)))), (0, .ref (tb_ad g (d)))]) X.1 X.2.1 dX1_soundArea_34 hl (k := 1) rfl (by decide +kernel) (by decide) rfl (fun ls hl => ?_)
    refine lv_goto (tgt := 2) X.1 X.2.1 dX1_soundArea_37 (by decide) ?_
    refine lv_iload_n X.1 X.2.1 dX1_soundArea_2 rfl (lv_at hl 0 rfl) ?_
    refine lv_iconst (v := nI (2)) X.1 X.2.1 dX1_soundArea_3 (by decide +kernel) ?_
    refine tb_nge (tgt := 40) X (by omega) (by omega) dX1_soundArea_4 (by decide) (fun c => ((by omega) : False).elim) (fun _ => ?_)
    refine lv_aload_n X.1 X.2.1 dX1_soundArea_7 rfl (lv_at hl 2 rfl) ?_
    refine tb_cVi X hH hl.1 (c_X1_bestArea l g (tb_up z ((tb_at d ((sr_X1_bestArea z d)))) 0 (nI (4))) d hd) ky_X1_bestArea.1 ky_X1_bestArea.2 wm_373 (tb_oD hd) rfl rfl (Nat.le_of_ble_eq_true rfl) ⟨by decide, by decide⟩ ⟨by decide, by decide⟩ dX1_soundArea_8 (fun H locs hH => ?_)
    have hb_2 := (tb_ba_le (tb_up z ((tb_at d ((sr_X1_bestArea z d)))) 0 (nI (4))) d)
    refine lv_istore_n (lv' := [(2, .int (nI ((sr_X1_bestArea (tb_up z ((tb_at d ((sr_X1_bestArea z d)))) 0 (nI (4))) d)))), (1, .int (nI (1))), (0, .ref (tb_ad g (d)))]) X.1 X.2.1 dX1_soundArea_11 rfl hl (by decide) rfl (fun ls hl => ?_)
    refine lv_aload_n X.1 X.2.1 dX1_soundArea_12 rfl (lv_at hl 2 rfl) ?_
    refine lv_iload_n X.1 X.2.1 dX1_soundArea_13 rfl (lv_at hl 0 rfl) ?_
    refine tb_cVr X hH hl.1 (c_X1_areaAt l g (tb_up z ((tb_at d ((sr_X1_bestArea z d)))) 0 (nI (4))) d hd ((sr_X1_bestArea (tb_up z ((tb_at d ((sr_X1_bestArea z d)))) 0 (nI (4))) d)) (by first | assumption | omega | decide)) ky_X1_areaAt.1 ky_X1_areaAt.2 wm_195 (tb_oD hd) rfl rfl (Nat.le_of_ble_eq_true rfl) ⟨by decide, by decide⟩ ⟨by decide, by decide⟩ dX1_soundArea_14 (fun H locs hH => ?_)
    refine tb_cVi X hH hl.1 (c_X0_isSound l g (tb_up z ((tb_at d ((sr_X1_bestArea z d)))) 0 (nI (4))) ((tb_at d ((sr_X1_bestArea (tb_up z ((tb_at d ((sr_X1_bestArea z d)))) 0 (nI (4))) d)))) (tb_isat hd ((sr_X1_bestArea (tb_up z ((tb_at d ((sr_X1_bestArea z d)))) 0 (nI (4))) d))) (tb_okL_c (hL _) (by simp [tb_up]))) ky_X0_isSound.1 ky_X0_isSound.2 wm_382 (tb_oA (tb_isat hd ((sr_X1_bestArea (tb_up z ((tb_at d ((sr_X1_bestArea z d)))) 0 (nI (4))) d)))) rfl rfl (Nat.le_of_ble_eq_true rfl) ⟨by decide, by decide⟩ ⟨by decide, by decide⟩ dX1_soundArea_17 (fun H locs hH => ?_)
    refine tb_jbeq (tgt := 25) X dX1_soundArea_20 (by decide) (fun c_2 => ?_) (fun c_2 => ?_)
    · refine lv_aload_n X.1 X.2.1 dX1_soundArea_25 rfl (lv_at hl 2 rfl) ?_
      refine lv_iload_n X.1 X.2.1 dX1_soundArea_26 rfl (lv_at hl 0 rfl) ?_
      refine tb_cVr X hH hl.1 (c_X1_areaAt l g (tb_up z ((tb_at d ((sr_X1_bestArea z d)))) 0 (nI (4))) d hd ((sr_X1_bestArea (tb_up z ((tb_at d ((sr_X1_bestArea z d)))) 0 (nI (4))) d)) (by first | assumption | omega | decide)) ky_X1_areaAt.1 ky_X1_areaAt.2 wm_195 (tb_oD hd) rfl rfl (Nat.le_of_ble_eq_true rfl) ⟨by decide, by decide⟩ ⟨by decide, by decide⟩ dX1_soundArea_27 (fun H locs hH => ?_)
      refine lv_iconst (v := nI (4)) X.1 X.2.1 dX1_soundArea_30 (by decide +kernel) ?_
      refine tb_putA X hH (tb_isat hd ((sr_X1_bestArea (tb_up z ((tb_at d ((sr_X1_bestArea z d)))) 0 (nI (4))) d))) 0 (by decide) wm_372 dX1_soundArea_31 (fun H locs hH => ?_)
      refine lv_iinc (v := nI (2)) (lv' := [(1, .int (nI (2))), (2, .int (nI ((sr_X1_bestArea (tb_up z ((tb_at d ((sr_X1_bestArea z d)))) 0 (nI (4))) d)))), (0, .ref (tb_ad g (d)))]) X.1 X.2.1 dX1_soundArea_34 hl (k := 1) rfl (by decide +kernel) (by decide) rfl (fun ls hl => ?_)
      refine lv_goto (tgt := 2) X.1 X.2.1 dX1_soundArea_37 (by decide) ?_
      refine lv_iload_n X.1 X.2.1 dX1_soundArea_2 rfl (lv_at hl 0 rfl) ?_
      refine lv_iconst (v := nI (2)) X.1 X.2.1 dX1_soundArea_3 (by decide +kernel) ?_
      refine tb_nge (tgt := 40) X (by omega) (by omega) dX1_soundArea_4 (by decide) (fun _ => ?_) (fun c => ((by omega) : False).elim)
      refine lv_iconst (v := nI (2)) X.1 X.2.1 dX1_soundArea_40 (by decide +kernel) ?_
      exact tb_ri X hr hlk hH ⟨(by rw [sr_X1_soundArea]; simp only [if_neg c_1, if_neg c_2]), (by rw [sz_X1_soundArea]; simp only [if_neg c_1, if_neg c_2])⟩ dX1_soundArea_41
    · refine lv_iload_n X.1 X.2.1 dX1_soundArea_23 rfl (lv_at hl 0 rfl) ?_
      exact tb_ri X hr hlk hH ⟨(by rw [sr_X1_soundArea]; simp only [if_neg c_1, if_pos c_2]), (by rw [sz_X1_soundArea]; simp only [if_neg c_1, if_pos c_2])⟩ dX1_soundArea_24
  · refine lv_iload_n X.1 X.2.1 dX1_soundArea_23 rfl (lv_at hl 0 rfl) ?_
    exact tb_ri X hr hlk hH ⟨(by rw [sr_X1_soundArea]; simp only [if_pos c_1]), (by rw [sz_X1_soundArea]; simp only [if_pos c_1])⟩ dX1_soundArea_24
theorem tb_sa_le (z : tb_M) (d : Nat) : sr_X1_soundArea z d ≤ 2 := by
  unfold sr_X1_soundArea
  repeat' split
  all_goals first | exact tb_ba_le _ _ | decide
end
section
theorem tb_lose_j (z : tb_M) (a : Nat) {k j : Nat} (h : j ≠ 0) : sz_X0_loseFilling_m1 z a k j = z k j := by
  unfold sz_X0_loseFilling_m1
  split <;> simp [tb_up, h]
theorem tb_give_j (z : tb_M) (a : Nat) {k j : Nat} (h : j ≠ 0) : sz_X0_giveUpTrial_m1 z a k j = z k j := by
  unfold sz_X0_giveUpTrial_m1
  repeat' split
  all_goals simp [tb_up, h]
theorem tb_lose_k (z : tb_M) (a : Nat) {k : Nat} (h : k ≠ a) : sz_X0_loseFilling_m1 z a k = z k := by
  unfold sz_X0_loseFilling_m1
  split
  · exact tb_up_k _ _ _ h
  · rfl
theorem tb_give_k (z : tb_M) (a : Nat) {k : Nat} (h : k ≠ a) : sz_X0_giveUpTrial_m1 z a k = z k := by
  unfold sz_X0_giveUpTrial_m1
  repeat' split
  all_goals first | exact tb_up_k _ _ _ h | rfl
theorem tb_use_k (z : tb_M) (a : Nat) {k : Nat} (h : k ≠ a) : sz_X0_useTry_m1 z a k = z k := by
  unfold sz_X0_useTry_m1
  split
  · exact tb_up_k _ _ _ h
  · rfl
theorem tb_use_j (z : tb_M) (a : Nat) {k j : Nat} (h : j ≠ 4) : sz_X0_useTry_m1 z a k j = z k j := by
  unfold sz_X0_useTry_m1
  split <;> simp [tb_up, h]
theorem tb_sa_j (z : tb_M) (d : Nat) {k j : Nat} (h : j ≠ 0) : sz_X1_soundArea z d k j = z k j := by
  unfold sz_X1_soundArea
  repeat' split
  all_goals simp [tb_up, h]
theorem tb_sa_k (z : tb_M) {d k : Nat} (h : ∀ r, k ≠ tb_at d r) : sz_X1_soundArea z d k = z k := by
  unfold sz_X1_soundArea
  repeat' split
  all_goals simp [tb_up_k, h]
theorem tb_at_ne {d : Nat} (r c : Nat) (h : c ≠ 2 ∧ c ≠ 5 ∧ c ≠ 8) : d + c ≠ tb_at d r := by
  unfold tb_at
  repeat' split
  all_goals omega
def sz_X1_startBy_m1 (z : tb_M) (d : Nat) (x : Int32) : tb_M := if x = (nI (2)) then (sz_X0_loseFilling_m1 (sz_X0_loseFilling_m1 z (d + 2)) (d + 5)) else z
def sz_X1_startBy_m2 (z : tb_M) (d : Nat) (x : Int32) : tb_M := sz_X0_giveUpTrial_m1 (sz_X0_giveUpTrial_m1 (sz_X1_startBy_m1 z d x) (d + 2)) (d + 5)
def sz_X1_startBy_m3 (z : tb_M) (d : Nat) (x : Int32) : tb_M := tb_up (tb_up (sz_X0_useTry_m1 (tb_up (sz_X1_soundArea (sz_X1_startBy_m2 z d x) d) d 5 (nI ((sr_X1_soundArea (sz_X1_startBy_m2 z d x) d)))) ((tb_at d (sr_X1_soundArea (sz_X1_startBy_m2 z d x) d)))) d 6 (nI (0))) d 7 (nI (0))
theorem tb_sb2_j (z : tb_M) (d : Nat) (x : Int32) {k j : Nat} (h : j ≠ 0) : sz_X1_startBy_m2 z d x k j = z k j := by
  unfold sz_X1_startBy_m2 sz_X1_startBy_m1
  rw [tb_give_j _ _ h, tb_give_j _ _ h]
  split
  · rw [tb_lose_j _ _ h, tb_lose_j _ _ h]
  · rfl
theorem tb_sb3_5 (z : tb_M) (d : Nat) (x : Int32) : sz_X1_startBy_m3 z d x d 5 = nI (sr_X1_soundArea (sz_X1_startBy_m2 z d x) d) := by
  unfold sz_X1_startBy_m3
  rw [tb_up_j _ _ _ (by decide), tb_up_j _ _ _ (by decide), tb_use_k _ _ (show d ≠ tb_at d _ from tb_at_ne (d := d) _ 0 (by decide)), tb_up_s]
theorem tb_sb3_11 (z : tb_M) (d : Nat) (x : Int32) : sz_X1_startBy_m3 z d x (d + 11) 0 = z (d + 11) 0 := by
  unfold sz_X1_startBy_m3
  rw [tb_up_k _ _ _ (by omega), tb_up_k _ _ _ (by omega), tb_use_k _ _ (tb_at_ne _ 11 (by decide)), tb_up_k _ _ _ (by omega), tb_sa_k _ (fun r => tb_at_ne r 11 (by decide))]
  unfold sz_X1_startBy_m2 sz_X1_startBy_m1
  rw [tb_give_k _ _ (by omega), tb_give_k _ _ (by omega)]
  split
  · rw [tb_lose_k _ _ (by omega), tb_lose_k _ _ (by omega)]
  · rfl
def sz_X1_startBy (z : tb_M) (d : Nat) (x : Int32) : tb_M := sz_X4_add_m1 (sz_X1_startBy_m3 z d x) (d + 11) (sr_X1_soundArea (sz_X1_startBy_m2 z d x) d) x ((sz_X1_startBy_m3 z d x) d 9) (tb_al z d)
set_option maxHeartbeats 4000000 in
set_option maxRecDepth 100000 in
theorem c_X1_startBy (l : Launch) (g : tb_G) (z : tb_M) (d : Nat) (hd : tb_isD d) (x : Int32) (hS : tb_okS z d) : tb_Mv l yX1_startBy cX1_startBy 2 4 g z [.ref (tb_ad g d), .int x] (sz_X1_startBy z d x) := by
  refine tb_gov (own := RX1) (by decide +kernel) rfl (Nat.le_of_ble_eq_true rfl) ?_
  intro p e s m below meth c ls X hr hlk hH hl
  have hl : lv_has ls 2 [(0, .ref (tb_ad g (d))), (1, .int (x))] := hl
  refine lv_iload_n X.1 X.2.1 dX1_startBy_0 rfl (lv_at hl 1 rfl) ?_
  refine lv_iconst (v := nI (2)) X.1 X.2.1 dX1_startBy_1 (by decide +kernel) ?_
  have J_1 : ∀ (H : Heap) (locs : List Loc) (ls : Array Slot) (zq : tb_M), zq = (if x = (nI (2)) then (sz_X0_loseFilling_m1 (sz_X0_loseFilling_m1 z (d + 2)) (d + 5)) else z) → tb_H g s.heap zq H locs → lv_has ls 2 [(0, .ref (tb_ad g (d))), (1, .int (x))] → W p l e (tb_rm 4) s m ([.ref (tb_ad g d), .int x] : List Value).toArray below meth c H locs 0 0 (MQ below (va_Qv (fun u9 => u9 = (sz_X1_startBy z d x)) (tb_B g) (tb_A g)) ([.ref (tb_ad g d), .int x] : List Value).toArray s 0 0 (tb_A g)) (F0 m 19 ls []) := by
    intro H locs ls zq  ezq  hH hl
    subst ezq
    have hH : tb_H g s.heap (sz_X1_startBy_m1 z d x) H locs := hH
    refine lv_aload_n X.1 X.2.1 dX1_startBy_19 rfl (lv_at hl 0 rfl) ?_
    refine tb_get X hH (tb_Dc hd).1 ((tb_Dc hd).2 _ _) rfl inlX1 1 (by decide) wm_38 (v := .ref (tb_ad g (d + 2))) rfl dX1_startBy_20 ?_
    refine tb_cVv X hH hl.1 (c_X0_giveUpTrial l g (sz_X1_startBy_m1 z d x) (d + 2) (tb_A1 hd)) ky_X0_giveUpTrial.1 ky_X0_giveUpTrial.2 wm_364 (tb_oA (tb_A1 hd)) rfl rfl (Nat.le_of_ble_eq_true rfl) ⟨by decide, by decide⟩ ⟨by decide, by decide⟩ dX1_startBy_23 (fun H locs hH => ?_)
    refine lv_aload_n X.1 X.2.1 dX1_startBy_26 rfl (lv_at hl 0 rfl) ?_
    refine tb_get X hH (tb_Dc hd).1 ((tb_Dc hd).2 _ _) rfl inlX1 2 (by decide) wm_39 (v := .ref (tb_ad g (d + 5))) rfl dX1_startBy_27 ?_
    refine tb_cVv X hH hl.1 (c_X0_giveUpTrial l g (sz_X0_giveUpTrial_m1 (sz_X1_startBy_m1 z d x) (d + 2)) (d + 5) (tb_A2 hd)) ky_X0_giveUpTrial.1 ky_X0_giveUpTrial.2 wm_364 (tb_oA (tb_A2 hd)) rfl rfl (Nat.le_of_ble_eq_true rfl) ⟨by decide, by decide⟩ ⟨by decide, by decide⟩ dX1_startBy_30 (fun H locs hH => ?_)
    have hH : tb_H g s.heap (sz_X1_startBy_m2 z d x) H locs := hH
    refine lv_aload_n X.1 X.2.1 dX1_startBy_33 rfl (lv_at hl 0 rfl) ?_
    refine lv_aload_n X.1 X.2.1 dX1_startBy_34 rfl (lv_at hl 0 rfl) ?_
    refine tb_cVi X hH hl.1 (c_X1_soundArea l g (sz_X1_startBy_m2 z d x) d hd (fun r => tb_okL_c (hS.1 r) (tb_sb2_j z d x (by decide)))) ky_X1_soundArea.1 ky_X1_soundArea.2 wm_368 (tb_oD hd) rfl rfl (Nat.le_of_ble_eq_true rfl) ⟨by decide, by decide⟩ ⟨by decide, by decide⟩ dX1_startBy_35 (fun H locs hH => ?_)
    have hb_1 := (tb_sa_le (sz_X1_startBy_m2 z d x) d)
    refine tb_putD X hH hd 5 (by decide) wm_45 dX1_startBy_38 (fun H locs hH => ?_)
    refine lv_aload_n X.1 X.2.1 dX1_startBy_41 rfl (lv_at hl 0 rfl) ?_
    refine lv_aload_n X.1 X.2.1 dX1_startBy_42 rfl (lv_at hl 0 rfl) ?_
    refine tb_get X hH (tb_Dc hd).1 ((tb_Dc hd).2 _ _) rfl inlX1 5 (by decide) wm_45 (v := .int ((tb_up (sz_X1_soundArea (sz_X1_startBy_m2 z d x) d) d 5 (nI ((sr_X1_soundArea (sz_X1_startBy_m2 z d x) d)))) d 5)) rfl dX1_startBy_43 ?_
    refine tb_top (x2 := nI (sr_X1_soundArea (sz_X1_startBy_m2 z d x) d)) (tb_up_s _ _ _ _) ?_
    refine tb_cVr X hH hl.1 (c_X1_areaAt l g (tb_up (sz_X1_soundArea (sz_X1_startBy_m2 z d x) d) d 5 (nI ((sr_X1_soundArea (sz_X1_startBy_m2 z d x) d)))) d hd (sr_X1_soundArea (sz_X1_startBy_m2 z d x) d) (by omega)) ky_X1_areaAt.1 ky_X1_areaAt.2 wm_195 (tb_oD hd) rfl rfl (Nat.le_of_ble_eq_true rfl) ⟨by decide, by decide⟩ ⟨by decide, by decide⟩ dX1_startBy_46 (fun H locs hH => ?_)
    refine tb_cVv X hH hl.1 (c_X0_useTry l g (tb_up (sz_X1_soundArea (sz_X1_startBy_m2 z d x) d) d 5 (nI ((sr_X1_soundArea (sz_X1_startBy_m2 z d x) d)))) ((tb_at d (sr_X1_soundArea (sz_X1_startBy_m2 z d x) d))) (tb_isat hd (sr_X1_soundArea (sz_X1_startBy_m2 z d x) d))) ky_X0_useTry.1 ky_X0_useTry.2 wm_383 (tb_oA (tb_isat hd (sr_X1_soundArea (sz_X1_startBy_m2 z d x) d))) rfl rfl (Nat.le_of_ble_eq_true rfl) ⟨by decide, by decide⟩ ⟨by decide, by decide⟩ dX1_startBy_49 (fun H locs hH => ?_)
    refine lv_aload_n X.1 X.2.1 dX1_startBy_52 rfl (lv_at hl 0 rfl) ?_
    refine lv_iconst (v := nI (0)) X.1 X.2.1 dX1_startBy_53 (by decide +kernel) ?_
    refine tb_putD X hH hd 6 (by decide) wm_138 dX1_startBy_54 (fun H locs hH => ?_)
    refine lv_aload_n X.1 X.2.1 dX1_startBy_57 rfl (lv_at hl 0 rfl) ?_
    refine lv_iconst (v := nI (0)) X.1 X.2.1 dX1_startBy_58 (by decide +kernel) ?_
    refine tb_putD X hH hd 7 (by decide) wm_139 dX1_startBy_59 (fun H locs hH => ?_)
    have hH : tb_H g s.heap (sz_X1_startBy_m3 z d x) H locs := hH
    refine lv_aload_n X.1 X.2.1 dX1_startBy_62 rfl (lv_at hl 0 rfl) ?_
    refine tb_get X hH (tb_Dc hd).1 ((tb_Dc hd).2 _ _) rfl inlX1 4 (by decide) wm_44 (v := .ref (tb_ad g (d + 11))) rfl dX1_startBy_63 ?_
    refine lv_aload_n X.1 X.2.1 dX1_startBy_66 rfl (lv_at hl 0 rfl) ?_
    refine tb_get X hH (tb_Dc hd).1 ((tb_Dc hd).2 _ _) rfl inlX1 5 (by decide) wm_45 (v := .int ((sz_X1_startBy_m3 z d x) d 5)) rfl dX1_startBy_67 ?_
    refine tb_top (x2 := nI (sr_X1_soundArea (sz_X1_startBy_m2 z d x) d)) (tb_sb3_5 z d x) ?_
    refine lv_iload_n X.1 X.2.1 dX1_startBy_70 rfl (lv_at hl 1 rfl) ?_
    refine lv_aload_n X.1 X.2.1 dX1_startBy_71 rfl (lv_at hl 0 rfl) ?_
    refine tb_get X hH (tb_Dc hd).1 ((tb_Dc hd).2 _ _) rfl inlX1 9 (by decide) wm_141 (v := .int ((sz_X1_startBy_m3 z d x) d 9)) rfl dX1_startBy_72 ?_
    refine tb_cVv X hH hl.1 (c_X4_add l g (sz_X1_startBy_m3 z d x) (d + 11) (tb_S1 hd) (sr_X1_soundArea (sz_X1_startBy_m2 z d x) d) x ((sz_X1_startBy_m3 z d x) d 9) (tb_al z d) (by rw [tb_sb3_11 z d x]; exact hS.2.1) hS.2.2) ky_X4_add.1 ky_X4_add.2 wm_387 (tb_oS (tb_S1 hd)) rfl rfl (Nat.le_of_ble_eq_true rfl) ⟨by decide, by decide⟩ ⟨by decide, by decide⟩ dX1_startBy_75 (fun H locs hH => ?_)
    exact tb_rv X hr hlk hH (by rw [sz_X1_startBy]) dX1_startBy_78
  refine lv_icmp_ne (tgt := 19) X.1 X.2.1 dX1_startBy_2 (by decide) (fun c_1 => ?_) (fun c_1 => ?_)
  · exact J_1 _ _ _ _ (by simp only [if_neg c_1]) hH (lv_sub hl [0, 1] rfl)
  · refine lv_aload_n X.1 X.2.1 dX1_startBy_5 rfl (lv_at hl 0 rfl) ?_
    refine tb_get X hH (tb_Dc hd).1 ((tb_Dc hd).2 _ _) rfl inlX1 1 (by decide) wm_38 (v := .ref (tb_ad g (d + 2))) rfl dX1_startBy_6 ?_
    refine tb_cVv X hH hl.1 (c_X0_loseFilling l g z (d + 2) (tb_A1 hd)) ky_X0_loseFilling.1 ky_X0_loseFilling.2 wm_360 (tb_oA (tb_A1 hd)) rfl rfl (Nat.le_of_ble_eq_true rfl) ⟨by decide, by decide⟩ ⟨by decide, by decide⟩ dX1_startBy_9 (fun H locs hH => ?_)
    refine lv_aload_n X.1 X.2.1 dX1_startBy_12 rfl (lv_at hl 0 rfl) ?_
    refine tb_get X hH (tb_Dc hd).1 ((tb_Dc hd).2 _ _) rfl inlX1 2 (by decide) wm_39 (v := .ref (tb_ad g (d + 5))) rfl dX1_startBy_13 ?_
    refine tb_cVv X hH hl.1 (c_X0_loseFilling l g (sz_X0_loseFilling_m1 z (d + 2)) (d + 5) (tb_A2 hd)) ky_X0_loseFilling.1 ky_X0_loseFilling.2 wm_360 (tb_oA (tb_A2 hd)) rfl rfl (Nat.le_of_ble_eq_true rfl) ⟨by decide, by decide⟩ ⟨by decide, by decide⟩ dX1_startBy_16 (fun H locs hH => ?_)
    exact J_1 _ _ _ _ (by simp only [if_pos c_1]) hH (lv_sub hl [0, 1] rfl)
theorem tb_okT_al {z : tb_M} {d : Nat} (h : tb_okT z d) : tb_okS z d := h.1
def sz_X1_startsInTick_m1 (z : tb_M) (d : Nat) : tb_M := if 0 < ((tb_up (tb_up z d 6 ((z d 6) + (nI (1)))) d 9 (((tb_up z d 6 ((z d 6) + (nI (1)))) d 9) + (nI (1)))) d 7) then (tb_up (tb_up (tb_up z d 6 ((z d 6) + (nI (1)))) d 9 (((tb_up z d 6 ((z d 6) + (nI (1)))) d 9) + (nI (1)))) d 7 (((tb_up (tb_up z d 6 ((z d 6) + (nI (1)))) d 9 (((tb_up z d 6 ((z d 6) + (nI (1)))) d 9) + (nI (1)))) d 7) + (nI (1)))) else (if ((tb_up (tb_up z d 6 ((z d 6) + (nI (1)))) d 9 (((tb_up z d 6 ((z d 6) + (nI (1)))) d 9) + (nI (1)))) (((tb_at d (tb_rn z d))) + 1) 0) = ((tb_up (tb_up z d 6 ((z d 6) + (nI (1)))) d 9 (((tb_up z d 6 ((z d 6) + (nI (1)))) d 9) + (nI (1)))) d 6) then (tb_up (tb_up (tb_up z d 6 ((z d 6) + (nI (1)))) d 9 (((tb_up z d 6 ((z d 6) + (nI (1)))) d 9) + (nI (1)))) d 7 (((tb_up (tb_up z d 6 ((z d 6) + (nI (1)))) d 9 (((tb_up z d 6 ((z d 6) + (nI (1)))) d 9) + (nI (1)))) d 7) + (nI (1)))) else (tb_up (tb_up z d 6 ((z d 6) + (nI (1)))) d 9 (((tb_up z d 6 ((z d 6) + (nI (1)))) d 9) + (nI (1)))))
def sz_X1_startsInTick_m2 (z : tb_M) (d : Nat) : tb_M := if ((sz_X1_startsInTick_m1 z d) d 7) = 0 then (if ((sz_X1_startsInTick_m1 z d) (((tb_at d (tb_rn z d))) + 1) 1) = ((sz_X1_startsInTick_m1 z d) d 6) then (if ((sz_X1_startsInTick_m1 z d) ((tb_at d (tb_rn z d))) 0) = (nI (2)) then (tb_up (tb_up (sz_X1_startsInTick_m1 z d) ((tb_at d (tb_rn z d))) 0 (nI (3))) d 8 (if (tb_up (sz_X1_startsInTick_m1 z d) ((tb_at d (tb_rn z d))) 0 (nI (3))) d 8 < (tb_up (sz_X1_startsInTick_m1 z d) ((tb_at d (tb_rn z d))) 0 (nI (3))) ((tb_at d (tb_rn z d))) 1 then (tb_up (sz_X1_startsInTick_m1 z d) ((tb_at d (tb_rn z d))) 0 (nI (3))) ((tb_at d (tb_rn z d))) 1 else (tb_up (sz_X1_startsInTick_m1 z d) ((tb_at d (tb_rn z d))) 0 (nI (3))) d 8)) else (sz_X1_startsInTick_m1 z d)) else (sz_X1_startsInTick_m1 z d)) else (sz_X1_startsInTick_m1 z d)
theorem tb_tk_ok {z : tb_M} {d : Nat} (hd : tb_isD d) (hT : tb_okT z d) : tb_okS (sz_X1_startsInTick_m2 z d) d := by
  have hr := tb_isat hd (tb_rn z d)
  have n1 := tb_isA_ne hd hr
  have n2 := tb_isA_ne11 hd hr
  refine tb_okS_c hT.1 (fun r => ?_) ?_
  · have h1 := tb_isA_ne hd (tb_isat hd r)
    unfold sz_X1_startsInTick_m2 sz_X1_startsInTick_m1
    repeat' split
    all_goals simp [tb_up, h1]
  · unfold sz_X1_startsInTick_m2 sz_X1_startsInTick_m1
    repeat' split
    all_goals simp [tb_up, n2.symm, Ne.symm n2]
def sz_X1_startsInTick (z : tb_M) (d : Nat) : tb_M := if ¬ (((sz_X1_startsInTick_m2 z d) d 7) < ((sz_X1_startsInTick_m2 z d) (d + 1) 1)) then (sz_X1_startBy (sz_X1_startsInTick_m2 z d) d (nI (1))) else (if (((sz_X1_startsInTick_m2 z d) ((tb_at d (tb_rn z d))) 0) = (nI (2))) ∧ (¬ (((sz_X1_startsInTick_m2 z d) d 6) < ((nI (10)) * ((sz_X1_startsInTick_m2 z d) (d + 1) 1)))) then (sz_X1_startBy (sz_X1_startsInTick_m2 z d) d (nI (1))) else (sz_X1_startsInTick_m2 z d))
abbrev sp_X1_startsInTick (z : tb_M) (d : Nat) : Prop := (¬ (((sz_X1_startsInTick_m2 z d) d 7) < ((sz_X1_startsInTick_m2 z d) (d + 1) 1))) ∨ ((((sz_X1_startsInTick_m2 z d) ((tb_at d (tb_rn z d))) 0) = (nI (2))) ∧ (¬ (((sz_X1_startsInTick_m2 z d) d 6) < ((nI (10)) * ((sz_X1_startsInTick_m2 z d) (d + 1) 1)))))
set_option maxHeartbeats 4000000 in
set_option maxRecDepth 100000 in
theorem c_X1_startsInTick (l : Launch) (g : tb_G) (z : tb_M) (d : Nat) (hd : tb_isD d) (hT : tb_okT z d) : tb_Mi (.boolean) l yX1_startsInTick cX1_startsInTick 4 5 g z [.ref (tb_ad g d)] (tb_b (sp_X1_startsInTick z d)) (sz_X1_startsInTick z d) := by
  refine tb_goi (own := RX1) (by decide +kernel) rfl (Nat.le_of_ble_eq_true rfl) ?_
  intro p e s m below meth c ls X hr hlk hH hl
  have hl : lv_has ls 4 [(0, .ref (tb_ad g (d)))] := hl
  have hT2 := hT.2.2
  refine lv_aload_n X.1 X.2.1 dX1_startsInTick_0 rfl (lv_at hl 0 rfl) ?_
  refine lv_aload_n X.1 X.2.1 dX1_startsInTick_1 rfl (lv_at hl 0 rfl) ?_
  refine tb_get X hH (tb_Dc hd).1 ((tb_Dc hd).2 _ _) rfl inlX1 5 (by decide) wm_45 (v := .int (z d 5)) rfl dX1_startsInTick_2 ?_
  refine tb_top (x2 := nI (tb_rn z d)) (hT.2.1) ?_
  refine tb_cVr X hH hl.1 (c_X1_areaAt l g z d hd (tb_rn z d) hT2) ky_X1_areaAt.1 ky_X1_areaAt.2 wm_195 (tb_oD hd) rfl rfl (Nat.le_of_ble_eq_true rfl) ⟨by decide, by decide⟩ ⟨by decide, by decide⟩ dX1_startsInTick_5 (fun H locs hH => ?_)
  refine lv_astore_n (lv' := [(1, .ref (tb_ad g ((tb_at d (tb_rn z d))))), (0, .ref (tb_ad g (d)))]) X.1 X.2.1 dX1_startsInTick_8 rfl hl (by decide) rfl (fun ls hl => ?_)
  refine lv_aload_n X.1 X.2.1 dX1_startsInTick_9 rfl (lv_at hl 1 rfl) ?_
  refine lv_dup X.1 X.2.1 dX1_startsInTick_10 rfl ?_
  refine tb_get X hH (tb_Dc hd).1 ((tb_Dc hd).2 _ _) rfl inlX1 6 (by decide) wm_138 (v := .int (z d 6)) rfl dX1_startsInTick_11 ?_
  refine lv_iconst (v := nI (1)) X.1 X.2.1 dX1_startsInTick_14 (by decide +kernel) ?_
  refine lv_iadd X.1 X.2.1 dX1_startsInTick_15 ?_
  refine tb_putD X hH hd 6 (by decide) wm_138 dX1_startsInTick_16 (fun H locs hH => ?_)
  refine lv_aload_n X.1 X.2.1 dX1_startsInTick_19 rfl (lv_at hl 1 rfl) ?_
  refine lv_dup X.1 X.2.1 dX1_startsInTick_20 rfl ?_
  refine tb_get X hH (tb_Dc hd).1 ((tb_Dc hd).2 _ _) rfl inlX1 9 (by decide) wm_141 (v := .int ((tb_up z d 6 ((z d 6) + (nI (1)))) d 9)) rfl dX1_startsInTick_21 ?_
  refine lv_iconst (v := nI (1)) X.1 X.2.1 dX1_startsInTick_24 (by decide +kernel) ?_
  refine lv_iadd X.1 X.2.1 dX1_startsInTick_25 ?_
  refine tb_putD X hH hd 9 (by decide) wm_141 dX1_startsInTick_26 (fun H locs hH => ?_)
  refine lv_aload_n X.1 X.2.1 dX1_startsInTick_29 rfl (lv_at hl 1 rfl) ?_
  refine tb_get X hH (tb_Dc hd).1 ((tb_Dc hd).2 _ _) rfl inlX1 7 (by decide) wm_139 (v := .int ((tb_up (tb_up z d 6 ((z d 6) + (nI (1)))) d 9 (((tb_up z d 6 ((z d 6) + (nI (1)))) d 9) + (nI (1)))) d 7)) rfl dX1_startsInTick_30 ?_
  have J_1 : ∀ (H : Heap) (locs : List Loc) (ls : Array Slot) (zq : tb_M), zq = (if 0 < ((tb_up (tb_up z d 6 ((z d 6) + (nI (1)))) d 9 (((tb_up z d 6 ((z d 6) + (nI (1)))) d 9) + (nI (1)))) d 7) then (tb_up (tb_up (tb_up z d 6 ((z d 6) + (nI (1)))) d 9 (((tb_up z d 6 ((z d 6) + (nI (1)))) d 9) + (nI (1)))) d 7 (((tb_up (tb_up z d 6 ((z d 6) + (nI (1)))) d 9 (((tb_up z d 6 ((z d 6) + (nI (1)))) d 9) + (nI (1)))) d 7) + (nI (1)))) else (if ((tb_up (tb_up z d 6 ((z d 6) + (nI (1)))) d 9 (((tb_up z d 6 ((z d 6) + (nI (1)))) d 9) + (nI (1)))) (((tb_at d (tb_rn z d))) + 1) 0) = ((tb_up (tb_up z d 6 ((z d 6) + (nI (1)))) d 9 (((tb_up z d 6 ((z d 6) + (nI (1)))) d 9) + (nI (1)))) d 6) then (tb_up (tb_up (tb_up z d 6 ((z d 6) + (nI (1)))) d 9 (((tb_up z d 6 ((z d 6) + (nI (1)))) d 9) + (nI (1)))) d 7 (((tb_up (tb_up z d 6 ((z d 6) + (nI (1)))) d 9 (((tb_up z d 6 ((z d 6) + (nI (1)))) d 9) + (nI (1)))) d 7) + (nI (1)))) else (tb_up (tb_up z d 6 ((z d 6) + (nI (1)))) d 9 (((tb_up z d 6 ((z d 6) + (nI (1)))) d 9) + (nI (1)))))) → tb_H g s.heap zq H locs → lv_has ls 4 [(1, .ref (tb_ad g ((tb_at d (tb_rn z d))))), (0, .ref (tb_ad g (d)))] → W p l e (tb_rm 5) s m ([.ref (tb_ad g d)] : List Value).toArray below meth c H locs 0 0 (MQ below (va_Qi (fun r9 u9 => r9 = tb_b (sp_X1_startsInTick z d) ∧ u9 = sz_X1_startsInTick z d) (tb_B g) (tb_A g)) ([.ref (tb_ad g d)] : List Value).toArray s 0 0 (tb_A g)) (F0 m 59 ls []) := by
    intro H locs ls zq  ezq  hH hl
    subst ezq
    have hH : tb_H g s.heap (sz_X1_startsInTick_m1 z d) H locs := hH
    refine lv_aload_n X.1 X.2.1 dX1_startsInTick_59 rfl (lv_at hl 1 rfl) ?_
    refine tb_get X hH (tb_Dc hd).1 ((tb_Dc hd).2 _ _) rfl inlX1 7 (by decide) wm_139 (v := .int ((sz_X1_startsInTick_m1 z d) d 7)) rfl dX1_startsInTick_60 ?_
    have J_2 : ∀ (H : Heap) (locs : List Loc) (ls : Array Slot) (zq : tb_M), zq = (if ((sz_X1_startsInTick_m1 z d) d 7) = 0 then (if ((sz_X1_startsInTick_m1 z d) (((tb_at d (tb_rn z d))) + 1) 1) = ((sz_X1_startsInTick_m1 z d) d 6) then (if ((sz_X1_startsInTick_m1 z d) ((tb_at d (tb_rn z d))) 0) = (nI (2)) then (tb_up (tb_up (sz_X1_startsInTick_m1 z d) ((tb_at d (tb_rn z d))) 0 (nI (3))) d 8 (if (tb_up (sz_X1_startsInTick_m1 z d) ((tb_at d (tb_rn z d))) 0 (nI (3))) d 8 < (tb_up (sz_X1_startsInTick_m1 z d) ((tb_at d (tb_rn z d))) 0 (nI (3))) ((tb_at d (tb_rn z d))) 1 then (tb_up (sz_X1_startsInTick_m1 z d) ((tb_at d (tb_rn z d))) 0 (nI (3))) ((tb_at d (tb_rn z d))) 1 else (tb_up (sz_X1_startsInTick_m1 z d) ((tb_at d (tb_rn z d))) 0 (nI (3))) d 8)) else (sz_X1_startsInTick_m1 z d)) else (sz_X1_startsInTick_m1 z d)) else (sz_X1_startsInTick_m1 z d)) → tb_H g s.heap zq H locs → lv_has ls 4 [(1, .ref (tb_ad g ((tb_at d (tb_rn z d))))), (0, .ref (tb_ad g (d)))] → W p l e (tb_rm 5) s m ([.ref (tb_ad g d)] : List Value).toArray below meth c H locs 0 0 (MQ below (va_Qi (fun r9 u9 => r9 = tb_b (sp_X1_startsInTick z d) ∧ u9 = sz_X1_startsInTick z d) (tb_B g) (tb_A g)) ([.ref (tb_ad g d)] : List Value).toArray s 0 0 (tb_A g)) (F0 m 107 ls []) := by
      intro H locs ls zq  ezq  hH hl
      subst ezq
      have hH : tb_H g s.heap (sz_X1_startsInTick_m2 z d) H locs := hH
      refine lv_aload_n X.1 X.2.1 dX1_startsInTick_107 rfl (lv_at hl 1 rfl) ?_
      refine tb_get X hH (tb_Dc hd).1 ((tb_Dc hd).2 _ _) rfl inlX1 7 (by decide) wm_139 (v := .int ((sz_X1_startsInTick_m2 z d) d 7)) rfl dX1_startsInTick_108 ?_
      refine lv_aload_n X.1 X.2.1 dX1_startsInTick_111 rfl (lv_at hl 1 rfl) ?_
      refine tb_get X hH (tb_Dc hd).1 ((tb_Dc hd).2 _ _) rfl inlX1 0 (by decide) wm_34 (v := .ref (tb_ad g (d + 1))) rfl dX1_startsInTick_112 ?_
      refine lv_iconst (v := nI (1)) X.1 X.2.1 dX1_startsInTick_115 (by decide +kernel) ?_
      refine tb_ald X hH (tb_iset hd) (1) rfl (by decide) (by decide) dX1_startsInTick_116 ?_
      have J_3 : ∀ (H : Heap) (locs : List Loc) (ls : Array Slot) (vq1 : Int32), vq1 = (tb_b (¬ (((sz_X1_startsInTick_m2 z d) d 7) < ((sz_X1_startsInTick_m2 z d) (d + 1) 1)))) → tb_H g s.heap (sz_X1_startsInTick_m2 z d) H locs → lv_has ls 4 [(1, .ref (tb_ad g ((tb_at d (tb_rn z d))))), (0, .ref (tb_ad g (d)))] → W p l e (tb_rm 5) s m ([.ref (tb_ad g d)] : List Value).toArray below meth c H locs 0 0 (MQ below (va_Qi (fun r9 u9 => r9 = tb_b (sp_X1_startsInTick z d) ∧ u9 = sz_X1_startsInTick z d) (tb_B g) (tb_A g)) ([.ref (tb_ad g d)] : List Value).toArray s 0 0 (tb_A g)) (F0 m 125 ls [.int vq1]) := by
        intro H locs ls vq1 evq1 hH hl
        subst evq1
        refine lv_istore_n (lv' := [(2, .int (tb_b (¬ (((sz_X1_startsInTick_m2 z d) d 7) < ((sz_X1_startsInTick_m2 z d) (d + 1) 1))))), (1, .ref (tb_ad g ((tb_at d (tb_rn z d))))), (0, .ref (tb_ad g (d)))]) X.1 X.2.1 dX1_startsInTick_125 rfl hl (by decide) rfl (fun ls hl => ?_)
        refine lv_aload_n X.1 X.2.1 dX1_startsInTick_126 rfl (lv_at hl 1 rfl) ?_
        refine tb_get X hH (tb_Ac (tb_isat hd (tb_rn z d))).1 ((tb_Ac (tb_isat hd (tb_rn z d))).2 _ _) rfl inlX0 0 (by decide) wm_372 (v := .int ((sz_X1_startsInTick_m2 z d) ((tb_at d (tb_rn z d))) 0)) rfl dX1_startsInTick_127 ?_
        refine lv_iconst (v := nI (2)) X.1 X.2.1 dX1_startsInTick_130 (by decide +kernel) ?_
        have J_4 : ∀ (H : Heap) (locs : List Loc) (ls : Array Slot) (vq1 : Int32), vq1 = (tb_b ((((sz_X1_startsInTick_m2 z d) ((tb_at d (tb_rn z d))) 0) = (nI (2))) ∧ (¬ (((sz_X1_startsInTick_m2 z d) d 6) < ((nI (10)) * ((sz_X1_startsInTick_m2 z d) (d + 1) 1)))))) → tb_H g s.heap (sz_X1_startsInTick_m2 z d) H locs → lv_has ls 4 [(2, .int (tb_b (¬ (((sz_X1_startsInTick_m2 z d) d 7) < ((sz_X1_startsInTick_m2 z d) (d + 1) 1))))), (1, .ref (tb_ad g ((tb_at d (tb_rn z d))))), (0, .ref (tb_ad g (d)))] → W p l e (tb_rm 5) s m ([.ref (tb_ad g d)] : List Value).toArray below meth c H locs 0 0 (MQ below (va_Qi (fun r9 u9 => r9 = tb_b (sp_X1_startsInTick z d) ∧ u9 = sz_X1_startsInTick z d) (tb_B g) (tb_A g)) ([.ref (tb_ad g d)] : List Value).toArray s 0 0 (tb_A g)) (F0 m 155 ls [.int vq1]) := by
          intro H locs ls vq1 evq1 hH hl
          subst evq1
          refine lv_istore_n (lv' := [(3, .int (tb_b ((((sz_X1_startsInTick_m2 z d) ((tb_at d (tb_rn z d))) 0) = (nI (2))) ∧ (¬ (((sz_X1_startsInTick_m2 z d) d 6) < ((nI (10)) * ((sz_X1_startsInTick_m2 z d) (d + 1) 1))))))), (2, .int (tb_b (¬ (((sz_X1_startsInTick_m2 z d) d 7) < ((sz_X1_startsInTick_m2 z d) (d + 1) 1))))), (1, .ref (tb_ad g ((tb_at d (tb_rn z d))))), (0, .ref (tb_ad g (d)))]) X.1 X.2.1 dX1_startsInTick_155 rfl hl (by decide) rfl (fun ls hl => ?_)
          refine lv_iload_n X.1 X.2.1 dX1_startsInTick_156 rfl (lv_at hl 1 rfl) ?_
          refine tb_jbne (tgt := 166) X dX1_startsInTick_157 (by decide) (fun c_9 => ?_) (fun c_9 => ?_)
          · refine lv_aload_n X.1 X.2.1 dX1_startsInTick_166 rfl (lv_at hl 3 rfl) ?_
            refine lv_iconst (v := nI (1)) X.1 X.2.1 dX1_startsInTick_167 (by decide +kernel) ?_
            refine tb_cVv X hH hl.1 (c_X1_startBy l g (sz_X1_startsInTick_m2 z d) d hd (nI (1)) (tb_tk_ok hd hT)) ky_X1_startBy.1 ky_X1_startBy.2 wm_434 (tb_oD hd) rfl rfl (Nat.le_of_ble_eq_true rfl) ⟨by decide, by decide⟩ ⟨by decide, by decide⟩ dX1_startsInTick_168 (fun H locs hH => ?_)
            refine lv_iconst (v := nI (1)) X.1 X.2.1 dX1_startsInTick_171 (by decide +kernel) ?_
            exact tb_top (x2 := tb_b True) (tb_b_t trivial).symm (tb_rz X hr hlk hH ⟨⟨fun _ => (Or.inl c_9), fun _ => trivial⟩, (by rw [sz_X1_startsInTick]; simp only [if_pos c_9])⟩ dX1_startsInTick_172)
          · refine lv_iload_n X.1 X.2.1 dX1_startsInTick_160 rfl (lv_at hl 0 rfl) ?_
            refine tb_jbne (tgt := 166) X dX1_startsInTick_161 (by decide) (fun c_10 => ?_) (fun c_10 => ?_)
            · refine lv_aload_n X.1 X.2.1 dX1_startsInTick_166 rfl (lv_at hl 3 rfl) ?_
              refine lv_iconst (v := nI (1)) X.1 X.2.1 dX1_startsInTick_167 (by decide +kernel) ?_
              refine tb_cVv X hH hl.1 (c_X1_startBy l g (sz_X1_startsInTick_m2 z d) d hd (nI (1)) (tb_tk_ok hd hT)) ky_X1_startBy.1 ky_X1_startBy.2 wm_434 (tb_oD hd) rfl rfl (Nat.le_of_ble_eq_true rfl) ⟨by decide, by decide⟩ ⟨by decide, by decide⟩ dX1_startsInTick_168 (fun H locs hH => ?_)
              refine lv_iconst (v := nI (1)) X.1 X.2.1 dX1_startsInTick_171 (by decide +kernel) ?_
              exact tb_top (x2 := tb_b True) (tb_b_t trivial).symm (tb_rz X hr hlk hH ⟨⟨fun _ => (Or.inr c_10), fun _ => trivial⟩, (by rw [sz_X1_startsInTick]; simp only [if_neg c_9, if_pos c_10])⟩ dX1_startsInTick_172)
            · refine lv_iconst (v := nI (0)) X.1 X.2.1 dX1_startsInTick_164 (by decide +kernel) ?_
              exact tb_top (x2 := tb_b False) (tb_b_f id).symm (tb_rz X hr hlk hH ⟨⟨False.elim, (fun h => h.elim c_9 c_10)⟩, (by rw [sz_X1_startsInTick]; simp only [if_neg c_9, if_neg c_10])⟩ dX1_startsInTick_165)
        refine lv_icmp_ne (tgt := 154) X.1 X.2.1 dX1_startsInTick_131 (by decide) (fun c_7 => ?_) (fun c_7 => ?_)
        · refine lv_iconst (v := nI (0)) X.1 X.2.1 dX1_startsInTick_154 (by decide +kernel) ?_
          exact J_4 _ _ _ _ (tb_b_f (fun h => c_7 h.1)).symm hH (lv_sub hl [0, 1, 2] rfl)
        · refine lv_aload_n X.1 X.2.1 dX1_startsInTick_134 rfl (lv_at hl 2 rfl) ?_
          refine tb_get X hH (tb_Dc hd).1 ((tb_Dc hd).2 _ _) rfl inlX1 6 (by decide) wm_138 (v := .int ((sz_X1_startsInTick_m2 z d) d 6)) rfl dX1_startsInTick_135 ?_
          refine lv_bipush (v := nI (10)) X.1 X.2.1 dX1_startsInTick_138 (by decide +kernel) ?_
          refine lv_aload_n X.1 X.2.1 dX1_startsInTick_140 rfl (lv_at hl 2 rfl) ?_
          refine tb_get X hH (tb_Dc hd).1 ((tb_Dc hd).2 _ _) rfl inlX1 0 (by decide) wm_34 (v := .ref (tb_ad g (d + 1))) rfl dX1_startsInTick_141 ?_
          refine lv_iconst (v := nI (1)) X.1 X.2.1 dX1_startsInTick_144 (by decide +kernel) ?_
          refine tb_ald X hH (tb_iset hd) (1) rfl (by decide) (by decide) dX1_startsInTick_145 ?_
          refine lv_imul X.1 X.2.1 dX1_startsInTick_146 ?_
          refine lv_icmp_lt (tgt := 154) X.1 X.2.1 dX1_startsInTick_147 (by decide) (fun c_8 => ?_) (fun c_8 => ?_)
          · refine lv_iconst (v := nI (0)) X.1 X.2.1 dX1_startsInTick_154 (by decide +kernel) ?_
            exact J_4 _ _ _ _ (tb_b_f (fun h => (fun h => h c_8) h.2)).symm hH (lv_sub hl [0, 1, 2] rfl)
          · refine lv_iconst (v := nI (1)) X.1 X.2.1 dX1_startsInTick_150 (by decide +kernel) ?_
            refine lv_goto (tgt := 155) X.1 X.2.1 dX1_startsInTick_151 (by decide) ?_
            exact J_4 _ _ _ _ (tb_b_t ⟨c_7, c_8⟩).symm hH (lv_sub hl [0, 1, 2] rfl)
      refine lv_icmp_lt (tgt := 124) X.1 X.2.1 dX1_startsInTick_117 (by decide) (fun c_6 => ?_) (fun c_6 => ?_)
      · refine lv_iconst (v := nI (0)) X.1 X.2.1 dX1_startsInTick_124 (by decide +kernel) ?_
        exact J_3 _ _ _ _ (tb_b_f (fun h => h c_6)).symm hH (lv_sub hl [0, 1] rfl)
      · refine lv_iconst (v := nI (1)) X.1 X.2.1 dX1_startsInTick_120 (by decide +kernel) ?_
        refine lv_goto (tgt := 125) X.1 X.2.1 dX1_startsInTick_121 (by decide) ?_
        exact J_3 _ _ _ _ (tb_b_t c_6).symm hH (lv_sub hl [0, 1] rfl)
    refine lv_if_ne (tgt := 107) X.1 X.2.1 dX1_startsInTick_63 (by decide) (fun c_3 => ?_) (fun c_3 => ?_)
    · exact J_2 _ _ _ _ (by simp only [if_neg c_3]) hH (lv_sub hl [0, 1] rfl)
    · refine lv_aload_n X.1 X.2.1 dX1_startsInTick_66 rfl (lv_at hl 0 rfl) ?_
      refine tb_get X hH (tb_Ac (tb_isat hd (tb_rn z d))).1 ((tb_Ac (tb_isat hd (tb_rn z d))).2 _ _) rfl inlX0 6 (by decide) wm_433 (v := .ref (tb_ad g (((tb_at d (tb_rn z d))) + 1))) rfl dX1_startsInTick_67 ?_
      refine lv_iconst (v := nI (1)) X.1 X.2.1 dX1_startsInTick_70 (by decide +kernel) ?_
      refine tb_ald X hH (tb_iw (tb_isat hd (tb_rn z d))) (1) rfl (by decide) (by decide) dX1_startsInTick_71 ?_
      refine lv_aload_n X.1 X.2.1 dX1_startsInTick_72 rfl (lv_at hl 1 rfl) ?_
      refine tb_get X hH (tb_Dc hd).1 ((tb_Dc hd).2 _ _) rfl inlX1 6 (by decide) wm_138 (v := .int ((sz_X1_startsInTick_m1 z d) d 6)) rfl dX1_startsInTick_73 ?_
      refine lv_icmp_ne (tgt := 107) X.1 X.2.1 dX1_startsInTick_76 (by decide) (fun c_4 => ?_) (fun c_4 => ?_)
      · exact J_2 _ _ _ _ (by simp only [if_pos c_3, if_neg c_4]) hH (lv_sub hl [0, 1] rfl)
      · refine lv_aload_n X.1 X.2.1 dX1_startsInTick_79 rfl (lv_at hl 0 rfl) ?_
        refine tb_get X hH (tb_Ac (tb_isat hd (tb_rn z d))).1 ((tb_Ac (tb_isat hd (tb_rn z d))).2 _ _) rfl inlX0 0 (by decide) wm_372 (v := .int ((sz_X1_startsInTick_m1 z d) ((tb_at d (tb_rn z d))) 0)) rfl dX1_startsInTick_80 ?_
        refine lv_iconst (v := nI (2)) X.1 X.2.1 dX1_startsInTick_83 (by decide +kernel) ?_
        refine lv_icmp_ne (tgt := 107) X.1 X.2.1 dX1_startsInTick_84 (by decide) (fun c_5 => ?_) (fun c_5 => ?_)
        · exact J_2 _ _ _ _ (by simp only [if_pos c_3, if_pos c_4, if_neg c_5]) hH (lv_sub hl [0, 1] rfl)
        · refine lv_aload_n X.1 X.2.1 dX1_startsInTick_87 rfl (lv_at hl 0 rfl) ?_
          refine lv_iconst (v := nI (3)) X.1 X.2.1 dX1_startsInTick_88 (by decide +kernel) ?_
          refine tb_putA X hH (tb_isat hd (tb_rn z d)) 0 (by decide) wm_372 dX1_startsInTick_89 (fun H locs hH => ?_)
          refine lv_aload_n X.1 X.2.1 dX1_startsInTick_92 rfl (lv_at hl 1 rfl) ?_
          refine lv_aload_n X.1 X.2.1 dX1_startsInTick_93 rfl (lv_at hl 1 rfl) ?_
          refine tb_get X hH (tb_Dc hd).1 ((tb_Dc hd).2 _ _) rfl inlX1 8 (by decide) wm_140 (v := .int ((tb_up (sz_X1_startsInTick_m1 z d) ((tb_at d (tb_rn z d))) 0 (nI (3))) d 8)) rfl dX1_startsInTick_94 ?_
          refine lv_aload_n X.1 X.2.1 dX1_startsInTick_97 rfl (lv_at hl 0 rfl) ?_
          refine tb_get X hH (tb_Ac (tb_isat hd (tb_rn z d))).1 ((tb_Ac (tb_isat hd (tb_rn z d))).2 _ _) rfl inlX0 1 (by decide) wm_381 (v := .int ((tb_up (sz_X1_startsInTick_m1 z d) ((tb_at d (tb_rn z d))) 0 (nI (3))) ((tb_at d (tb_rn z d))) 1)) rfl dX1_startsInTick_98 ?_
          refine tb_cmax X hl.1 wm_192 wm_193 wm_124 wm_194 (by decide) (Nat.le_of_ble_eq_true rfl) ⟨by decide, by decide⟩ dX1_startsInTick_101 ?_
          refine tb_putD X hH hd 8 (by decide) wm_140 dX1_startsInTick_104 (fun H locs hH => ?_)
          exact J_2 _ _ _ _ (by simp only [if_pos c_3, if_pos c_4, if_pos c_5]) hH (lv_sub hl [0, 1] rfl)
  refine lv_if_gt (tgt := 49) X.1 X.2.1 dX1_startsInTick_33 (by decide) (fun c_1 => ?_) (fun c_1 => ?_)
  · refine lv_aload_n X.1 X.2.1 dX1_startsInTick_49 rfl (lv_at hl 1 rfl) ?_
    refine lv_dup X.1 X.2.1 dX1_startsInTick_50 rfl ?_
    refine tb_get X hH (tb_Dc hd).1 ((tb_Dc hd).2 _ _) rfl inlX1 7 (by decide) wm_139 (v := .int ((tb_up (tb_up z d 6 ((z d 6) + (nI (1)))) d 9 (((tb_up z d 6 ((z d 6) + (nI (1)))) d 9) + (nI (1)))) d 7)) rfl dX1_startsInTick_51 ?_
    refine lv_iconst (v := nI (1)) X.1 X.2.1 dX1_startsInTick_54 (by decide +kernel) ?_
    refine lv_iadd X.1 X.2.1 dX1_startsInTick_55 ?_
    refine tb_putD X hH hd 7 (by decide) wm_139 dX1_startsInTick_56 (fun H locs hH => ?_)
    exact J_1 _ _ _ _ (by simp only [if_pos c_1]) hH (lv_sub hl [0, 1] rfl)
  · refine lv_aload_n X.1 X.2.1 dX1_startsInTick_36 rfl (lv_at hl 0 rfl) ?_
    refine tb_get X hH (tb_Ac (tb_isat hd (tb_rn z d))).1 ((tb_Ac (tb_isat hd (tb_rn z d))).2 _ _) rfl inlX0 6 (by decide) wm_433 (v := .ref (tb_ad g (((tb_at d (tb_rn z d))) + 1))) rfl dX1_startsInTick_37 ?_
    refine lv_iconst (v := nI (0)) X.1 X.2.1 dX1_startsInTick_40 (by decide +kernel) ?_
    refine tb_ald X hH (tb_iw (tb_isat hd (tb_rn z d))) (0) rfl (by decide) (by decide) dX1_startsInTick_41 ?_
    refine lv_aload_n X.1 X.2.1 dX1_startsInTick_42 rfl (lv_at hl 1 rfl) ?_
    refine tb_get X hH (tb_Dc hd).1 ((tb_Dc hd).2 _ _) rfl inlX1 6 (by decide) wm_138 (v := .int ((tb_up (tb_up z d 6 ((z d 6) + (nI (1)))) d 9 (((tb_up z d 6 ((z d 6) + (nI (1)))) d 9) + (nI (1)))) d 6)) rfl dX1_startsInTick_43 ?_
    refine lv_icmp_ne (tgt := 59) X.1 X.2.1 dX1_startsInTick_46 (by decide) (fun c_2 => ?_) (fun c_2 => ?_)
    · exact J_1 _ _ _ _ (by simp only [if_neg c_1, if_neg c_2]) hH (lv_sub hl [0, 1] rfl)
    · refine lv_aload_n X.1 X.2.1 dX1_startsInTick_49 rfl (lv_at hl 1 rfl) ?_
      refine lv_dup X.1 X.2.1 dX1_startsInTick_50 rfl ?_
      refine tb_get X hH (tb_Dc hd).1 ((tb_Dc hd).2 _ _) rfl inlX1 7 (by decide) wm_139 (v := .int ((tb_up (tb_up z d 6 ((z d 6) + (nI (1)))) d 9 (((tb_up z d 6 ((z d 6) + (nI (1)))) d 9) + (nI (1)))) d 7)) rfl dX1_startsInTick_51 ?_
      refine lv_iconst (v := nI (1)) X.1 X.2.1 dX1_startsInTick_54 (by decide +kernel) ?_
      refine lv_iadd X.1 X.2.1 dX1_startsInTick_55 ?_
      refine tb_putD X hH hd 7 (by decide) wm_139 dX1_startsInTick_56 (fun H locs hH => ?_)
      exact J_1 _ _ _ _ (by simp only [if_neg c_1, if_pos c_2]) hH (lv_sub hl [0, 1] rfl)
def tb_lpZ (z : tb_M) (d : Nat) : Nat → tb_M
  | 0 => z
  | i + 1 => sz_X1_startsInTick (tb_lpZ z d i) d
def tb_lpN (z : tb_M) (d : Nat) : Nat → Int32
  | 0 => nI 0
  | i + 1 => if sp_X1_startsInTick (tb_lpZ z d i) d then tb_lpN z d i + nI 1 else tb_lpN z d i
set_option maxHeartbeats 4000000 in
set_option maxRecDepth 100000 in
theorem c_X1_letPass (l : Launch) (g : tb_G) (z : tb_M) (d : Nat) (hd : tb_isD d) (q : Nat) (hq : q < 1000) (hW : ∀ i, i < q → tb_okT (tb_lpZ z d i) d) : tb_Mi (.int) l yX1_letPass cX1_letPass 4 6 g z [.ref (tb_ad g d), .int (nI q)] (tb_lpN z d q) (tb_lpZ z d q) := by
  refine tb_goi (own := RX1) (by decide +kernel) rfl (Nat.le_of_ble_eq_true rfl) ?_
  intro p e s m below meth c ls X hr hlk hH hl
  have hl : lv_has ls 4 [(0, .ref (tb_ad g (d))), (1, .int (nI (q)))] := hl
  refine lv_iconst (v := nI (0)) X.1 X.2.1 dX1_letPass_0 (by decide +kernel) ?_
  refine lv_istore_n (lv' := [(2, .int (nI (0))), (0, .ref (tb_ad g (d))), (1, .int (nI (q)))]) X.1 X.2.1 dX1_letPass_1 rfl hl (by decide) rfl (fun ls hl => ?_)
  refine lv_iconst (v := nI (0)) X.1 X.2.1 dX1_letPass_2 (by decide +kernel) ?_
  refine lv_istore_n (lv' := [(3, .int (nI (0))), (2, .int (nI (0))), (0, .ref (tb_ad g (d))), (1, .int (nI (q)))]) X.1 X.2.1 dX1_letPass_3 rfl hl (by decide) rfl (fun ls hl => ?_)
  have L_4 : ∀ (k : Nat) (i : Nat), i + k = q → ∀ (H : Heap) (locs : List Loc) (ls : Array Slot), tb_H g s.heap (tb_lpZ z d i) H locs → lv_has ls 4 [(0, .ref (tb_ad g (d))), (1, .int (nI (q))), (2, .int (tb_lpN z d i)), (3, .int (nI (i)))] → W p l e (tb_rm 6) s m ([.ref (tb_ad g d), .int (nI q)] : List Value).toArray below meth c H locs 0 0 (MQ below (va_Qi (fun r9 u9 => r9 = tb_lpN z d q ∧ u9 = tb_lpZ z d q) (tb_B g) (tb_A g)) ([.ref (tb_ad g d), .int (nI q)] : List Value).toArray s 0 0 (tb_A g)) (F0 m 4 ls []) := by
    intro k
    induction k with
    | zero =>
      intro i hik H locs ls hH hl
      refine lv_iload_n X.1 X.2.1 dX1_letPass_4 rfl (lv_at hl 3 rfl) ?_
      refine lv_iload_n X.1 X.2.1 dX1_letPass_5 rfl (lv_at hl 1 rfl) ?_
      refine tb_nge (tgt := 25) X (by omega) (by omega) dX1_letPass_6 (by decide) (fun _ => ?_) (fun c => ((by omega) : False).elim)
      refine lv_iload_n X.1 X.2.1 dX1_letPass_25 rfl (lv_at hl 2 rfl) ?_
      exact tb_ri X hr hlk hH ⟨(by rw [show i = q by omega]), (by rw [show i = q by omega])⟩ dX1_letPass_26
    | succ k ih_4 =>
      intro i hik H locs ls hH hl
      refine lv_iload_n X.1 X.2.1 dX1_letPass_4 rfl (lv_at hl 3 rfl) ?_
      refine lv_iload_n X.1 X.2.1 dX1_letPass_5 rfl (lv_at hl 1 rfl) ?_
      refine tb_nge (tgt := 25) X (by omega) (by omega) dX1_letPass_6 (by decide) (fun c => ((by omega) : False).elim) (fun _ => ?_)
      refine lv_aload_n X.1 X.2.1 dX1_letPass_9 rfl (lv_at hl 0 rfl) ?_
      refine tb_cVi X hH hl.1 (c_X1_startsInTick l g (tb_lpZ z d i) d hd (hW i (by omega))) ky_X1_startsInTick.1 ky_X1_startsInTick.2 wm_429 (tb_oD hd) rfl rfl (Nat.le_of_ble_eq_true rfl) ⟨by decide, by decide⟩ ⟨by decide, by decide⟩ dX1_letPass_10 (fun H locs hH => ?_)
      have J_1 : ∀ (H : Heap) (locs : List Loc) (ls : Array Slot) (vq1 : Int32), vq1 = (if (sp_X1_startsInTick (tb_lpZ z d i) d) then ((tb_lpN z d i) + nI 1) else (tb_lpN z d i)) → tb_H g s.heap (sz_X1_startsInTick (tb_lpZ z d i) d) H locs → lv_has ls 4 [(0, .ref (tb_ad g (d))), (1, .int (nI (q))), (2, .int vq1), (3, .int (nI (i)))] → W p l e (tb_rm 6) s m ([.ref (tb_ad g d), .int (nI q)] : List Value).toArray below meth c H locs 0 0 (MQ below (va_Qi (fun r9 u9 => r9 = tb_lpN z d q ∧ u9 = tb_lpZ z d q) (tb_B g) (tb_A g)) ([.ref (tb_ad g d), .int (nI q)] : List Value).toArray s 0 0 (tb_A g)) (F0 m 19 ls []) := by
        intro H locs ls vq1 evq1 hH hl
        subst evq1
        refine lv_iinc (v := nI (i + 1)) (lv' := [(3, .int (nI (i + 1))), (0, .ref (tb_ad g (d))), (1, .int (nI (q))), (2, .int (if (sp_X1_startsInTick (tb_lpZ z d i) d) then ((tb_lpN z d i) + nI 1) else (tb_lpN z d i)))]) X.1 X.2.1 dX1_letPass_19 hl (k := 3) rfl (nI_add _ _) (by decide) rfl (fun ls hl => ?_)
        refine lv_goto (tgt := 4) X.1 X.2.1 dX1_letPass_22 (by decide) ?_
        exact ih_4 (i + 1) (by omega) _ _ _ hH (lv_sub hl [1, 2, 3, 0] rfl)
      refine tb_jbeq (tgt := 19) X dX1_letPass_13 (by decide) (fun c_1 => ?_) (fun c_1 => ?_)
      · exact J_1 _ _ _ _ (by simp only [if_neg c_1]) hH (lv_sub hl [0, 1, 2, 3] rfl)
      · refine lv_iinc (v := (tb_lpN z d i) + nI 1) (lv' := [(2, .int ((tb_lpN z d i) + nI 1)), (0, .ref (tb_ad g (d))), (1, .int (nI (q))), (3, .int (nI (i)))]) X.1 X.2.1 dX1_letPass_16 hl (k := 2) rfl rfl (by decide) rfl (fun ls hl => ?_)
        exact J_1 _ _ _ _ (by simp only [if_pos c_1]) hH (lv_sub hl [1, 2, 0, 3] rfl)
  exact L_4 q 0 (by omega) _ _ _ hH (lv_sub hl [2, 3, 1, 0] rfl)
def sz_X1_copyFrom_m1 (z : tb_M) (d : Nat) (b : Nat) : tb_M := sz_X4_copyFrom (sz_X0_copyFrom (sz_X0_copyFrom (tb_cp z (b + 1) (d + 1) 3) (d + 2) (b + 2)) (d + 5) (b + 5)) (d + 11) (b + 11)
def sz_X1_copyFrom_m2 (z : tb_M) (d : Nat) (b : Nat) : tb_M := tb_up (sz_X1_copyFrom_m1 z d b) d 5 ((sz_X1_copyFrom_m1 z d b) b 5)
def sz_X1_copyFrom_m3 (z : tb_M) (d : Nat) (b : Nat) : tb_M := tb_up (sz_X1_copyFrom_m2 z d b) d 6 ((sz_X1_copyFrom_m2 z d b) b 6)
def sz_X1_copyFrom_m4 (z : tb_M) (d : Nat) (b : Nat) : tb_M := tb_up (sz_X1_copyFrom_m3 z d b) d 7 ((sz_X1_copyFrom_m3 z d b) b 7)
def sz_X1_copyFrom_m5 (z : tb_M) (d : Nat) (b : Nat) : tb_M := tb_up (sz_X1_copyFrom_m4 z d b) d 8 ((sz_X1_copyFrom_m4 z d b) b 8)
def sz_X1_copyFrom_m6 (z : tb_M) (d : Nat) (b : Nat) : tb_M := tb_up (sz_X1_copyFrom_m5 z d b) d 9 ((sz_X1_copyFrom_m5 z d b) b 9)
set_option maxHeartbeats 4000000 in
set_option maxRecDepth 100000 in
theorem c_X1_copyFrom (l : Launch) (g : tb_G) (z : tb_M) (d : Nat) (hd : tb_isD d) (b : Nat) (hb : tb_isD b) : tb_Mv l yX1_copyFrom cX1_copyFrom 2 2 g z [.ref (tb_ad g d), .ref (tb_ad g b)] (sz_X1_copyFrom_m6 z d b) := by
  refine tb_gov (own := RX1) (by decide +kernel) rfl (Nat.le_of_ble_eq_true rfl) ?_
  intro p e s m below meth c ls X hr hlk hH hl
  have hl : lv_has ls 2 [(0, .ref (tb_ad g (d))), (1, .ref (tb_ad g (b)))] := hl
  refine lv_aload_n X.1 X.2.1 dX1_copyFrom_0 rfl (lv_at hl 1 rfl) ?_
  refine tb_get X hH (tb_Dc hb).1 ((tb_Dc hb).2 _ _) rfl inlX1 0 (by decide) wm_34 (v := .ref (tb_ad g (b + 1))) rfl dX1_copyFrom_1 ?_
  refine lv_iconst (v := nI (0)) X.1 X.2.1 dX1_copyFrom_4 (by decide +kernel) ?_
  refine lv_aload_n X.1 X.2.1 dX1_copyFrom_5 rfl (lv_at hl 0 rfl) ?_
  refine tb_get X hH (tb_Dc hd).1 ((tb_Dc hd).2 _ _) rfl inlX1 0 (by decide) wm_34 (v := .ref (tb_ad g (d + 1))) rfl dX1_copyFrom_6 ?_
  refine lv_iconst (v := nI (0)) X.1 X.2.1 dX1_copyFrom_9 (by decide +kernel) ?_
  refine lv_iconst (v := nI (3)) X.1 X.2.1 dX1_copyFrom_10 (by decide +kernel) ?_
  refine tb_acp X hH hl.1 (tb_iset hb) (tb_iset hd) 3 (by decide) (by decide) (by decide) wm_134 wm_135 wm_136 wm_137 (by decide) (Nat.le_of_ble_eq_true rfl) dX1_copyFrom_11 (fun H locs hH => ?_)
  refine lv_aload_n X.1 X.2.1 dX1_copyFrom_14 rfl (lv_at hl 0 rfl) ?_
  refine tb_get X hH (tb_Dc hd).1 ((tb_Dc hd).2 _ _) rfl inlX1 1 (by decide) wm_38 (v := .ref (tb_ad g (d + 2))) rfl dX1_copyFrom_15 ?_
  refine lv_aload_n X.1 X.2.1 dX1_copyFrom_18 rfl (lv_at hl 1 rfl) ?_
  refine tb_get X hH (tb_Dc hb).1 ((tb_Dc hb).2 _ _) rfl inlX1 1 (by decide) wm_38 (v := .ref (tb_ad g (b + 2))) rfl dX1_copyFrom_19 ?_
  refine tb_cVv X hH hl.1 (c_X0_copyFrom l g (tb_cp z (b + 1) (d + 1) 3) (d + 2) (tb_A1 hd) (b + 2) (tb_A1 hb)) ky_X0_copyFrom.1 ky_X0_copyFrom.2 wm_142 (tb_oA (tb_A1 hd)) rfl rfl (Nat.le_of_ble_eq_true rfl) ⟨by decide, by decide⟩ ⟨by decide, by decide⟩ dX1_copyFrom_22 (fun H locs hH => ?_)
  refine lv_aload_n X.1 X.2.1 dX1_copyFrom_25 rfl (lv_at hl 0 rfl) ?_
  refine tb_get X hH (tb_Dc hd).1 ((tb_Dc hd).2 _ _) rfl inlX1 2 (by decide) wm_39 (v := .ref (tb_ad g (d + 5))) rfl dX1_copyFrom_26 ?_
  refine lv_aload_n X.1 X.2.1 dX1_copyFrom_29 rfl (lv_at hl 1 rfl) ?_
  refine tb_get X hH (tb_Dc hb).1 ((tb_Dc hb).2 _ _) rfl inlX1 2 (by decide) wm_39 (v := .ref (tb_ad g (b + 5))) rfl dX1_copyFrom_30 ?_
  refine tb_cVv X hH hl.1 (c_X0_copyFrom l g (sz_X0_copyFrom (tb_cp z (b + 1) (d + 1) 3) (d + 2) (b + 2)) (d + 5) (tb_A2 hd) (b + 5) (tb_A2 hb)) ky_X0_copyFrom.1 ky_X0_copyFrom.2 wm_142 (tb_oA (tb_A2 hd)) rfl rfl (Nat.le_of_ble_eq_true rfl) ⟨by decide, by decide⟩ ⟨by decide, by decide⟩ dX1_copyFrom_33 (fun H locs hH => ?_)
  refine lv_aload_n X.1 X.2.1 dX1_copyFrom_36 rfl (lv_at hl 0 rfl) ?_
  refine tb_get X hH (tb_Dc hd).1 ((tb_Dc hd).2 _ _) rfl inlX1 4 (by decide) wm_44 (v := .ref (tb_ad g (d + 11))) rfl dX1_copyFrom_37 ?_
  refine lv_aload_n X.1 X.2.1 dX1_copyFrom_40 rfl (lv_at hl 1 rfl) ?_
  refine tb_get X hH (tb_Dc hb).1 ((tb_Dc hb).2 _ _) rfl inlX1 4 (by decide) wm_44 (v := .ref (tb_ad g (b + 11))) rfl dX1_copyFrom_41 ?_
  refine tb_cVv X hH hl.1 (c_X4_copyFrom l g (sz_X0_copyFrom (sz_X0_copyFrom (tb_cp z (b + 1) (d + 1) 3) (d + 2) (b + 2)) (d + 5) (b + 5)) (d + 11) (tb_S1 hd) (b + 11) (tb_S1 hb)) ky_X4_copyFrom.1 ky_X4_copyFrom.2 wm_147 (tb_oS (tb_S1 hd)) rfl rfl (Nat.le_of_ble_eq_true rfl) ⟨by decide, by decide⟩ ⟨by decide, by decide⟩ dX1_copyFrom_44 (fun H locs hH => ?_)
  have hH : tb_H g s.heap (sz_X1_copyFrom_m1 z d b) H locs := hH
  refine lv_aload_n X.1 X.2.1 dX1_copyFrom_47 rfl (lv_at hl 0 rfl) ?_
  refine lv_aload_n X.1 X.2.1 dX1_copyFrom_48 rfl (lv_at hl 1 rfl) ?_
  refine tb_get X hH (tb_Dc hb).1 ((tb_Dc hb).2 _ _) rfl inlX1 5 (by decide) wm_45 (v := .int ((sz_X1_copyFrom_m1 z d b) b 5)) rfl dX1_copyFrom_49 ?_
  refine tb_putD X hH hd 5 (by decide) wm_45 dX1_copyFrom_52 (fun H locs hH => ?_)
  have hH : tb_H g s.heap (sz_X1_copyFrom_m2 z d b) H locs := hH
  refine lv_aload_n X.1 X.2.1 dX1_copyFrom_55 rfl (lv_at hl 0 rfl) ?_
  refine lv_aload_n X.1 X.2.1 dX1_copyFrom_56 rfl (lv_at hl 1 rfl) ?_
  refine tb_get X hH (tb_Dc hb).1 ((tb_Dc hb).2 _ _) rfl inlX1 6 (by decide) wm_138 (v := .int ((sz_X1_copyFrom_m2 z d b) b 6)) rfl dX1_copyFrom_57 ?_
  refine tb_putD X hH hd 6 (by decide) wm_138 dX1_copyFrom_60 (fun H locs hH => ?_)
  have hH : tb_H g s.heap (sz_X1_copyFrom_m3 z d b) H locs := hH
  refine lv_aload_n X.1 X.2.1 dX1_copyFrom_63 rfl (lv_at hl 0 rfl) ?_
  refine lv_aload_n X.1 X.2.1 dX1_copyFrom_64 rfl (lv_at hl 1 rfl) ?_
  refine tb_get X hH (tb_Dc hb).1 ((tb_Dc hb).2 _ _) rfl inlX1 7 (by decide) wm_139 (v := .int ((sz_X1_copyFrom_m3 z d b) b 7)) rfl dX1_copyFrom_65 ?_
  refine tb_putD X hH hd 7 (by decide) wm_139 dX1_copyFrom_68 (fun H locs hH => ?_)
  have hH : tb_H g s.heap (sz_X1_copyFrom_m4 z d b) H locs := hH
  refine lv_aload_n X.1 X.2.1 dX1_copyFrom_71 rfl (lv_at hl 0 rfl) ?_
  refine lv_aload_n X.1 X.2.1 dX1_copyFrom_72 rfl (lv_at hl 1 rfl) ?_
  refine tb_get X hH (tb_Dc hb).1 ((tb_Dc hb).2 _ _) rfl inlX1 8 (by decide) wm_140 (v := .int ((sz_X1_copyFrom_m4 z d b) b 8)) rfl dX1_copyFrom_73 ?_
  refine tb_putD X hH hd 8 (by decide) wm_140 dX1_copyFrom_76 (fun H locs hH => ?_)
  have hH : tb_H g s.heap (sz_X1_copyFrom_m5 z d b) H locs := hH
  refine lv_aload_n X.1 X.2.1 dX1_copyFrom_79 rfl (lv_at hl 0 rfl) ?_
  refine lv_aload_n X.1 X.2.1 dX1_copyFrom_80 rfl (lv_at hl 1 rfl) ?_
  refine tb_get X hH (tb_Dc hb).1 ((tb_Dc hb).2 _ _) rfl inlX1 9 (by decide) wm_141 (v := .int ((sz_X1_copyFrom_m5 z d b) b 9)) rfl dX1_copyFrom_81 ?_
  refine tb_putD X hH hd 9 (by decide) wm_141 dX1_copyFrom_84 (fun H locs hH => ?_)
  have hH : tb_H g s.heap (sz_X1_copyFrom_m6 z d b) H locs := hH
  exact tb_rv X hr hlk hH rfl dX1_copyFrom_87
end
section
def sz_X2_record_m1 (z : tb_M) (b : Nat) (rc : Nat) : tb_M := sz_X1_copyFrom_m6 z (60 + 15 * ((rc % 6))) b
def sz_X2_record_m2 (z : tb_M) (b : Nat) (rc : Nat) : tb_M := tb_up (sz_X2_record_m1 z b rc) 153 1 (((sz_X2_record_m1 z b rc) 153 1) + (nI (1)))
def sz_X2_record (z : tb_M) (b : Nat) (rc : Nat) : tb_M := tb_up (sz_X2_record_m2 z b rc) 153 0 (if nI (6) < ((sz_X2_record_m2 z b rc) 153 0) + (nI (1)) then nI (6) else ((sz_X2_record_m2 z b rc) 153 0) + (nI (1)))
set_option maxHeartbeats 4000000 in
set_option maxRecDepth 100000 in
theorem c_X2_record (l : Launch) (g : tb_G) (z : tb_M) (b : Nat) (hb : tb_isD b) (rc : Nat) (hrc : z 153 1 = nI rc) (hrc2 : rc < 2 ^ 30) : tb_Mv l yX2_record cX2_record 2 3 g z [.ref (tb_ad g 153), .ref (tb_ad g b)] (sz_X2_record z b rc) := by
  refine tb_gov (own := RX2) (by decide +kernel) rfl (Nat.le_of_ble_eq_true rfl) ?_
  intro p e s m below meth c ls X hr hlk hH hl
  have hl : lv_has ls 2 [(0, .ref (tb_ad g (153))), (1, .ref (tb_ad g (b)))] := hl
  refine lv_aload_n X.1 X.2.1 dX2_record_0 rfl (lv_at hl 0 rfl) ?_
  refine tb_get X hH tb_Hc.1 (tb_Hc.2 _ _) rfl inlX2 2 (by decide) wm_89 (v := .ref (tb_ad g (154))) rfl dX2_record_1 ?_
  refine lv_aload_n X.1 X.2.1 dX2_record_4 rfl (lv_at hl 0 rfl) ?_
  refine tb_get X hH tb_Hc.1 (tb_Hc.2 _ _) rfl inlX2 1 (by decide) wm_120 (v := .int (z 153 1)) rfl dX2_record_5 ?_
  refine tb_top (x2 := nI (rc)) (hrc) ?_
  refine lv_bipush (v := nI (6)) X.1 X.2.1 dX2_record_8 (by decide +kernel) ?_
  refine tb_cSi X hH hl.1 (c_J9_floorMod_7cf53 l g z rc 6 (by omega) (by decide) (by decide)) ky_J9_floorMod_7cf53.1 ky_J9_floorMod_7cf53.2 wm_126 rfl rfl (Nat.le_of_ble_eq_true rfl) ⟨by decide, by decide⟩ ⟨by decide, by decide⟩ dX2_record_10 (fun H locs hH => ?_)
  refine tb_aalH X hH ((rc % 6)) rfl (by omega) dX2_record_13 ?_
  refine lv_aload_n X.1 X.2.1 dX2_record_14 rfl (lv_at hl 1 rfl) ?_
  refine tb_cVv X hH hl.1 (c_X1_copyFrom l g z (60 + 15 * ((rc % 6))) (tb_DH (j := (rc % 6)) (by omega)) b hb) ky_X1_copyFrom.1 ky_X1_copyFrom.2 wm_130 (tb_oD (tb_DH (j := (rc % 6)) (by omega))) rfl rfl (Nat.le_of_ble_eq_true rfl) ⟨by decide, by decide⟩ ⟨by decide, by decide⟩ dX2_record_15 (fun H locs hH => ?_)
  have hH : tb_H g s.heap (sz_X2_record_m1 z b rc) H locs := hH
  refine lv_aload_n X.1 X.2.1 dX2_record_18 rfl (lv_at hl 0 rfl) ?_
  refine lv_dup X.1 X.2.1 dX2_record_19 rfl ?_
  refine tb_get X hH tb_Hc.1 (tb_Hc.2 _ _) rfl inlX2 1 (by decide) wm_120 (v := .int ((sz_X2_record_m1 z b rc) 153 1)) rfl dX2_record_20 ?_
  refine lv_iconst (v := nI (1)) X.1 X.2.1 dX2_record_23 (by decide +kernel) ?_
  refine lv_iadd X.1 X.2.1 dX2_record_24 ?_
  refine tb_putHi X hH 1 (by decide) wm_120 dX2_record_25 (fun H locs hH => ?_)
  have hH : tb_H g s.heap (sz_X2_record_m2 z b rc) H locs := hH
  refine lv_aload_n X.1 X.2.1 dX2_record_28 rfl (lv_at hl 0 rfl) ?_
  refine lv_aload_n X.1 X.2.1 dX2_record_29 rfl (lv_at hl 0 rfl) ?_
  refine tb_get X hH tb_Hc.1 (tb_Hc.2 _ _) rfl inlX2 0 (by decide) wm_121 (v := .int ((sz_X2_record_m2 z b rc) 153 0)) rfl dX2_record_30 ?_
  refine lv_iconst (v := nI (1)) X.1 X.2.1 dX2_record_33 (by decide +kernel) ?_
  refine lv_iadd X.1 X.2.1 dX2_record_34 ?_
  refine lv_bipush (v := nI (6)) X.1 X.2.1 dX2_record_35 (by decide +kernel) ?_
  refine tb_cmin X hl.1 wm_122 wm_123 wm_124 wm_125 (by decide) (Nat.le_of_ble_eq_true rfl) ⟨by decide, by decide⟩ dX2_record_37 ?_
  refine tb_putHi X hH 0 (by decide) wm_121 dX2_record_40 (fun H locs hH => ?_)
  exact tb_rv X hr hlk hH (by rw [sz_X2_record]) dX2_record_43
def sz_X2_takeBack_m1 (z : tb_M) (b : Nat) (rc : Nat) : tb_M := sz_X1_copyFrom_m6 (tb_up z 153 1 (nI (rc - 1))) b (60 + 15 * (((rc - 1) % 6)))
def sz_X2_takeBack (z : tb_M) (b : Nat) (rc : Nat) : tb_M := tb_up (sz_X2_takeBack_m1 z b rc) 153 0 (((sz_X2_takeBack_m1 z b rc) 153 0) - (nI (1)))
set_option maxHeartbeats 4000000 in
set_option maxRecDepth 100000 in
theorem c_X2_takeBack (l : Launch) (g : tb_G) (z : tb_M) (b : Nat) (hb : tb_isD b) (rc : Nat) (hrc : z 153 1 = nI rc) (hrc2 : rc < 2 ^ 30) (hrc3 : 1 ≤ rc) : tb_Mv l yX2_takeBack cX2_takeBack 2 3 g z [.ref (tb_ad g 153), .ref (tb_ad g b)] (sz_X2_takeBack z b rc) := by
  refine tb_gov (own := RX2) (by decide +kernel) rfl (Nat.le_of_ble_eq_true rfl) ?_
  intro p e s m below meth c ls X hr hlk hH hl
  have hl : lv_has ls 2 [(0, .ref (tb_ad g (153))), (1, .ref (tb_ad g (b)))] := hl
  refine lv_aload_n X.1 X.2.1 dX2_takeBack_0 rfl (lv_at hl 0 rfl) ?_
  refine lv_dup X.1 X.2.1 dX2_takeBack_1 rfl ?_
  refine tb_get X hH tb_Hc.1 (tb_Hc.2 _ _) rfl inlX2 1 (by decide) wm_120 (v := .int (z 153 1)) rfl dX2_takeBack_2 ?_
  refine tb_top (x2 := nI (rc)) (hrc) ?_
  refine lv_iconst (v := nI (1)) X.1 X.2.1 dX2_takeBack_5 (by decide +kernel) ?_
  refine tb_isubN X (by omega) dX2_takeBack_6 ?_
  refine tb_putHi X hH 1 (by decide) wm_120 dX2_takeBack_7 (fun H locs hH => ?_)
  refine lv_aload_n X.1 X.2.1 dX2_takeBack_10 rfl (lv_at hl 1 rfl) ?_
  refine lv_aload_n X.1 X.2.1 dX2_takeBack_11 rfl (lv_at hl 0 rfl) ?_
  refine tb_get X hH tb_Hc.1 (tb_Hc.2 _ _) rfl inlX2 2 (by decide) wm_89 (v := .ref (tb_ad g (154))) rfl dX2_takeBack_12 ?_
  refine lv_aload_n X.1 X.2.1 dX2_takeBack_15 rfl (lv_at hl 0 rfl) ?_
  refine tb_get X hH tb_Hc.1 (tb_Hc.2 _ _) rfl inlX2 1 (by decide) wm_120 (v := .int ((tb_up z 153 1 (nI (rc - 1))) 153 1)) rfl dX2_takeBack_16 ?_
  refine tb_top (x2 := nI (rc - 1)) (tb_up_s _ _ _ _) ?_
  refine lv_bipush (v := nI (6)) X.1 X.2.1 dX2_takeBack_19 (by decide +kernel) ?_
  refine tb_cSi X hH hl.1 (c_J9_floorMod_7cf53 l g (tb_up z 153 1 (nI (rc - 1))) (rc - 1) 6 (by omega) (by decide) (by decide)) ky_J9_floorMod_7cf53.1 ky_J9_floorMod_7cf53.2 wm_126 rfl rfl (Nat.le_of_ble_eq_true rfl) ⟨by decide, by decide⟩ ⟨by decide, by decide⟩ dX2_takeBack_21 (fun H locs hH => ?_)
  refine tb_aalH X hH (((rc - 1) % 6)) rfl (by omega) dX2_takeBack_24 ?_
  refine tb_cVv X hH hl.1 (c_X1_copyFrom l g (tb_up z 153 1 (nI (rc - 1))) b hb (60 + 15 * (((rc - 1) % 6))) (tb_DH (j := ((rc - 1) % 6)) (by omega))) ky_X1_copyFrom.1 ky_X1_copyFrom.2 wm_130 (tb_oD hb) rfl rfl (Nat.le_of_ble_eq_true rfl) ⟨by decide, by decide⟩ ⟨by decide, by decide⟩ dX2_takeBack_25 (fun H locs hH => ?_)
  have hH : tb_H g s.heap (sz_X2_takeBack_m1 z b rc) H locs := hH
  refine lv_aload_n X.1 X.2.1 dX2_takeBack_28 rfl (lv_at hl 0 rfl) ?_
  refine lv_dup X.1 X.2.1 dX2_takeBack_29 rfl ?_
  refine tb_get X hH tb_Hc.1 (tb_Hc.2 _ _) rfl inlX2 0 (by decide) wm_121 (v := .int ((sz_X2_takeBack_m1 z b rc) 153 0)) rfl dX2_takeBack_30 ?_
  refine lv_iconst (v := nI (1)) X.1 X.2.1 dX2_takeBack_33 (by decide +kernel) ?_
  refine lv_isub X.1 X.2.1 dX2_takeBack_34 ?_
  refine tb_putHi X hH 0 (by decide) wm_121 dX2_takeBack_35 (fun H locs hH => ?_)
  exact tb_rv X hr hlk hH (by rw [sz_X2_takeBack]) dX2_takeBack_38
set_option maxHeartbeats 4000000 in
set_option maxRecDepth 100000 in
theorem c_X3_clear (l : Launch) (g : tb_G) (z : tb_M)  : tb_Mv l yX3_clear cX3_clear 1 0 g z [.ref (tb_ad g 155)] (tb_up z 155 0 (nI (0))) := by
  refine tb_gov (own := RX3) (by decide +kernel) rfl (Nat.le_of_ble_eq_true rfl) ?_
  intro p e s m below meth c ls X hr hlk hH hl
  have hl : lv_has ls 1 [(0, .ref (tb_ad g (155)))] := hl
  refine lv_aload_n X.1 X.2.1 dX3_clear_0 rfl (lv_at hl 0 rfl) ?_
  refine lv_iconst (v := nI (0)) X.1 X.2.1 dX3_clear_1 (by decide +kernel) ?_
  refine tb_putP X hH wm_276 dX3_clear_2 (fun H locs hH => ?_)
  exact tb_rv X hr hlk hH rfl dX3_clear_5
def sr_X3_digitAt (z : tb_M) (k : Nat) : Int32 := if (¬ ((z 156 k) < (nI (48))) ∧ (¬ ((nI (57)) < (z 156 k)))) then ((z 156 k) - (nI (48))) else (if (¬ ((z 156 k) < (nI (97))) ∧ (¬ ((nI (102)) < (z 156 k)))) then (((z 156 k) - (nI (97))) + (nI (10))) else ((-1)))
set_option maxHeartbeats 4000000 in
set_option maxRecDepth 100000 in
theorem c_X3_digitAt (l : Launch) (g : tb_G) (z : tb_M) (k : Nat) (hk : k < 64) : tb_Mi (.int) l yX3_digitAt cX3_digitAt 3 1 g z [.ref (tb_ad g 155), .int (nI k)] (sr_X3_digitAt z k) (z) := by
  refine tb_goi (own := RX3) (by decide +kernel) rfl (Nat.le_of_ble_eq_true rfl) ?_
  intro p e s m below meth c ls X hr hlk hH hl
  have hl : lv_has ls 3 [(0, .ref (tb_ad g (155))), (1, .int (nI (k)))] := hl
  refine lv_iload_n X.1 X.2.1 dX3_digitAt_0 rfl (lv_at hl 1 rfl) ?_
  refine lv_iconst (v := nI (0)) X.1 X.2.1 dX3_digitAt_1 (by decide +kernel) ?_
  refine lv_bipush (v := nI (63)) X.1 X.2.1 dX3_digitAt_2 (by decide +kernel) ?_
  refine tb_cNi X hH hl.1 (c_X5_isWithin l g z (nI (k)) (nI (0)) (nI (63))) ky_X5_isWithin.1 ky_X5_isWithin.2 X.2.2.2.2.1.2.2.1.2.2.1 rfl rfl (Nat.le_of_ble_eq_true rfl) ⟨by decide, by decide⟩ ⟨by decide, by decide⟩ dX3_digitAt_4 (fun H locs hH => ?_)
  refine tb_jbeq (tgt := 19) X dX3_digitAt_7 (by decide) (fun c => (c ⟨nI_nlt (by omega) (by omega), nI_nlt (by omega) (by omega)⟩ : False).elim) (fun _ => ?_)
  refine lv_aload_n X.1 X.2.1 dX3_digitAt_10 rfl (lv_at hl 0 rfl) ?_
  refine tb_get X hH tb_Pc.1 (tb_Pc.2 _ _) rfl inlX3 1 (by decide) wm_94 (v := .ref (tb_ad g (156))) rfl dX3_digitAt_11 ?_
  refine lv_iload_n X.1 X.2.1 dX3_digitAt_14 rfl (lv_at hl 1 rfl) ?_
  refine tb_ald X hH tb_i156 (k) rfl (by omega) (by decide) dX3_digitAt_15 ?_
  refine lv_goto (tgt := 20) X.1 X.2.1 dX3_digitAt_16 (by decide) ?_
  refine lv_istore_n (lv' := [(2, .int (z 156 k)), (0, .ref (tb_ad g (155))), (1, .int (nI (k)))]) X.1 X.2.1 dX3_digitAt_20 rfl hl (by decide) rfl (fun ls hl => ?_)
  refine lv_iload_n X.1 X.2.1 dX3_digitAt_21 rfl (lv_at hl 0 rfl) ?_
  refine lv_bipush (v := nI (48)) X.1 X.2.1 dX3_digitAt_22 (by decide +kernel) ?_
  refine lv_bipush (v := nI (57)) X.1 X.2.1 dX3_digitAt_24 (by decide +kernel) ?_
  refine tb_cNi X hH hl.1 (c_X5_isWithin l g z (z 156 k) (nI (48)) (nI (57))) ky_X5_isWithin.1 ky_X5_isWithin.2 X.2.2.2.2.1.2.2.1.2.2.1 rfl rfl (Nat.le_of_ble_eq_true rfl) ⟨by decide, by decide⟩ ⟨by decide, by decide⟩ dX3_digitAt_26 (fun H locs hH => ?_)
  refine tb_jbeq (tgt := 37) X dX3_digitAt_29 (by decide) (fun c_1 => ?_) (fun c_1 => ?_)
  · refine lv_iload_n X.1 X.2.1 dX3_digitAt_37 rfl (lv_at hl 0 rfl) ?_
    refine lv_bipush (v := nI (97)) X.1 X.2.1 dX3_digitAt_38 (by decide +kernel) ?_
    refine lv_bipush (v := nI (102)) X.1 X.2.1 dX3_digitAt_40 (by decide +kernel) ?_
    refine tb_cNi X hH hl.1 (c_X5_isWithin l g z (z 156 k) (nI (97)) (nI (102))) ky_X5_isWithin.1 ky_X5_isWithin.2 X.2.2.2.2.1.2.2.1.2.2.1 rfl rfl (Nat.le_of_ble_eq_true rfl) ⟨by decide, by decide⟩ ⟨by decide, by decide⟩ dX3_digitAt_42 (fun H locs hH => ?_)
    have J_1 : ∀ (H : Heap) (locs : List Loc) (ls : Array Slot) (vq1 : Int32), vq1 = (if (¬ ((z 156 k) < (nI (97))) ∧ (¬ ((nI (102)) < (z 156 k)))) then (((z 156 k) - (nI (97))) + (nI (10))) else ((-1))) → tb_H g s.heap z H locs → lv_has ls 3 [(2, .int (z 156 k)), (0, .ref (tb_ad g (155))), (1, .int (nI (k)))] → W p l e (tb_rm 1) s m ([.ref (tb_ad g 155), .int (nI k)] : List Value).toArray below meth c H locs 0 0 (MQ below (va_Qi (fun r9 u9 => r9 = sr_X3_digitAt z k ∧ u9 = z) (tb_B g) (tb_A g)) ([.ref (tb_ad g 155), .int (nI k)] : List Value).toArray s 0 0 (tb_A g)) (F0 m 59 ls [.int vq1]) := by
      intro H locs ls vq1 evq1 hH hl
      subst evq1
      exact tb_ri X hr hlk hH ⟨(by rw [sr_X3_digitAt]; simp only [if_neg c_1]), rfl⟩ dX3_digitAt_59
    refine tb_jbeq (tgt := 58) X dX3_digitAt_45 (by decide) (fun c_2 => ?_) (fun c_2 => ?_)
    · refine lv_iconst (v := (-1)) X.1 X.2.1 dX3_digitAt_58 (by decide +kernel) ?_
      exact J_1 _ _ _ _ (by simp only [if_neg c_2]) hH (lv_sub hl [0, 1, 2] rfl)
    · refine lv_iload_n X.1 X.2.1 dX3_digitAt_48 rfl (lv_at hl 0 rfl) ?_
      refine lv_bipush (v := nI (97)) X.1 X.2.1 dX3_digitAt_49 (by decide +kernel) ?_
      refine lv_isub X.1 X.2.1 dX3_digitAt_51 ?_
      refine lv_bipush (v := nI (10)) X.1 X.2.1 dX3_digitAt_52 (by decide +kernel) ?_
      refine lv_iadd X.1 X.2.1 dX3_digitAt_54 ?_
      refine lv_goto (tgt := 59) X.1 X.2.1 dX3_digitAt_55 (by decide) ?_
      exact J_1 _ _ _ _ (by simp only [if_pos c_2]) hH (lv_sub hl [0, 1, 2] rfl)
  · refine lv_iload_n X.1 X.2.1 dX3_digitAt_32 rfl (lv_at hl 0 rfl) ?_
    refine lv_bipush (v := nI (48)) X.1 X.2.1 dX3_digitAt_33 (by decide +kernel) ?_
    refine lv_isub X.1 X.2.1 dX3_digitAt_35 ?_
    exact tb_ri X hr hlk hH ⟨(by rw [sr_X3_digitAt]; simp only [if_pos c_1]), rfl⟩ dX3_digitAt_36
set_option maxHeartbeats 4000000 in
set_option maxRecDepth 100000 in
theorem c_X3_words (l : Launch) (g : tb_G) (z : tb_M) (n : Nat) (hn : z 155 0 = nI n) (hn2 : n ≤ 64) : tb_Mi (.int) l yX3_words cX3_words 1 0 g z [.ref (tb_ad g 155)] (nI (n / 2)) (z) := by
  refine tb_goi (own := RX3) (by decide +kernel) rfl (Nat.le_of_ble_eq_true rfl) ?_
  intro p e s m below meth c ls X hr hlk hH hl
  have hl : lv_has ls 1 [(0, .ref (tb_ad g (155)))] := hl
  refine lv_aload_n X.1 X.2.1 dX3_words_0 rfl (lv_at hl 0 rfl) ?_
  refine tb_get X hH tb_Pc.1 (tb_Pc.2 _ _) rfl inlX3 0 (by decide) wm_276 (v := .int (z 155 0)) rfl dX3_words_1 ?_
  refine tb_top (x2 := nI (n)) (hn) ?_
  refine lv_iconst (v := nI (2)) X.1 X.2.1 dX3_words_4 (by decide +kernel) ?_
  refine lv_idiv X.1 X.2.1 dX3_words_5 (by decide +kernel) ?_
  refine tb_top (x2 := nI (n / 2)) (pk_div (by omega) (by decide) (by decide)) ?_
  exact tb_ri X hr hlk hH ⟨rfl, rfl⟩ dX3_words_6
def sr_X3_wordAt (z : tb_M) (k : Nat) : Int32 := ((nI (16)) * ((sr_X3_digitAt z (2 * k)))) + ((sr_X3_digitAt z ((2 * k) + 1)))
set_option maxHeartbeats 4000000 in
set_option maxRecDepth 100000 in
theorem c_X3_wordAt (l : Launch) (g : tb_G) (z : tb_M) (k : Nat) (hk : k < 32) : tb_Mi (.int) l yX3_wordAt cX3_wordAt 2 2 g z [.ref (tb_ad g 155), .int (nI k)] (sr_X3_wordAt z k) (z) := by
  refine tb_goi (own := RX3) (by decide +kernel) rfl (Nat.le_of_ble_eq_true rfl) ?_
  intro p e s m below meth c ls X hr hlk hH hl
  have hl : lv_has ls 2 [(0, .ref (tb_ad g (155))), (1, .int (nI (k)))] := hl
  refine lv_bipush (v := nI (16)) X.1 X.2.1 dX3_wordAt_0 (by decide +kernel) ?_
  refine lv_aload_n X.1 X.2.1 dX3_wordAt_2 rfl (lv_at hl 0 rfl) ?_
  refine lv_iconst (v := nI (2)) X.1 X.2.1 dX3_wordAt_3 (by decide +kernel) ?_
  refine lv_iload_n X.1 X.2.1 dX3_wordAt_4 rfl (lv_at hl 1 rfl) ?_
  refine tb_imulN X dX3_wordAt_5 ?_
  refine tb_cVi X hH hl.1 (c_X3_digitAt l g z (2 * k) (by first | assumption | omega | decide)) ky_X3_digitAt.1 ky_X3_digitAt.2 wm_277 tb_oP rfl rfl (Nat.le_of_ble_eq_true rfl) ⟨by decide, by decide⟩ ⟨by decide, by decide⟩ dX3_wordAt_6 (fun H locs hH => ?_)
  refine lv_imul X.1 X.2.1 dX3_wordAt_9 ?_
  refine lv_aload_n X.1 X.2.1 dX3_wordAt_10 rfl (lv_at hl 0 rfl) ?_
  refine lv_iconst (v := nI (2)) X.1 X.2.1 dX3_wordAt_11 (by decide +kernel) ?_
  refine lv_iload_n X.1 X.2.1 dX3_wordAt_12 rfl (lv_at hl 1 rfl) ?_
  refine tb_imulN X dX3_wordAt_13 ?_
  refine lv_iconst (v := nI (1)) X.1 X.2.1 dX3_wordAt_14 (by decide +kernel) ?_
  refine tb_iaddN X dX3_wordAt_15 ?_
  refine tb_cVi X hH hl.1 (c_X3_digitAt l g z ((2 * k) + 1) (by first | assumption | omega | decide)) ky_X3_digitAt.1 ky_X3_digitAt.2 wm_277 tb_oP rfl rfl (Nat.le_of_ble_eq_true rfl) ⟨by decide, by decide⟩ ⟨by decide, by decide⟩ dX3_wordAt_16 (fun H locs hH => ?_)
  refine lv_iadd X.1 X.2.1 dX3_wordAt_19 ?_
  exact tb_ri X hr hlk hH ⟨(by rw [sr_X3_wordAt]), rfl⟩ dX3_wordAt_20
set_option maxHeartbeats 4000000 in
set_option maxRecDepth 100000 in
theorem c_X3_sumOfWords (l : Launch) (g : tb_G) (z : tb_M) (n : Nat) (hn : z 155 0 = nI n) (hn2 : n ≤ 64) : tb_Mi (.int) l yX3_sumOfWords cX3_sumOfWords 3 3 g z [.ref (tb_ad g 155)] (tb_sm (sr_X3_wordAt z) (n / 2)) (z) := by
  refine tb_goi (own := RX3) (by decide +kernel) rfl (Nat.le_of_ble_eq_true rfl) ?_
  intro p e s m below meth c ls X hr hlk hH hl
  have hl : lv_has ls 3 [(0, .ref (tb_ad g (155)))] := hl
  refine lv_iconst (v := nI (1)) X.1 X.2.1 dX3_sumOfWords_0 (by decide +kernel) ?_
  refine lv_istore_n (lv' := [(1, .int (nI (1))), (0, .ref (tb_ad g (155)))]) X.1 X.2.1 dX3_sumOfWords_1 rfl hl (by decide) rfl (fun ls hl => ?_)
  refine lv_iconst (v := nI (0)) X.1 X.2.1 dX3_sumOfWords_2 (by decide +kernel) ?_
  refine lv_istore_n (lv' := [(2, .int (nI (0))), (1, .int (nI (1))), (0, .ref (tb_ad g (155)))]) X.1 X.2.1 dX3_sumOfWords_3 rfl hl (by decide) rfl (fun ls hl => ?_)
  have L_4 : ∀ (k : Nat) (i : Nat), i + k = n / 2 → ∀ (H : Heap) (locs : List Loc) (ls : Array Slot), tb_H g s.heap (z) H locs → lv_has ls 3 [(0, .ref (tb_ad g (155))), (1, .int (tb_sm (sr_X3_wordAt z) i)), (2, .int (nI (i)))] → W p l e (tb_rm 3) s m ([.ref (tb_ad g 155)] : List Value).toArray below meth c H locs 0 0 (MQ below (va_Qi (fun r9 u9 => r9 = tb_sm (sr_X3_wordAt z) (n / 2) ∧ u9 = z) (tb_B g) (tb_A g)) ([.ref (tb_ad g 155)] : List Value).toArray s 0 0 (tb_A g)) (F0 m 4 ls []) := by
    intro k
    induction k with
    | zero =>
      intro i hik H locs ls hH hl
      refine lv_iload_n X.1 X.2.1 dX3_sumOfWords_4 rfl (lv_at hl 2 rfl) ?_
      refine lv_aload_n X.1 X.2.1 dX3_sumOfWords_5 rfl (lv_at hl 0 rfl) ?_
      refine tb_cVi X hH hl.1 (c_X3_words l g z n (by first | assumption | omega | decide) (by first | assumption | omega | decide)) ky_X3_words.1 ky_X3_words.2 wm_529 tb_oP rfl rfl (Nat.le_of_ble_eq_true rfl) ⟨by decide, by decide⟩ ⟨by decide, by decide⟩ dX3_sumOfWords_6 (fun H locs hH => ?_)
      refine tb_nge (tgt := 28) X (by omega) (by omega) dX3_sumOfWords_9 (by decide) (fun _ => ?_) (fun c => ((by omega) : False).elim)
      refine lv_iload_n X.1 X.2.1 dX3_sumOfWords_28 rfl (lv_at hl 1 rfl) ?_
      exact tb_ri X hr hlk hH ⟨(by rw [show i = n / 2 by omega]), rfl⟩ dX3_sumOfWords_29
    | succ k ih_4 =>
      intro i hik H locs ls hH hl
      refine lv_iload_n X.1 X.2.1 dX3_sumOfWords_4 rfl (lv_at hl 2 rfl) ?_
      refine lv_aload_n X.1 X.2.1 dX3_sumOfWords_5 rfl (lv_at hl 0 rfl) ?_
      refine tb_cVi X hH hl.1 (c_X3_words l g z n (by first | assumption | omega | decide) (by first | assumption | omega | decide)) ky_X3_words.1 ky_X3_words.2 wm_529 tb_oP rfl rfl (Nat.le_of_ble_eq_true rfl) ⟨by decide, by decide⟩ ⟨by decide, by decide⟩ dX3_sumOfWords_6 (fun H locs hH => ?_)
      refine tb_nge (tgt := 28) X (by omega) (by omega) dX3_sumOfWords_9 (by decide) (fun c => ((by omega) : False).elim) (fun _ => ?_)
      refine lv_iload_n X.1 X.2.1 dX3_sumOfWords_12 rfl (lv_at hl 1 rfl) ?_
      refine lv_aload_n X.1 X.2.1 dX3_sumOfWords_13 rfl (lv_at hl 0 rfl) ?_
      refine lv_iload_n X.1 X.2.1 dX3_sumOfWords_14 rfl (lv_at hl 2 rfl) ?_
      refine tb_cVi X hH hl.1 (c_X3_wordAt l g z i (by first | assumption | omega | decide)) ky_X3_wordAt.1 ky_X3_wordAt.2 wm_530 tb_oP rfl rfl (Nat.le_of_ble_eq_true rfl) ⟨by decide, by decide⟩ ⟨by decide, by decide⟩ dX3_sumOfWords_15 (fun H locs hH => ?_)
      refine tb_cNi X hH hl.1 (c_X5_sumWith l g z (tb_sm (sr_X3_wordAt z) i) ((sr_X3_wordAt z i))) ky_X5_sumWith.1 ky_X5_sumWith.2 X.2.2.2.2.1.2.2.1.2.2.2 rfl rfl (Nat.le_of_ble_eq_true rfl) ⟨by decide, by decide⟩ ⟨by decide, by decide⟩ dX3_sumOfWords_18 (fun H locs hH => ?_)
      refine lv_istore_n (lv' := [(1, .int ((tb_sw (tb_sm (sr_X3_wordAt z) i) ((sr_X3_wordAt z i))))), (0, .ref (tb_ad g (155))), (2, .int (nI (i)))]) X.1 X.2.1 dX3_sumOfWords_21 rfl hl (by decide) rfl (fun ls hl => ?_)
      refine lv_iinc (v := nI (i + 1)) (lv' := [(2, .int (nI (i + 1))), (1, .int ((tb_sw (tb_sm (sr_X3_wordAt z) i) ((sr_X3_wordAt z i))))), (0, .ref (tb_ad g (155)))]) X.1 X.2.1 dX3_sumOfWords_22 hl (k := 2) rfl (nI_add _ _) (by decide) rfl (fun ls hl => ?_)
      refine lv_goto (tgt := 4) X.1 X.2.1 dX3_sumOfWords_25 (by decide) ?_
      exact ih_4 (i + 1) (by omega) _ _ _ hH (lv_sub hl [2, 1, 0] rfl)
  exact L_4 (n / 2) 0 (by omega) _ _ _ hH (lv_sub hl [2, 1, 0] rfl)
set_option maxHeartbeats 4000000 in
set_option maxRecDepth 100000 in
theorem c_X3_firstFault (l : Launch) (g : tb_G) (z : tb_M) (n : Nat) (hn : z 155 0 = nI n) (hn2 : n ≤ 64) : tb_Mi (.int) l yX3_firstFault cX3_firstFault 2 2 g z [.ref (tb_ad g 155)] (tb_ff (sr_X3_digitAt z) (tb_tl n) n 0) (z) := by
  refine tb_goi (own := RX3) (by decide +kernel) rfl (Nat.le_of_ble_eq_true rfl) ?_
  intro p e s m below meth c ls X hr hlk hH hl
  have hl : lv_has ls 2 [(0, .ref (tb_ad g (155)))] := hl
  refine lv_iconst (v := nI (0)) X.1 X.2.1 dX3_firstFault_0 (by decide +kernel) ?_
  refine lv_istore_n (lv' := [(1, .int (nI (0))), (0, .ref (tb_ad g (155)))]) X.1 X.2.1 dX3_firstFault_1 rfl hl (by decide) rfl (fun ls hl => ?_)
  have L_2 : ∀ (k : Nat) (i : Nat), i + k = n → tb_ff (sr_X3_digitAt z) (tb_tl n) n 0 = tb_ff (sr_X3_digitAt z) (tb_tl n) k i → ∀ (H : Heap) (locs : List Loc) (ls : Array Slot), tb_H g s.heap (z) H locs → lv_has ls 2 [(0, .ref (tb_ad g (155))), (1, .int (nI (i)))] → W p l e (tb_rm 2) s m ([.ref (tb_ad g 155)] : List Value).toArray below meth c H locs 0 0 (MQ below (va_Qi (fun r9 u9 => r9 = tb_ff (sr_X3_digitAt z) (tb_tl n) n 0 ∧ u9 = z) (tb_B g) (tb_A g)) ([.ref (tb_ad g 155)] : List Value).toArray s 0 0 (tb_A g)) (F0 m 2 ls []) := by
    intro k
    induction k with
    | zero =>
      intro i hik hR H locs ls hH hl
      refine lv_iload_n X.1 X.2.1 dX3_firstFault_2 rfl (lv_at hl 1 rfl) ?_
      refine lv_aload_n X.1 X.2.1 dX3_firstFault_3 rfl (lv_at hl 0 rfl) ?_
      refine tb_get X hH tb_Pc.1 (tb_Pc.2 _ _) rfl inlX3 0 (by decide) wm_276 (v := .int (z 155 0)) rfl dX3_firstFault_4 ?_
      refine tb_top (x2 := nI (n)) (hn) ?_
      refine tb_nge (tgt := 32) X (by omega) (by omega) dX3_firstFault_7 (by decide) (fun _ => ?_) (fun c => ((by omega) : False).elim)
      refine lv_aload_n X.1 X.2.1 dX3_firstFault_32 rfl (lv_at hl 0 rfl) ?_
      refine tb_get X hH tb_Pc.1 (tb_Pc.2 _ _) rfl inlX3 0 (by decide) wm_276 (v := .int (z 155 0)) rfl dX3_firstFault_33 ?_
      refine tb_top (x2 := nI (n)) (hn) ?_
      have J_1 : ∀ (H : Heap) (locs : List Loc) (ls : Array Slot) (vq1 : Int32), vq1 = (if n = 0 then (nI (n)) else (if (n % 2) = 1 then (nI (n)) else ((-6)))) → tb_H g s.heap z H locs → lv_has ls 2 [(0, .ref (tb_ad g (155))), (1, .int (nI (i)))] → W p l e (tb_rm 2) s m ([.ref (tb_ad g 155)] : List Value).toArray below meth c H locs 0 0 (MQ below (va_Qi (fun r9 u9 => r9 = tb_ff (sr_X3_digitAt z) (tb_tl n) n 0 ∧ u9 = z) (tb_B g) (tb_A g)) ([.ref (tb_ad g 155)] : List Value).toArray s 0 0 (tb_A g)) (F0 m 58 ls [.int vq1]) := by
        intro H locs ls vq1 evq1 hH hl
        subst evq1
        exact tb_ri X hr hlk hH ⟨(by rw [hR, tb_ff, tb_tl]), rfl⟩ dX3_firstFault_58
      refine tb_zeq (tgt := 49) X (by omega) dX3_firstFault_36 (by decide) (fun c_1 => ?_) (fun c_1 => ?_)
      · refine lv_aload_n X.1 X.2.1 dX3_firstFault_49 rfl (lv_at hl 0 rfl) ?_
        refine tb_get X hH tb_Pc.1 (tb_Pc.2 _ _) rfl inlX3 0 (by decide) wm_276 (v := .int (z 155 0)) rfl dX3_firstFault_50 ?_
        refine tb_top (x2 := nI (n)) (hn) ?_
        refine lv_goto (tgt := 58) X.1 X.2.1 dX3_firstFault_53 (by decide) ?_
        exact J_1 _ _ _ _ (by simp only [if_pos c_1]) hH (lv_sub hl [0, 1] rfl)
      · refine lv_aload_n X.1 X.2.1 dX3_firstFault_39 rfl (lv_at hl 0 rfl) ?_
        refine tb_get X hH tb_Pc.1 (tb_Pc.2 _ _) rfl inlX3 0 (by decide) wm_276 (v := .int (z 155 0)) rfl dX3_firstFault_40 ?_
        refine tb_top (x2 := nI (n)) (hn) ?_
        refine lv_iconst (v := nI (2)) X.1 X.2.1 dX3_firstFault_43 (by decide +kernel) ?_
        refine lv_irem X.1 X.2.1 dX3_firstFault_44 (by decide +kernel) ?_
        refine tb_top (x2 := nI (n % 2)) (pk_rem (by omega) (by decide) (by decide)) ?_
        refine lv_iconst (v := nI (1)) X.1 X.2.1 dX3_firstFault_45 (by decide +kernel) ?_
        refine tb_nne (tgt := 56) X (by omega) (by omega) dX3_firstFault_46 (by decide) (fun c_2 => ?_) (fun c_2 => ?_)
        · refine lv_bipush (v := (-6)) X.1 X.2.1 dX3_firstFault_56 (by decide +kernel) ?_
          exact J_1 _ _ _ _ (by simp only [if_neg c_1, if_neg c_2]) hH (lv_sub hl [0, 1] rfl)
        · refine lv_aload_n X.1 X.2.1 dX3_firstFault_49 rfl (lv_at hl 0 rfl) ?_
          refine tb_get X hH tb_Pc.1 (tb_Pc.2 _ _) rfl inlX3 0 (by decide) wm_276 (v := .int (z 155 0)) rfl dX3_firstFault_50 ?_
          refine tb_top (x2 := nI (n)) (hn) ?_
          refine lv_goto (tgt := 58) X.1 X.2.1 dX3_firstFault_53 (by decide) ?_
          exact J_1 _ _ _ _ (by simp only [if_neg c_1, if_pos c_2]) hH (lv_sub hl [0, 1] rfl)
    | succ k ih_2 =>
      intro i hik hR H locs ls hH hl
      refine lv_iload_n X.1 X.2.1 dX3_firstFault_2 rfl (lv_at hl 1 rfl) ?_
      refine lv_aload_n X.1 X.2.1 dX3_firstFault_3 rfl (lv_at hl 0 rfl) ?_
      refine tb_get X hH tb_Pc.1 (tb_Pc.2 _ _) rfl inlX3 0 (by decide) wm_276 (v := .int (z 155 0)) rfl dX3_firstFault_4 ?_
      refine tb_top (x2 := nI (n)) (hn) ?_
      refine tb_nge (tgt := 32) X (by omega) (by omega) dX3_firstFault_7 (by decide) (fun c => ((by omega) : False).elim) (fun _ => ?_)
      refine lv_iload_n X.1 X.2.1 dX3_firstFault_10 rfl (lv_at hl 1 rfl) ?_
      refine lv_bipush (v := nI (64)) X.1 X.2.1 dX3_firstFault_11 (by decide +kernel) ?_
      refine tb_nge (tgt := 32) X (by omega) (by omega) dX3_firstFault_13 (by decide) (fun c => ((by omega) : False).elim) (fun _ => ?_)
      refine lv_aload_n X.1 X.2.1 dX3_firstFault_16 rfl (lv_at hl 0 rfl) ?_
      refine lv_iload_n X.1 X.2.1 dX3_firstFault_17 rfl (lv_at hl 1 rfl) ?_
      refine tb_cVi X hH hl.1 (c_X3_digitAt l g z i (by first | assumption | omega | decide)) ky_X3_digitAt.1 ky_X3_digitAt.2 wm_277 tb_oP rfl rfl (Nat.le_of_ble_eq_true rfl) ⟨by decide, by decide⟩ ⟨by decide, by decide⟩ dX3_firstFault_18 (fun H locs hH => ?_)
      refine lv_if_ge (tgt := 26) X.1 X.2.1 dX3_firstFault_21 (by decide) (fun c_3 => ?_) (fun c_3 => ?_)
      · refine lv_iinc (v := nI (i + 1)) (lv' := [(1, .int (nI (i + 1))), (0, .ref (tb_ad g (155)))]) X.1 X.2.1 dX3_firstFault_26 hl (k := 1) rfl (nI_add _ _) (by decide) rfl (fun ls hl => ?_)
        refine lv_goto (tgt := 2) X.1 X.2.1 dX3_firstFault_29 (by decide) ?_
        exact ih_2 (i + 1) (by omega) (by rw [hR, tb_ff, if_pos c_3]) _ _ _ hH (lv_sub hl [1, 0] rfl)
      · refine lv_iload_n X.1 X.2.1 dX3_firstFault_24 rfl (lv_at hl 1 rfl) ?_
        exact tb_ri X hr hlk hH ⟨(by rw [hR, tb_ff, if_neg c_3]), rfl⟩ dX3_firstFault_25
  exact L_2 n 0 (by omega) rfl _ _ _ hH (lv_sub hl [1, 0] rfl)
set_option maxHeartbeats 4000000 in
set_option maxRecDepth 100000 in
theorem c_X3_charactersIn (l : Launch) (g : tb_G) (z : tb_M) (x : Int64) : tb_Mi (.int) l yX3_charactersIn cX3_charactersIn 5 1 g z [.long x] (nI (tb_ci 8 x 0)) (z) := by
  refine tb_goi (own := RX3) (by decide +kernel) rfl (Nat.le_of_ble_eq_true rfl) ?_
  intro p e s m below meth c ls X hr hlk hH hl
  have hl : lv_has ls 5 [(0, .long (x))] := hl
  refine lv_lload_n X.1 X.2.1 dX3_charactersIn_0 rfl (lv_at hl 0 rfl) ?_
  refine lv_lstore_n (lv' := [(2, .long (x)), (0, .long (x))]) X.1 X.2.1 dX3_charactersIn_1 rfl hl (by decide) rfl (fun ls hl => ?_)
  refine lv_iconst (v := nI (0)) X.1 X.2.1 dX3_charactersIn_2 (by decide +kernel) ?_
  refine lv_istore (lv' := [(4, .int (nI (0))), (2, .long (x)), (0, .long (x))]) X.1 X.2.1 dX3_charactersIn_3 hl (by decide) rfl (fun ls hl => ?_)
  have L_5 : ∀ (k : Nat) (y : Int64) (f : Nat), f + k = 8 → tb_ci 8 x 0 = tb_ci k y f → ∀ (H : Heap) (locs : List Loc) (ls : Array Slot), tb_H g s.heap (z) H locs → lv_has ls 5 [(0, .long (x)), (2, .long (y)), (4, .int (nI (f)))] → W p l e (tb_rm 1) s m ([.long x] : List Value).toArray below meth c H locs 0 0 (MQ below (va_Qi (fun r9 u9 => r9 = nI (tb_ci 8 x 0) ∧ u9 = z) (tb_B g) (tb_A g)) ([.long x] : List Value).toArray s 0 0 (tb_A g)) (F0 m 5 ls []) := by
    intro k
    induction k with
    | zero =>
      intro y f hfk hR H locs ls hH hl
      refine lv_iload X.1 X.2.1 dX3_charactersIn_5 (lv_at hl 2 rfl) ?_
      refine lv_bipush (v := nI (8)) X.1 X.2.1 dX3_charactersIn_7 (by decide +kernel) ?_
      refine tb_nge (tgt := 39) X (by omega) (by omega) dX3_charactersIn_9 (by decide) (fun _ => ?_) (fun c => ((by omega) : False).elim)
      refine lv_lload_n X.1 X.2.1 dX3_charactersIn_39 rfl (lv_at hl 1 rfl) ?_
      refine lv_lconst (v := 0) X.1 X.2.1 dX3_charactersIn_40 (by decide +kernel) ?_
      refine W.lcmp X.1 X.2.1 dX3_charactersIn_41 ?_
      have J_1 : ∀ (H : Heap) (locs : List Loc) (ls : Array Slot) (vq1 : Int32), vq1 = (nI (if y = ((0 : Int64)) then f else 0)) → tb_H g s.heap z H locs → lv_has ls 5 [(0, .long (x)), (2, .long (y)), (4, .int (nI (f)))] → W p l e (tb_rm 1) s m ([.long x] : List Value).toArray below meth c H locs 0 0 (MQ below (va_Qi (fun r9 u9 => r9 = nI (tb_ci 8 x 0) ∧ u9 = z) (tb_B g) (tb_A g)) ([.long x] : List Value).toArray s 0 0 (tb_A g)) (F0 m 51 ls [.int vq1]) := by
        intro H locs ls vq1 evq1 hH hl
        subst evq1
        exact tb_ri X hr hlk hH ⟨(by rw [hR, tb_ci]), rfl⟩ dX3_charactersIn_51
      refine tb_jlne (tgt := 50) X dX3_charactersIn_42 (by decide) (fun c_1 => ?_) (fun c_1 => ?_)
      · refine lv_iconst (v := nI (0)) X.1 X.2.1 dX3_charactersIn_50 (by decide +kernel) ?_
        exact J_1 _ _ _ _ (by simp only [if_neg c_1]) hH (lv_sub hl [0, 1, 2] rfl)
      · refine lv_iload X.1 X.2.1 dX3_charactersIn_45 (lv_at hl 2 rfl) ?_
        refine lv_goto (tgt := 51) X.1 X.2.1 dX3_charactersIn_47 (by decide) ?_
        exact J_1 _ _ _ _ (by simp only [if_pos c_1]) hH (lv_sub hl [0, 1, 2] rfl)
    | succ k ih_5 =>
      intro y f hfk hR H locs ls hH hl
      refine lv_iload X.1 X.2.1 dX3_charactersIn_5 (lv_at hl 2 rfl) ?_
      refine lv_bipush (v := nI (8)) X.1 X.2.1 dX3_charactersIn_7 (by decide +kernel) ?_
      refine tb_nge (tgt := 39) X (by omega) (by omega) dX3_charactersIn_9 (by decide) (fun c => ((by omega) : False).elim) (fun _ => ?_)
      refine lv_lload_n X.1 X.2.1 dX3_charactersIn_12 rfl (lv_at hl 1 rfl) ?_
      refine lv_ldc2 X.1 X.2.1 X.2.2.2.1 (X.2.2.1 _ wm_584) dX3_charactersIn_13 ?_
      refine lv_land X.1 X.2.1 dX3_charactersIn_16 ?_
      refine lv_l2i X.1 X.2.1 dX3_charactersIn_17 (v := (y &&& ((255 : Int64))).toInt32) rfl ?_
      refine lv_bipush (v := nI (33)) X.1 X.2.1 dX3_charactersIn_18 (by decide +kernel) ?_
      refine lv_bipush (v := nI (126)) X.1 X.2.1 dX3_charactersIn_20 (by decide +kernel) ?_
      refine tb_cNi X hH hl.1 (c_X5_isWithin l g z ((y &&& ((255 : Int64))).toInt32) (nI (33)) (nI (126))) ky_X5_isWithin.1 ky_X5_isWithin.2 X.2.2.2.2.1.2.2.1.2.2.1 rfl rfl (Nat.le_of_ble_eq_true rfl) ⟨by decide, by decide⟩ ⟨by decide, by decide⟩ dX3_charactersIn_22 (fun H locs hH => ?_)
      refine tb_jbeq (tgt := 39) X dX3_charactersIn_25 (by decide) (fun c_2 => ?_) (fun c_2 => ?_)
      · refine lv_lload_n X.1 X.2.1 dX3_charactersIn_39 rfl (lv_at hl 1 rfl) ?_
        refine lv_lconst (v := 0) X.1 X.2.1 dX3_charactersIn_40 (by decide +kernel) ?_
        refine W.lcmp X.1 X.2.1 dX3_charactersIn_41 ?_
        have J_2 : ∀ (H : Heap) (locs : List Loc) (ls : Array Slot) (vq1 : Int32), vq1 = (nI (if y = ((0 : Int64)) then f else 0)) → tb_H g s.heap z H locs → lv_has ls 5 [(0, .long (x)), (2, .long (y)), (4, .int (nI (f)))] → W p l e (tb_rm 1) s m ([.long x] : List Value).toArray below meth c H locs 0 0 (MQ below (va_Qi (fun r9 u9 => r9 = nI (tb_ci 8 x 0) ∧ u9 = z) (tb_B g) (tb_A g)) ([.long x] : List Value).toArray s 0 0 (tb_A g)) (F0 m 51 ls [.int vq1]) := by
          intro H locs ls vq1 evq1 hH hl
          subst evq1
          exact tb_ri X hr hlk hH ⟨(by rw [hR, tb_ci, if_neg c_2]), rfl⟩ dX3_charactersIn_51
        refine tb_jlne (tgt := 50) X dX3_charactersIn_42 (by decide) (fun c_3 => ?_) (fun c_3 => ?_)
        · refine lv_iconst (v := nI (0)) X.1 X.2.1 dX3_charactersIn_50 (by decide +kernel) ?_
          exact J_2 _ _ _ _ (by simp only [if_neg c_3]) hH (lv_sub hl [0, 1, 2] rfl)
        · refine lv_iload X.1 X.2.1 dX3_charactersIn_45 (lv_at hl 2 rfl) ?_
          refine lv_goto (tgt := 51) X.1 X.2.1 dX3_charactersIn_47 (by decide) ?_
          exact J_2 _ _ _ _ (by simp only [if_pos c_3]) hH (lv_sub hl [0, 1, 2] rfl)
      · refine lv_lload_n X.1 X.2.1 dX3_charactersIn_28 rfl (lv_at hl 1 rfl) ?_
        refine lv_bipush (v := nI (8)) X.1 X.2.1 dX3_charactersIn_29 (by decide +kernel) ?_
        refine lv_lushr X.1 X.2.1 dX3_charactersIn_31 (v := tb_ushr y (nI (8))) rfl ?_
        refine lv_lstore_n (lv' := [(2, .long (tb_ushr y (nI (8)))), (0, .long (x)), (4, .int (nI (f)))]) X.1 X.2.1 dX3_charactersIn_32 rfl hl (by decide) rfl (fun ls hl => ?_)
        refine lv_iinc (v := nI (f + 1)) (lv' := [(4, .int (nI (f + 1))), (2, .long (tb_ushr y (nI (8)))), (0, .long (x))]) X.1 X.2.1 dX3_charactersIn_33 hl (k := 2) rfl (nI_add _ _) (by decide) rfl (fun ls hl => ?_)
        refine lv_goto (tgt := 5) X.1 X.2.1 dX3_charactersIn_36 (by decide) ?_
        exact ih_5 (tb_ushr y (nI 8)) (f + 1) (by omega) (by rw [hR, tb_ci, if_pos c_2]) _ _ _ hH (lv_sub hl [2, 1, 0] rfl)
  exact L_5 8 x 0 rfl rfl _ _ _ hH (lv_sub hl [2, 1, 0] rfl)
set_option maxHeartbeats 4000000 in
set_option maxRecDepth 100000 in
theorem c_X3_append (l : Launch) (g : tb_G) (z : tb_M) (x : Int64) (b : Nat) (n : Nat) (hn : z 155 0 = nI n) (hb : 1 ≤ b) (hnb : n + b ≤ 64) : tb_Mv l yX3_append cX3_append 5 0 g z [.ref (tb_ad g 155), .long x, .int (nI b)] (tb_ap z x n b b) := by
  refine tb_gov (own := RX3) (by decide +kernel) rfl (Nat.le_of_ble_eq_true rfl) ?_
  intro p e s m below meth c ls X hr hlk hH hl
  have hl : lv_has ls 5 [(0, .ref (tb_ad g (155))), (1, .long (x)), (3, .int (nI (b)))] := hl
  refine lv_iload_n X.1 X.2.1 dX3_append_0 rfl (lv_at hl 2 rfl) ?_
  refine lv_iconst (v := nI (1)) X.1 X.2.1 dX3_append_1 (by decide +kernel) ?_
  refine tb_isubN X (by omega) dX3_append_2 ?_
  refine tb_top (x2 := tb_pr b) (tb_pr_of hb) ?_
  refine lv_istore (lv' := [(4, .int (tb_pr b)), (0, .ref (tb_ad g (155))), (1, .long (x)), (3, .int (nI (b)))]) X.1 X.2.1 dX3_append_3 hl (by decide) rfl (fun ls hl => ?_)
  have L_5 : ∀ (k : Nat) (j : Nat), j + k = b → ∀ (H : Heap) (locs : List Loc) (ls : Array Slot), tb_H g s.heap (tb_ap z x n b j) H locs → lv_has ls 5 [(0, .ref (tb_ad g (155))), (1, .long (x)), (3, .int (nI (b))), (4, .int (tb_pr k))] → W p l e (tb_rm 0) s m ([.ref (tb_ad g 155), .long x, .int (nI b)] : List Value).toArray below meth c H locs 0 0 (MQ below (va_Qv (fun u9 => u9 = (tb_ap z x n b b)) (tb_B g) (tb_A g)) ([.ref (tb_ad g 155), .long x, .int (nI b)] : List Value).toArray s 0 0 (tb_A g)) (F0 m 5 ls []) := by
    intro k
    induction k with
    | zero =>
      intro j hjk H locs ls hH hl
      have hl : lv_has ls 5 [(0, .ref (tb_ad g (155))), (1, .long (x)), (3, .int (nI (b))), (4, .int ((-1)))] := hl
      refine lv_iload X.1 X.2.1 dX3_append_5 (lv_at hl 3 rfl) ?_
      refine lv_if_lt (tgt := 56) X.1 X.2.1 dX3_append_7 (by decide) (fun _ => ?_) (fun c => (c (by decide +kernel) : False).elim)
      exact tb_rv X hr hlk hH (by rw [show j = b by omega]) dX3_append_56
    | succ k ih_5 =>
      intro j hjk H locs ls hH hl
      have hl : lv_has ls 5 [(0, .ref (tb_ad g (155))), (1, .long (x)), (3, .int (nI (b))), (4, .int (nI (k)))] := hl
      refine lv_iload X.1 X.2.1 dX3_append_5 (lv_at hl 3 rfl) ?_
      refine lv_if_lt (tgt := 56) X.1 X.2.1 dX3_append_7 (by decide) (fun c => (absurd c (nI_pos (by omega)) : False).elim) (fun _ => ?_)
      refine lv_aload_n X.1 X.2.1 dX3_append_10 rfl (lv_at hl 0 rfl) ?_
      refine tb_get X hH tb_Pc.1 (tb_Pc.2 _ _) rfl inlX3 0 (by decide) wm_276 (v := .int ((tb_ap z x n b j) 155 0)) rfl dX3_append_11 ?_
      refine tb_top (x2 := nI (n + j)) (tb_ap_len _ _ hn _) ?_
      refine lv_bipush (v := nI (64)) X.1 X.2.1 dX3_append_14 (by decide +kernel) ?_
      refine tb_nge (tgt := 56) X (by omega) (by omega) dX3_append_16 (by decide) (fun c => ((by omega) : False).elim) (fun _ => ?_)
      refine lv_aload_n X.1 X.2.1 dX3_append_19 rfl (lv_at hl 0 rfl) ?_
      refine tb_get X hH tb_Pc.1 (tb_Pc.2 _ _) rfl inlX3 1 (by decide) wm_94 (v := .ref (tb_ad g (156))) rfl dX3_append_20 ?_
      refine lv_aload_n X.1 X.2.1 dX3_append_23 rfl (lv_at hl 0 rfl) ?_
      refine tb_get X hH tb_Pc.1 (tb_Pc.2 _ _) rfl inlX3 0 (by decide) wm_276 (v := .int ((tb_ap z x n b j) 155 0)) rfl dX3_append_24 ?_
      refine tb_top (x2 := nI (n + j)) (tb_ap_len _ _ hn _) ?_
      refine lv_lload_n X.1 X.2.1 dX3_append_27 rfl (lv_at hl 1 rfl) ?_
      refine lv_bipush (v := nI (8)) X.1 X.2.1 dX3_append_28 (by decide +kernel) ?_
      refine lv_iload X.1 X.2.1 dX3_append_30 (lv_at hl 3 rfl) ?_
      refine tb_imulN X dX3_append_32 ?_
      refine lv_lushr X.1 X.2.1 dX3_append_33 (v := tb_ushr x (nI (8 * k))) rfl ?_
      refine lv_ldc2 X.1 X.2.1 X.2.2.2.1 (X.2.2.1 _ wm_584) dX3_append_34 ?_
      refine lv_land X.1 X.2.1 dX3_append_37 ?_
      refine lv_l2i X.1 X.2.1 dX3_append_38 (v := ((tb_ushr x (nI (8 * k))) &&& ((255 : Int64))).toInt32) rfl ?_
      refine tb_ast X hH tb_i156 (n + j) rfl (by omega) (by decide) dX3_append_39 (fun H locs hH => ?_)
      refine lv_aload_n X.1 X.2.1 dX3_append_40 rfl (lv_at hl 0 rfl) ?_
      refine lv_dup X.1 X.2.1 dX3_append_41 rfl ?_
      refine tb_get X hH tb_Pc.1 (tb_Pc.2 _ _) rfl inlX3 0 (by decide) wm_276 (v := .int ((tb_up (tb_ap z x n b j) 156 (n + j) (((tb_ushr x (nI (8 * k))) &&& ((255 : Int64))).toInt32)) 155 0)) rfl dX3_append_42 ?_
      refine tb_top (x2 := nI (n + j)) (by rw [tb_up_k _ _ _ (by decide)]; exact tb_ap_len _ _ hn _) ?_
      refine lv_iconst (v := nI (1)) X.1 X.2.1 dX3_append_45 (by decide +kernel) ?_
      refine tb_iaddN X dX3_append_46 ?_
      refine tb_putP X hH wm_276 dX3_append_47 (fun H locs hH => ?_)
      refine lv_iinc (v := tb_pr k) (lv' := [(4, .int (tb_pr k)), (0, .ref (tb_ad g (155))), (1, .long (x)), (3, .int (nI (b)))]) X.1 X.2.1 dX3_append_50 hl (k := 3) rfl (tb_pr_dec k) (by decide) rfl (fun ls hl => ?_)
      refine lv_goto (tgt := 5) X.1 X.2.1 dX3_append_53 (by decide) ?_
      exact ih_5 (j + 1) (by omega) _ _ _ (by have e9 : k = b - 1 - j := (by omega); subst e9; exact hH) (lv_sub hl [1, 2, 3, 0] rfl)
  exact L_5 b 0 (by omega) _ _ _ hH (lv_sub hl [1, 2, 3, 0] rfl)
end
section
theorem tb_cpA_k (z : tb_M) {a k : Nat} (b : Nat) (h : k ≠ a ∧ k ≠ a + 1 ∧ k ≠ a + 2) : sz_X0_copyFrom z a b k = z k := by
  unfold sz_X0_copyFrom
  simp [tb_cp_k, tb_up_k, h]
theorem tb_cpS_k (z : tb_M) {a k : Nat} (b : Nat) (h : k ≠ a ∧ k ≠ a + 1 ∧ k ≠ a + 2 ∧ k ≠ a + 3) : sz_X4_copyFrom z a b k = z k := by
  unfold sz_X4_copyFrom
  simp [tb_cp_k, tb_up_k, h]
theorem tb_cpD_k (z : tb_M) {d k : Nat} (b : Nat) (h : k < d ∨ d + 15 ≤ k) : sz_X1_copyFrom_m6 z d b k = z k := by
  unfold sz_X1_copyFrom_m6 sz_X1_copyFrom_m5 sz_X1_copyFrom_m4 sz_X1_copyFrom_m3 sz_X1_copyFrom_m2 sz_X1_copyFrom_m1
  rw [tb_up_k _ _ _ (by omega), tb_up_k _ _ _ (by omega), tb_up_k _ _ _ (by omega), tb_up_k _ _ _ (by omega), tb_up_k _ _ _ (by omega), tb_cpS_k _ _ (by omega), tb_cpA_k _ _ (by omega), tb_cpA_k _ _ (by omega), tb_cp_k _ _ (by omega)]
theorem tb_rec_k (z : tb_M) {k : Nat} (b rc : Nat) (h : k < 60 ∨ (150 ≤ k ∧ k ≠ 153)) : sz_X2_record z b rc k = z k := by
  unfold sz_X2_record sz_X2_record_m2 sz_X2_record_m1
  have hm : rc % 6 < 6 := Nat.mod_lt _ (by decide)
  rw [tb_up_k _ _ _ (by omega), tb_up_k _ _ _ (by omega), tb_cpD_k _ _ (by omega)]
theorem tb_at_lt {r : Nat} : tb_at 0 r < 60 := by
  unfold tb_at
  repeat' split
  all_goals omega
theorem tb_rec_at (z : tb_M) (r b rc : Nat) : sz_X2_record z b rc (tb_at 0 r) = z (tb_at 0 r) := tb_rec_k z b rc (Or.inl tb_at_lt)
theorem tb_rec_okL {z : tb_M} {r : Nat} (b rc : Nat) (h : tb_okL z (tb_at 0 r)) : tb_okL (sz_X2_record z b rc) (tb_at 0 r) := tb_okL_c h (by rw [tb_rec_at])
theorem tb_rec_okS {z : tb_M} (b rc : Nat) (h : tb_okS z 0) : tb_okS (sz_X2_record z b rc) 0 := tb_okS_c h (fun r => by rw [tb_rec_at]) (by rw [tb_rec_k _ _ _ (by omega)])
def tb_fz (z : tb_M) (a f : Nat) : Nat → tb_M
  | 0 => z
  | i + 1 => tb_up (tb_up (tb_fz z a f i) (a + 1) (f + i) (sr_X3_wordAt (tb_fz z a f i) i)) a 5 (nI (f + i + 1))
theorem tb_fz_5 {z : tb_M} {a f : Nat} (h : z a 5 = nI f) (i : Nat) : tb_fz z a f i a 5 = nI (f + i) := by
  cases i with
  | zero => exact h
  | succ i => exact tb_up_s _ _ _ _
def tb_nsR (z : tb_M) (d : Nat) : Nat → Nat → Int32
  | 0, _ => (-6)
  | k + 1, i => if sp_X1_startsInTick (tb_lpZ z d i) d then nI (i + 1) else tb_nsR z d k (i + 1)
def tb_nsZ (z : tb_M) (d : Nat) : Nat → Nat → tb_M
  | 0, i => tb_lpZ z d i
  | k + 1, i => if sp_X1_startsInTick (tb_lpZ z d i) d then tb_lpZ z d (i + 1) else tb_nsZ z d k (i + 1)
theorem tb_out2 {x : Int32} (h0 : ¬ x = nI 0) (h1 : ¬ x = nI 1) (h2 : ¬ x = nI 2) : x.toInt < 0 ∨ 2 < x.toInt := by
  by_cases a : x < 0
  · left; simpa using Int32.lt_iff_toInt_lt.mp a
  · obtain ⟨j, hj, rfl⟩ := nI_of a
    right
    rw [nI_toInt hj]
    have g0 : j ≠ 0 := fun e => h0 (by rw [e])
    have g1 : j ≠ 1 := fun e => h1 (by rw [e])
    have g2 : j ≠ 2 := fun e => h2 (by rw [e])
    omega
theorem tb_outN {x : Int32} {n : Nat} (h : ∀ k, k ≤ n → ¬ x = nI k) : x.toInt < 0 ∨ (n : Int) < x.toInt := by
  by_cases a : x < 0
  · left; simpa using Int32.lt_iff_toInt_lt.mp a
  · obtain ⟨j, hj, rfl⟩ := nI_of a
    right
    rw [nI_toInt hj]
    have : ¬ j ≤ n := fun e => h j e rfl
    omega
theorem tb_out8 {x : Int32} (h0 : ¬ x = nI 0) (h1 : ¬ x = nI 1) (h2 : ¬ x = nI 2) (h3 : ¬ x = nI 3) (h4 : ¬ x = nI 4) (h5 : ¬ x = nI 5) (h6 : ¬ x = nI 6) (h7 : ¬ x = nI 7) (h8 : ¬ x = nI 8) : x.toInt < 0 ∨ 8 < x.toInt := by
  refine tb_outN (n := 8) (fun k hk => ?_)
  rcases (show k = 0 ∨ k = 1 ∨ k = 2 ∨ k = 3 ∨ k = 4 ∨ k = 5 ∨ k = 6 ∨ k = 7 ∨ k = 8 by omega) with rfl | rfl | rfl | rfl | rfl | rfl | rfl | rfl | rfl <;> assumption
theorem tb_out12 {x : Int32} (h0 : ¬ x = nI 0) (h1 : ¬ x = nI 1) (h2 : ¬ x = nI 2) (h3 : ¬ x = nI 3) (h4 : ¬ x = nI 4) (h5 : ¬ x = nI 5) (h6 : ¬ x = nI 6) (h7 : ¬ x = nI 7) (h8 : ¬ x = nI 8) (h9 : ¬ x = nI 9) (h10 : ¬ x = nI 10) (h11 : ¬ x = nI 11) (h12 : ¬ x = nI 12) : x.toInt < 0 ∨ 12 < x.toInt := by
  refine tb_outN (n := 12) (fun k hk => ?_)
  rcases (show k = 0 ∨ k = 1 ∨ k = 2 ∨ k = 3 ∨ k = 4 ∨ k = 5 ∨ k = 6 ∨ k = 7 ∨ k = 8 ∨ k = 9 ∨ k = 10 ∨ k = 11 ∨ k = 12 by omega) with rfl | rfl | rfl | rfl | rfl | rfl | rfl | rfl | rfl | rfl | rfl | rfl | rfl <;> assumption
set_option maxHeartbeats 4000000 in
set_option maxRecDepth 100000 in
theorem c_X5_isSlot (l : Launch) (g : tb_G) (z : tb_M) (x : Int32) : tb_Mi (.boolean) l yX5_isSlot cX5_isSlot 1 1 g z [.int x] (tb_b ((¬ (x < (nI (0))) ∧ (¬ ((nI (1)) < x))))) (z) := by
  refine tb_goi (own := RX5) (by decide +kernel) rfl (Nat.le_of_ble_eq_true rfl) ?_
  intro p e s m below meth c ls X hr hlk hH hl
  have hl : lv_has ls 1 [(0, .int (x))] := hl
  refine lv_iload_n X.1 X.2.1 dX5_isSlot_0 rfl (lv_at hl 0 rfl) ?_
  refine lv_iconst (v := nI (0)) X.1 X.2.1 dX5_isSlot_1 (by decide +kernel) ?_
  refine lv_iconst (v := nI (1)) X.1 X.2.1 dX5_isSlot_2 (by decide +kernel) ?_
  refine tb_cSi X hH hl.1 (c_X5_isWithin l g z x (nI (0)) (nI (1))) ky_X5_isWithin.1 ky_X5_isWithin.2 wm_115 rfl rfl (Nat.le_of_ble_eq_true rfl) ⟨by decide, by decide⟩ ⟨by decide, by decide⟩ dX5_isSlot_3 (fun H locs hH => ?_)
  exact tb_rz X hr hlk hH ⟨(Iff.rfl).symm, rfl⟩ dX5_isSlot_6
set_option maxHeartbeats 4000000 in
set_option maxRecDepth 100000 in
theorem c_X5_isLength (l : Launch) (g : tb_G) (z : tb_M) (x : Int32) : tb_Mi (.boolean) l yX5_isLength cX5_isLength 1 1 g z [.int x] (tb_b ((¬ (x < (nI (2))) ∧ (¬ ((nI (32)) < x))))) (z) := by
  refine tb_goi (own := RX5) (by decide +kernel) rfl (Nat.le_of_ble_eq_true rfl) ?_
  intro p e s m below meth c ls X hr hlk hH hl
  have hl : lv_has ls 1 [(0, .int (x))] := hl
  refine lv_iload_n X.1 X.2.1 dX5_isLength_0 rfl (lv_at hl 0 rfl) ?_
  refine lv_iconst (v := nI (2)) X.1 X.2.1 dX5_isLength_1 (by decide +kernel) ?_
  refine lv_bipush (v := nI (32)) X.1 X.2.1 dX5_isLength_2 (by decide +kernel) ?_
  refine tb_cSi X hH hl.1 (c_X5_isWithin l g z x (nI (2)) (nI (32))) ky_X5_isWithin.1 ky_X5_isWithin.2 wm_115 rfl rfl (Nat.le_of_ble_eq_true rfl) ⟨by decide, by decide⟩ ⟨by decide, by decide⟩ dX5_isLength_4 (fun H locs hH => ?_)
  exact tb_rz X hr hlk hH ⟨(Iff.rfl).symm, rfl⟩ dX5_isLength_7
set_option maxHeartbeats 4000000 in
set_option maxRecDepth 100000 in
theorem c_X5_pagesOf (l : Launch) (g : tb_G) (z : tb_M) (x : Nat) (hx : x < 1000) : tb_Mi (.int) l yX5_pagesOf cX5_pagesOf 1 0 g z [.int (nI x)] (nI ((x + 4 - 1) / 4)) (z) := by
  refine tb_goi (own := RX5) (by decide +kernel) rfl (Nat.le_of_ble_eq_true rfl) ?_
  intro p e s m below meth c ls X hr hlk hH hl
  have hl : lv_has ls 1 [(0, .int (nI (x)))] := hl
  refine lv_iload_n X.1 X.2.1 dX5_pagesOf_0 rfl (lv_at hl 0 rfl) ?_
  refine lv_iconst (v := nI (4)) X.1 X.2.1 dX5_pagesOf_1 (by decide +kernel) ?_
  refine tb_iaddN X dX5_pagesOf_2 ?_
  refine lv_iconst (v := nI (1)) X.1 X.2.1 dX5_pagesOf_3 (by decide +kernel) ?_
  refine tb_isubN X (by omega) dX5_pagesOf_4 ?_
  refine lv_iconst (v := nI (4)) X.1 X.2.1 dX5_pagesOf_5 (by decide +kernel) ?_
  refine lv_idiv X.1 X.2.1 dX5_pagesOf_6 (by decide +kernel) ?_
  refine tb_top (x2 := nI ((x + 4 - 1) / 4)) (pk_div (by omega) (by decide) (by decide)) ?_
  exact tb_ri X hr hlk hH ⟨rfl, rfl⟩ dX5_pagesOf_7
set_option maxHeartbeats 4000000 in
set_option maxRecDepth 100000 in
theorem c_X5_begin_bad (l : Launch) (g : tb_G) (z : tb_M) (x : Int32) (v : Int32) (n : Int32) (t : Int32) (hx : ¬ (¬ (x < nI 0) ∧ (¬ (nI 1 < x)))) : tb_Mi (.int) l yX5_begin cX5_begin 7 2 g z [.ref (tb_ad g 150), .int x, .int v, .int n, .int t] ((-1)) (z) := by
  refine tb_goi (own := RX5) (by decide +kernel) rfl (Nat.le_of_ble_eq_true rfl) ?_
  intro p e s m below meth c ls X hr hlk hH hl
  have hl : lv_has ls 7 [(0, .ref (tb_ad g (150))), (1, .int (x)), (2, .int (v)), (3, .int (n)), (4, .int (t))] := hl
  refine lv_iload_n X.1 X.2.1 dX5_begin_0 rfl (lv_at hl 1 rfl) ?_
  refine tb_cSi X hH hl.1 (c_X5_isSlot l g z x) ky_X5_isSlot.1 ky_X5_isSlot.2 wm_179 rfl rfl (Nat.le_of_ble_eq_true rfl) ⟨by decide, by decide⟩ ⟨by decide, by decide⟩ dX5_begin_1 (fun H locs hH => ?_)
  refine tb_jbne (tgt := 9) X dX5_begin_4 (by decide) (fun c => (hx c : False).elim) (fun _ => ?_)
  refine lv_iconst (v := (-1)) X.1 X.2.1 dX5_begin_7 (by decide +kernel) ?_
  exact tb_ri X hr hlk hH ⟨rfl, rfl⟩ dX5_begin_8
set_option maxHeartbeats 4000000 in
set_option maxRecDepth 100000 in
theorem c_X5_fill_bad (l : Launch) (g : tb_G) (z : tb_M) (x : Int32) (w : Int32) (hx : ¬ (¬ (x < nI 0) ∧ (¬ (nI 1 < x)))) : tb_Mi (.int) l yX5_fill cX5_fill 4 2 g z [.ref (tb_ad g 150), .int x, .int w] ((-1)) (z) := by
  refine tb_goi (own := RX5) (by decide +kernel) rfl (Nat.le_of_ble_eq_true rfl) ?_
  intro p e s m below meth c ls X hr hlk hH hl
  have hl : lv_has ls 4 [(0, .ref (tb_ad g (150))), (1, .int (x)), (2, .int (w))] := hl
  refine lv_iload_n X.1 X.2.1 dX5_fill_0 rfl (lv_at hl 1 rfl) ?_
  refine tb_cSi X hH hl.1 (c_X5_isSlot l g z x) ky_X5_isSlot.1 ky_X5_isSlot.2 wm_179 rfl rfl (Nat.le_of_ble_eq_true rfl) ⟨by decide, by decide⟩ ⟨by decide, by decide⟩ dX5_fill_1 (fun H locs hH => ?_)
  refine tb_jbne (tgt := 9) X dX5_fill_4 (by decide) (fun c => (hx c : False).elim) (fun _ => ?_)
  refine lv_iconst (v := (-1)) X.1 X.2.1 dX5_fill_7 (by decide +kernel) ?_
  exact tb_ri X hr hlk hH ⟨rfl, rfl⟩ dX5_fill_8
set_option maxHeartbeats 4000000 in
set_option maxRecDepth 100000 in
theorem c_X5_fillAll_bad (l : Launch) (g : tb_G) (z : tb_M) (x : Int32) (hx : ¬ (¬ (x < nI 0) ∧ (¬ (nI 1 < x)))) : tb_Mi (.int) l yX5_fillAll cX5_fillAll 5 2 g z [.ref (tb_ad g 150), .int x] ((-1)) (z) := by
  refine tb_goi (own := RX5) (by decide +kernel) rfl (Nat.le_of_ble_eq_true rfl) ?_
  intro p e s m below meth c ls X hr hlk hH hl
  have hl : lv_has ls 5 [(0, .ref (tb_ad g (150))), (1, .int (x))] := hl
  refine lv_iload_n X.1 X.2.1 dX5_fillAll_0 rfl (lv_at hl 1 rfl) ?_
  refine tb_cSi X hH hl.1 (c_X5_isSlot l g z x) ky_X5_isSlot.1 ky_X5_isSlot.2 wm_179 rfl rfl (Nat.le_of_ble_eq_true rfl) ⟨by decide, by decide⟩ ⟨by decide, by decide⟩ dX5_fillAll_1 (fun H locs hH => ?_)
  refine tb_jbne (tgt := 9) X dX5_fillAll_4 (by decide) (fun c => (hx c : False).elim) (fun _ => ?_)
  refine lv_iconst (v := (-1)) X.1 X.2.1 dX5_fillAll_7 (by decide +kernel) ?_
  exact tb_ri X hr hlk hH ⟨rfl, rfl⟩ dX5_fillAll_8
set_option maxHeartbeats 4000000 in
set_option maxRecDepth 100000 in
theorem c_X5_finish_bad (l : Launch) (g : tb_G) (z : tb_M) (x : Int32) (hx : ¬ (¬ (x < nI 0) ∧ (¬ (nI 1 < x)))) : tb_Mi (.int) l yX5_finish cX5_finish 3 2 g z [.ref (tb_ad g 150), .int x] ((-1)) (z) := by
  refine tb_goi (own := RX5) (by decide +kernel) rfl (Nat.le_of_ble_eq_true rfl) ?_
  intro p e s m below meth c ls X hr hlk hH hl
  have hl : lv_has ls 3 [(0, .ref (tb_ad g (150))), (1, .int (x))] := hl
  refine lv_iload_n X.1 X.2.1 dX5_finish_0 rfl (lv_at hl 1 rfl) ?_
  refine tb_cSi X hH hl.1 (c_X5_isSlot l g z x) ky_X5_isSlot.1 ky_X5_isSlot.2 wm_179 rfl rfl (Nat.le_of_ble_eq_true rfl) ⟨by decide, by decide⟩ ⟨by decide, by decide⟩ dX5_finish_1 (fun H locs hH => ?_)
  refine tb_jbne (tgt := 9) X dX5_finish_4 (by decide) (fun c => (hx c : False).elim) (fun _ => ?_)
  refine lv_iconst (v := (-1)) X.1 X.2.1 dX5_finish_7 (by decide +kernel) ?_
  exact tb_ri X hr hlk hH ⟨rfl, rfl⟩ dX5_finish_8
set_option maxHeartbeats 4000000 in
set_option maxRecDepth 100000 in
theorem c_X5_repair_bad (l : Launch) (g : tb_G) (z : tb_M) (x : Int32) (hx : ¬ (¬ (x < nI 0) ∧ (¬ (nI 1 < x)))) : tb_Mi (.int) l yX5_repair cX5_repair 3 2 g z [.ref (tb_ad g 150), .int x] ((-1)) (z) := by
  refine tb_goi (own := RX5) (by decide +kernel) rfl (Nat.le_of_ble_eq_true rfl) ?_
  intro p e s m below meth c ls X hr hlk hH hl
  have hl : lv_has ls 3 [(0, .ref (tb_ad g (150))), (1, .int (x))] := hl
  refine lv_iload_n X.1 X.2.1 dX5_repair_0 rfl (lv_at hl 1 rfl) ?_
  refine tb_cSi X hH hl.1 (c_X5_isSlot l g z x) ky_X5_isSlot.1 ky_X5_isSlot.2 wm_179 rfl rfl (Nat.le_of_ble_eq_true rfl) ⟨by decide, by decide⟩ ⟨by decide, by decide⟩ dX5_repair_1 (fun H locs hH => ?_)
  refine tb_jbne (tgt := 9) X dX5_repair_4 (by decide) (fun c => (hx c : False).elim) (fun _ => ?_)
  refine lv_iconst (v := (-1)) X.1 X.2.1 dX5_repair_7 (by decide +kernel) ?_
  exact tb_ri X hr hlk hH ⟨rfl, rfl⟩ dX5_repair_8
set_option maxHeartbeats 4000000 in
set_option maxRecDepth 100000 in
theorem c_X5_slot_bad (l : Launch) (g : tb_G) (z : tb_M) (x : Int32) (w : Int32) (hx : ¬ (¬ (x < nI 0) ∧ (¬ (nI 1 < x)))) : tb_Mi (.int) l yX5_slot cX5_slot 4 2 g z [.ref (tb_ad g 150), .int x, .int w] ((-1)) (z) := by
  refine tb_goi (own := RX5) (by decide +kernel) rfl (Nat.le_of_ble_eq_true rfl) ?_
  intro p e s m below meth c ls X hr hlk hH hl
  have hl : lv_has ls 4 [(0, .ref (tb_ad g (150))), (1, .int (x)), (2, .int (w))] := hl
  refine lv_iload_n X.1 X.2.1 dX5_slot_0 rfl (lv_at hl 1 rfl) ?_
  refine tb_cSi X hH hl.1 (c_X5_isSlot l g z x) ky_X5_isSlot.1 ky_X5_isSlot.2 wm_179 rfl rfl (Nat.le_of_ble_eq_true rfl) ⟨by decide, by decide⟩ ⟨by decide, by decide⟩ dX5_slot_1 (fun H locs hH => ?_)
  refine tb_jbne (tgt := 9) X dX5_slot_4 (by decide) (fun c => (hx c : False).elim) (fun _ => ?_)
  refine lv_iconst (v := (-1)) X.1 X.2.1 dX5_slot_7 (by decide +kernel) ?_
  exact tb_ri X hr hlk hH ⟨rfl, rfl⟩ dX5_slot_8
set_option maxHeartbeats 4000000 in
set_option maxRecDepth 100000 in
theorem c_X5_lasts_bad (l : Launch) (g : tb_G) (z : tb_M) (x : Int32) (w : Int32) (hx : ¬ (¬ (x < nI 0) ∧ (¬ (nI 1 < x)))) : tb_Mi (.int) l yX5_lasts cX5_lasts 3 2 g z [.ref (tb_ad g 150), .int x, .int w] ((-1)) (z) := by
  refine tb_goi (own := RX5) (by decide +kernel) rfl (Nat.le_of_ble_eq_true rfl) ?_
  intro p e s m below meth c ls X hr hlk hH hl
  have hl : lv_has ls 3 [(0, .ref (tb_ad g (150))), (1, .int (x)), (2, .int (w))] := hl
  refine lv_iload_n X.1 X.2.1 dX5_lasts_0 rfl (lv_at hl 1 rfl) ?_
  refine tb_cSi X hH hl.1 (c_X5_isSlot l g z x) ky_X5_isSlot.1 ky_X5_isSlot.2 wm_179 rfl rfl (Nat.le_of_ble_eq_true rfl) ⟨by decide, by decide⟩ ⟨by decide, by decide⟩ dX5_lasts_1 (fun H locs hH => ?_)
  refine tb_jbne (tgt := 9) X dX5_lasts_4 (by decide) (fun c => (hx c : False).elim) (fun _ => ?_)
  refine lv_iconst (v := (-1)) X.1 X.2.1 dX5_lasts_7 (by decide +kernel) ?_
  exact tb_ri X hr hlk hH ⟨rfl, rfl⟩ dX5_lasts_8
set_option maxHeartbeats 4000000 in
set_option maxRecDepth 100000 in
theorem c_X5_damage_bad (l : Launch) (g : tb_G) (z : tb_M) (x : Int32) (w : Int32) (y : Int32) (hx : ¬ (¬ (x < nI 0) ∧ (¬ (nI 1 < x)))) : tb_Mi (.int) l yX5_damage cX5_damage 5 2 g z [.ref (tb_ad g 150), .int x, .int w, .int y] ((-1)) (z) := by
  refine tb_goi (own := RX5) (by decide +kernel) rfl (Nat.le_of_ble_eq_true rfl) ?_
  intro p e s m below meth c ls X hr hlk hH hl
  have hl : lv_has ls 5 [(0, .ref (tb_ad g (150))), (1, .int (x)), (2, .int (w)), (3, .int (y))] := hl
  refine lv_iload_n X.1 X.2.1 dX5_damage_0 rfl (lv_at hl 1 rfl) ?_
  refine tb_cSi X hH hl.1 (c_X5_isSlot l g z x) ky_X5_isSlot.1 ky_X5_isSlot.2 wm_179 rfl rfl (Nat.le_of_ble_eq_true rfl) ⟨by decide, by decide⟩ ⟨by decide, by decide⟩ dX5_damage_1 (fun H locs hH => ?_)
  refine tb_jbeq (tgt := 17) X dX5_damage_4 (by decide) (fun _ => ?_) (fun c => (hx c : False).elim)
  refine lv_iconst (v := (-1)) X.1 X.2.1 dX5_damage_17 (by decide +kernel) ?_
  exact tb_ri X hr hlk hH ⟨rfl, rfl⟩ dX5_damage_18
set_option maxHeartbeats 4000000 in
set_option maxRecDepth 100000 in
theorem c_X5_wear_bad (l : Launch) (g : tb_G) (z : tb_M) (x : Int32) (w : Int32) (hx : ¬ (¬ (x < nI 0) ∧ (¬ (nI 1 < x)))) : tb_Mi (.int) l yX5_wear cX5_wear 3 2 g z [.ref (tb_ad g 150), .int x, .int w] ((-1)) (z) := by
  refine tb_goi (own := RX5) (by decide +kernel) rfl (Nat.le_of_ble_eq_true rfl) ?_
  intro p e s m below meth c ls X hr hlk hH hl
  have hl : lv_has ls 3 [(0, .ref (tb_ad g (150))), (1, .int (x)), (2, .int (w))] := hl
  refine lv_iload_n X.1 X.2.1 dX5_wear_0 rfl (lv_at hl 1 rfl) ?_
  refine tb_cSi X hH hl.1 (c_X5_isSlot l g z x) ky_X5_isSlot.1 ky_X5_isSlot.2 wm_179 rfl rfl (Nat.le_of_ble_eq_true rfl) ⟨by decide, by decide⟩ ⟨by decide, by decide⟩ dX5_wear_1 (fun H locs hH => ?_)
  refine tb_jbeq (tgt := 17) X dX5_wear_4 (by decide) (fun _ => ?_) (fun c => (hx c : False).elim)
  refine lv_iconst (v := (-1)) X.1 X.2.1 dX5_wear_17 (by decide +kernel) ?_
  exact tb_ri X hr hlk hH ⟨rfl, rfl⟩ dX5_wear_18
set_option maxHeartbeats 4000000 in
set_option maxRecDepth 100000 in
theorem c_X5_begin_len (l : Launch) (g : tb_G) (z : tb_M) (sl : Nat) (v : Int32) (n : Int32) (t : Int32) (hsl : sl < 2) (hn : ¬ (¬ (n < nI 2) ∧ (¬ (nI 32 < n)))) : tb_Mi (.int) l yX5_begin cX5_begin 7 2 g z [.ref (tb_ad g 150), .int (nI sl), .int v, .int n, .int t] ((-2)) (z) := by
  refine tb_goi (own := RX5) (by decide +kernel) rfl (Nat.le_of_ble_eq_true rfl) ?_
  intro p e s m below meth c ls X hr hlk hH hl
  have hl : lv_has ls 7 [(0, .ref (tb_ad g (150))), (1, .int (nI (sl))), (2, .int (v)), (3, .int (n)), (4, .int (t))] := hl
  refine lv_iload_n X.1 X.2.1 dX5_begin_0 rfl (lv_at hl 1 rfl) ?_
  refine tb_cSi X hH hl.1 (c_X5_isSlot l g z (nI (sl))) ky_X5_isSlot.1 ky_X5_isSlot.2 wm_179 rfl rfl (Nat.le_of_ble_eq_true rfl) ⟨by decide, by decide⟩ ⟨by decide, by decide⟩ dX5_begin_1 (fun H locs hH => ?_)
  refine tb_jbne (tgt := 9) X dX5_begin_4 (by decide) (fun _ => ?_) (fun c => (c ⟨nI_nlt (by omega) (by omega), nI_nlt (by omega) (by omega)⟩ : False).elim)
  refine lv_iload_n X.1 X.2.1 dX5_begin_9 rfl (lv_at hl 2 rfl) ?_
  refine lv_iconst (v := nI (0)) X.1 X.2.1 dX5_begin_10 (by decide +kernel) ?_
  refine lv_bipush (v := nI (99)) X.1 X.2.1 dX5_begin_11 (by decide +kernel) ?_
  refine tb_cSi X hH hl.1 (c_X5_isWithin l g z v (nI (0)) (nI (99))) ky_X5_isWithin.1 ky_X5_isWithin.2 wm_115 rfl rfl (Nat.le_of_ble_eq_true rfl) ⟨by decide, by decide⟩ ⟨by decide, by decide⟩ dX5_begin_13 (fun H locs hH => ?_)
  refine tb_jbeq (tgt := 38) X dX5_begin_16 (by decide) (fun c_1 => ?_) (fun c_1 => ?_)
  · refine lv_bipush (v := (-2)) X.1 X.2.1 dX5_begin_38 (by decide +kernel) ?_
    exact tb_ri X hr hlk hH ⟨rfl, rfl⟩ dX5_begin_40
  · refine lv_iload_n X.1 X.2.1 dX5_begin_19 rfl (lv_at hl 3 rfl) ?_
    refine tb_cSi X hH hl.1 (c_X5_isLength l g z n) ky_X5_isLength.1 ky_X5_isLength.2 wm_182 rfl rfl (Nat.le_of_ble_eq_true rfl) ⟨by decide, by decide⟩ ⟨by decide, by decide⟩ dX5_begin_20 (fun H locs hH => ?_)
    refine tb_jbeq (tgt := 38) X dX5_begin_23 (by decide) (fun _ => ?_) (fun c => (hn c : False).elim)
    refine lv_bipush (v := (-2)) X.1 X.2.1 dX5_begin_38 (by decide +kernel) ?_
    exact tb_ri X hr hlk hH ⟨rfl, rfl⟩ dX5_begin_40
def sz_X5_begin_m1 (z : tb_M) (sl : Nat) (v : Int32) (n : Nat) (t : Int32) (rn : Nat) : tb_M := sz_X2_record z 0 (tb_rc z)
def sz_X5_begin_m2 (z : tb_M) (sl : Nat) (v : Int32) (n : Nat) (t : Int32) (rn : Nat) : tb_M := tb_ec (tb_ew (sz_X5_begin_m1 z sl v n t rn) ((tb_at 0 sl)) (((n + 4 - 1) / 4))) ((tb_at 0 sl)) ((((n + 4 - 1) / 4)) * 4)
def sz_X5_begin_m3 (z : tb_M) (sl : Nat) (v : Int32) (n : Nat) (t : Int32) (rn : Nat) : tb_M := sz_X0_expectImage (sz_X5_begin_m2 z sl v n t rn) ((tb_at 0 sl)) v (nI (n)) t
def sz_X5_begin (z : tb_M) (sl : Nat) (v : Int32) (n : Nat) (t : Int32) (rn : Nat) : tb_M := if (¬ (v < (nI (0))) ∧ (¬ ((nI (99)) < v))) then (if (¬ (t < (nI (0))) ∧ (¬ ((nI (250)) < t))) then (if rn = sl then z else (if v < (z 0 8) then z else (if ((sr_X1_beginsLeft z 0 sl (((n + 4 - 1) / 4)))) = 0 then z else (sz_X5_begin_m3 z sl v n t rn)))) else z) else z
def sr_X5_begin (z : tb_M) (sl : Nat) (v : Int32) (n : Nat) (t : Int32) (rn : Nat) : Int32 := if (¬ (v < (nI (0))) ∧ (¬ ((nI (99)) < v))) then (if (¬ (t < (nI (0))) ∧ (¬ ((nI (250)) < t))) then (if rn = sl then ((-5)) else (if v < (z 0 8) then ((-5)) else (if ((sr_X1_beginsLeft z 0 sl (((n + 4 - 1) / 4)))) = 0 then ((-5)) else ((tb_gw ((sz_X5_begin_m3 z sl v n t rn) (((tb_at 0 sl)) + 2)) (((n + 4 - 1) / 4))))))) else ((-2))) else ((-2))
set_option maxHeartbeats 4000000 in
set_option maxRecDepth 100000 in
theorem c_X5_begin (l : Launch) (g : tb_G) (z : tb_M) (sl : Nat) (v : Int32) (n : Nat) (t : Int32) (rn : Nat) (hsl : sl < 2) (hn : 2 ≤ n ∧ n ≤ 32) (hrn : z 0 5 = nI rn) (hrn2 : rn ≤ 2) (hrc : tb_okR z) : tb_Mi (.int) l yX5_begin cX5_begin 7 4 g z [.ref (tb_ad g 150), .int (nI sl), .int v, .int (nI n), .int t] (sr_X5_begin z sl v n t rn) (sz_X5_begin z sl v n t rn) := by
  refine tb_goi (own := RX5) (by decide +kernel) rfl (Nat.le_of_ble_eq_true rfl) ?_
  intro p e s m below meth c ls X hr hlk hH hl
  have hl : lv_has ls 7 [(0, .ref (tb_ad g (150))), (1, .int (nI (sl))), (2, .int (v)), (3, .int (nI (n))), (4, .int (t))] := hl
  refine lv_iload_n X.1 X.2.1 dX5_begin_0 rfl (lv_at hl 1 rfl) ?_
  refine tb_cSi X hH hl.1 (c_X5_isSlot l g z (nI (sl))) ky_X5_isSlot.1 ky_X5_isSlot.2 wm_179 rfl rfl (Nat.le_of_ble_eq_true rfl) ⟨by decide, by decide⟩ ⟨by decide, by decide⟩ dX5_begin_1 (fun H locs hH => ?_)
  refine tb_jbne (tgt := 9) X dX5_begin_4 (by decide) (fun _ => ?_) (fun c => (c ⟨nI_nlt (by omega) (by omega), nI_nlt (by omega) (by omega)⟩ : False).elim)
  refine lv_iload_n X.1 X.2.1 dX5_begin_9 rfl (lv_at hl 2 rfl) ?_
  refine lv_iconst (v := nI (0)) X.1 X.2.1 dX5_begin_10 (by decide +kernel) ?_
  refine lv_bipush (v := nI (99)) X.1 X.2.1 dX5_begin_11 (by decide +kernel) ?_
  refine tb_cSi X hH hl.1 (c_X5_isWithin l g z v (nI (0)) (nI (99))) ky_X5_isWithin.1 ky_X5_isWithin.2 wm_115 rfl rfl (Nat.le_of_ble_eq_true rfl) ⟨by decide, by decide⟩ ⟨by decide, by decide⟩ dX5_begin_13 (fun H locs hH => ?_)
  refine tb_jbeq (tgt := 38) X dX5_begin_16 (by decide) (fun c_1 => ?_) (fun c_1 => ?_)
  · refine lv_bipush (v := (-2)) X.1 X.2.1 dX5_begin_38 (by decide +kernel) ?_
    exact tb_ri X hr hlk hH ⟨(by rw [sr_X5_begin]; simp only [if_neg c_1]), (by rw [sz_X5_begin]; simp only [if_neg c_1])⟩ dX5_begin_40
  · refine lv_iload_n X.1 X.2.1 dX5_begin_19 rfl (lv_at hl 3 rfl) ?_
    refine tb_cSi X hH hl.1 (c_X5_isLength l g z (nI (n))) ky_X5_isLength.1 ky_X5_isLength.2 wm_182 rfl rfl (Nat.le_of_ble_eq_true rfl) ⟨by decide, by decide⟩ ⟨by decide, by decide⟩ dX5_begin_20 (fun H locs hH => ?_)
    refine tb_jbeq (tgt := 38) X dX5_begin_23 (by decide) (fun c => (c ⟨nI_nlt (by omega) (by omega), nI_nlt (by omega) (by omega)⟩ : False).elim) (fun _ => ?_)
    refine lv_iload X.1 X.2.1 dX5_begin_26 (lv_at hl 4 rfl) ?_
    refine lv_iconst (v := nI (0)) X.1 X.2.1 dX5_begin_28 (by decide +kernel) ?_
    refine lv_sipush (v := nI (250)) X.1 X.2.1 dX5_begin_29 (by decide +kernel) ?_
    refine tb_cSi X hH hl.1 (c_X5_isWithin l g z t (nI (0)) (nI (250))) ky_X5_isWithin.1 ky_X5_isWithin.2 wm_115 rfl rfl (Nat.le_of_ble_eq_true rfl) ⟨by decide, by decide⟩ ⟨by decide, by decide⟩ dX5_begin_32 (fun H locs hH => ?_)
    refine tb_jbne (tgt := 41) X dX5_begin_35 (by decide) (fun c_2 => ?_) (fun c_2 => ?_)
    · refine lv_iload_n X.1 X.2.1 dX5_begin_41 rfl (lv_at hl 3 rfl) ?_
      refine tb_cSi X hH hl.1 (c_X5_pagesOf l g z n (by omega)) ky_X5_pagesOf.1 ky_X5_pagesOf.2 wm_185 rfl rfl (Nat.le_of_ble_eq_true rfl) ⟨by decide, by decide⟩ ⟨by decide, by decide⟩ dX5_begin_42 (fun H locs hH => ?_)
      refine lv_istore (lv' := [(5, .int (nI (((n + 4 - 1) / 4)))), (0, .ref (tb_ad g (150))), (1, .int (nI (sl))), (2, .int (v)), (3, .int (nI (n))), (4, .int (t))]) X.1 X.2.1 dX5_begin_45 hl (by decide) rfl (fun ls hl => ?_)
      refine lv_aload_n X.1 X.2.1 dX5_begin_47 rfl (lv_at hl 1 rfl) ?_
      refine tb_get X hH tb_Tc.1 (tb_Tc.2 _ _) rfl inlX5 0 (by decide) wm_16 (v := .ref (tb_ad g (0))) rfl dX5_begin_48 ?_
      refine tb_get X hH (tb_Dc tb_D0).1 ((tb_Dc tb_D0).2 _ _) rfl inlX1 5 (by decide) wm_177 (v := .int (z 0 5)) rfl dX5_begin_51 ?_
      refine tb_top (x2 := nI (rn)) (hrn) ?_
      refine lv_iload_n X.1 X.2.1 dX5_begin_54 rfl (lv_at hl 2 rfl) ?_
      refine tb_neq (tgt := 82) X (by omega) (by omega) dX5_begin_55 (by decide) (fun c_3 => ?_) (fun c_3 => ?_)
      · refine lv_bipush (v := (-5)) X.1 X.2.1 dX5_begin_82 (by decide +kernel) ?_
        exact tb_ri X hr hlk hH ⟨(by rw [sr_X5_begin]; simp only [if_pos c_1, if_pos c_2, if_pos c_3]), (by rw [sz_X5_begin]; simp only [if_pos c_1, if_pos c_2, if_pos c_3])⟩ dX5_begin_84
      · refine lv_iload_n X.1 X.2.1 dX5_begin_58 rfl (lv_at hl 3 rfl) ?_
        refine lv_aload_n X.1 X.2.1 dX5_begin_59 rfl (lv_at hl 1 rfl) ?_
        refine tb_get X hH tb_Tc.1 (tb_Tc.2 _ _) rfl inlX5 0 (by decide) wm_16 (v := .ref (tb_ad g (0))) rfl dX5_begin_60 ?_
        refine tb_get X hH (tb_Dc tb_D0).1 ((tb_Dc tb_D0).2 _ _) rfl inlX1 8 (by decide) wm_178 (v := .int (z 0 8)) rfl dX5_begin_63 ?_
        refine lv_icmp_lt (tgt := 82) X.1 X.2.1 dX5_begin_66 (by decide) (fun c_4 => ?_) (fun c_4 => ?_)
        · refine lv_bipush (v := (-5)) X.1 X.2.1 dX5_begin_82 (by decide +kernel) ?_
          exact tb_ri X hr hlk hH ⟨(by rw [sr_X5_begin]; simp only [if_pos c_1, if_pos c_2, if_neg c_3, if_pos c_4]), (by rw [sz_X5_begin]; simp only [if_pos c_1, if_pos c_2, if_neg c_3, if_pos c_4])⟩ dX5_begin_84
        · refine lv_aload_n X.1 X.2.1 dX5_begin_69 rfl (lv_at hl 1 rfl) ?_
          refine tb_get X hH tb_Tc.1 (tb_Tc.2 _ _) rfl inlX5 0 (by decide) wm_16 (v := .ref (tb_ad g (0))) rfl dX5_begin_70 ?_
          refine lv_iload_n X.1 X.2.1 dX5_begin_73 rfl (lv_at hl 2 rfl) ?_
          refine lv_iload X.1 X.2.1 dX5_begin_74 (lv_at hl 0 rfl) ?_
          refine tb_cVi X hH hl.1 (c_X1_beginsLeft l g z 0 tb_D0 sl (((n + 4 - 1) / 4)) (by omega) (by omega)) ky_X1_beginsLeft.1 ky_X1_beginsLeft.2 wm_188 (tb_oD tb_D0) rfl rfl (Nat.le_of_ble_eq_true rfl) ⟨by decide, by decide⟩ ⟨by decide, by decide⟩ dX5_begin_76 (fun H locs hH => ?_)
          refine lv_if_ne (tgt := 85) X.1 X.2.1 dX5_begin_79 (by decide) (fun c_5 => ?_) (fun c_5 => ?_)
          · refine lv_aload_n X.1 X.2.1 dX5_begin_85 rfl (lv_at hl 1 rfl) ?_
            refine tb_get X hH tb_Tc.1 (tb_Tc.2 _ _) rfl inlX5 4 (by decide) wm_24 (v := .ref (tb_ad g (153))) rfl dX5_begin_86 ?_
            refine lv_aload_n X.1 X.2.1 dX5_begin_89 rfl (lv_at hl 1 rfl) ?_
            refine tb_get X hH tb_Tc.1 (tb_Tc.2 _ _) rfl inlX5 0 (by decide) wm_16 (v := .ref (tb_ad g (0))) rfl dX5_begin_90 ?_
            refine tb_cVv X hH hl.1 (c_X2_record l g z 0 tb_D0 (tb_rc z) hrc.1 (Nat.lt_trans hrc.2 (by decide))) ky_X2_record.1 ky_X2_record.2 wm_116 tb_oH rfl rfl (Nat.le_of_ble_eq_true rfl) ⟨by decide, by decide⟩ ⟨by decide, by decide⟩ dX5_begin_93 (fun H locs hH => ?_)
            have hH : tb_H g s.heap (sz_X5_begin_m1 z sl v n t rn) H locs := hH
            refine lv_aload_n X.1 X.2.1 dX5_begin_96 rfl (lv_at hl 1 rfl) ?_
            refine tb_get X hH tb_Tc.1 (tb_Tc.2 _ _) rfl inlX5 0 (by decide) wm_16 (v := .ref (tb_ad g (0))) rfl dX5_begin_97 ?_
            refine lv_iload_n X.1 X.2.1 dX5_begin_100 rfl (lv_at hl 2 rfl) ?_
            refine tb_cVr X hH hl.1 (c_X1_areaAt l g (sz_X5_begin_m1 z sl v n t rn) 0 tb_D0 sl (by omega)) ky_X1_areaAt.1 ky_X1_areaAt.2 wm_204 (tb_oD tb_D0) rfl rfl (Nat.le_of_ble_eq_true rfl) ⟨by decide, by decide⟩ ⟨by decide, by decide⟩ dX5_begin_101 (fun H locs hH => ?_)
            refine lv_astore (lv' := [(6, .ref (tb_ad g ((tb_at 0 sl)))), (5, .int (nI (((n + 4 - 1) / 4)))), (0, .ref (tb_ad g (150))), (1, .int (nI (sl))), (2, .int (v)), (3, .int (nI (n))), (4, .int (t))]) X.1 X.2.1 dX5_begin_104 hl (by decide) rfl (fun ls hl => ?_)
            refine lv_aload X.1 X.2.1 dX5_begin_106 (lv_at hl 0 rfl) ?_
            refine lv_iload X.1 X.2.1 dX5_begin_108 (lv_at hl 1 rfl) ?_
            refine tb_cVv X hH hl.1 (c_X0_emptyPages l g (sz_X5_begin_m1 z sl v n t rn) ((tb_at 0 sl)) (tb_isat tb_D0 sl) (((n + 4 - 1) / 4)) (by omega)) ky_X0_emptyPages.1 ky_X0_emptyPages.2 wm_205 (tb_oA (tb_isat tb_D0 sl)) rfl rfl (Nat.le_of_ble_eq_true rfl) ⟨by decide, by decide⟩ ⟨by decide, by decide⟩ dX5_begin_110 (fun H locs hH => ?_)
            have hH : tb_H g s.heap (sz_X5_begin_m2 z sl v n t rn) H locs := hH
            refine lv_aload X.1 X.2.1 dX5_begin_113 (lv_at hl 0 rfl) ?_
            refine lv_iload_n X.1 X.2.1 dX5_begin_115 rfl (lv_at hl 4 rfl) ?_
            refine lv_iload_n X.1 X.2.1 dX5_begin_116 rfl (lv_at hl 5 rfl) ?_
            refine lv_iload X.1 X.2.1 dX5_begin_117 (lv_at hl 6 rfl) ?_
            refine tb_cVv X hH hl.1 (c_X0_expectImage l g (sz_X5_begin_m2 z sl v n t rn) ((tb_at 0 sl)) (tb_isat tb_D0 sl) v (nI (n)) t) ky_X0_expectImage.1 ky_X0_expectImage.2 wm_209 (tb_oA (tb_isat tb_D0 sl)) rfl rfl (Nat.le_of_ble_eq_true rfl) ⟨by decide, by decide⟩ ⟨by decide, by decide⟩ dX5_begin_119 (fun H locs hH => ?_)
            have hH : tb_H g s.heap (sz_X5_begin_m3 z sl v n t rn) H locs := hH
            refine lv_aload X.1 X.2.1 dX5_begin_122 (lv_at hl 0 rfl) ?_
            refine lv_iload X.1 X.2.1 dX5_begin_124 (lv_at hl 1 rfl) ?_
            refine tb_cVi X hH hl.1 (c_X0_greatestWear l g (sz_X5_begin_m3 z sl v n t rn) ((tb_at 0 sl)) (tb_isat tb_D0 sl) (((n + 4 - 1) / 4)) (by omega)) ky_X0_greatestWear.1 ky_X0_greatestWear.2 wm_210 (tb_oA (tb_isat tb_D0 sl)) rfl rfl (Nat.le_of_ble_eq_true rfl) ⟨by decide, by decide⟩ ⟨by decide, by decide⟩ dX5_begin_126 (fun H locs hH => ?_)
            exact tb_ri X hr hlk hH ⟨(by rw [sr_X5_begin]; simp only [if_pos c_1, if_pos c_2, if_neg c_3, if_neg c_4, if_neg c_5]), (by rw [sz_X5_begin]; simp only [if_pos c_1, if_pos c_2, if_neg c_3, if_neg c_4, if_neg c_5])⟩ dX5_begin_129
          · refine lv_bipush (v := (-5)) X.1 X.2.1 dX5_begin_82 (by decide +kernel) ?_
            exact tb_ri X hr hlk hH ⟨(by rw [sr_X5_begin]; simp only [if_pos c_1, if_pos c_2, if_neg c_3, if_neg c_4, if_pos c_5]), (by rw [sz_X5_begin]; simp only [if_pos c_1, if_pos c_2, if_neg c_3, if_neg c_4, if_pos c_5])⟩ dX5_begin_84
    · refine lv_bipush (v := (-2)) X.1 X.2.1 dX5_begin_38 (by decide +kernel) ?_
      exact tb_ri X hr hlk hH ⟨(by rw [sr_X5_begin]; simp only [if_pos c_1, if_neg c_2]), (by rw [sz_X5_begin]; simp only [if_pos c_1, if_neg c_2])⟩ dX5_begin_40
def sz_X5_fill_m1 (z : tb_M) (sl : Nat) (w : Int32) : tb_M := sz_X2_record z 0 (tb_rc z)
def sz_X5_fill (z : tb_M) (sl : Nat) (w : Int32) : tb_M := if (¬ (w < (nI (0))) ∧ (¬ ((nI (255)) < w))) then (if (z ((tb_at 0 sl)) 0) = (nI (1)) then (if (tb_len z (tb_at 0 sl) - tb_fl z (tb_at 0 sl)) = 0 then z else (tb_up (tb_up (sz_X5_fill_m1 z sl w) (((tb_at 0 sl)) + 1) (tb_fl z (tb_at 0 sl)) w) ((tb_at 0 sl)) 5 (nI ((tb_fl z (tb_at 0 sl)) + 1)))) else z) else z
def sr_X5_fill (z : tb_M) (sl : Nat) (w : Int32) : Int32 := if (¬ (w < (nI (0))) ∧ (¬ ((nI (255)) < w))) then (if (z ((tb_at 0 sl)) 0) = (nI (1)) then (if (tb_len z (tb_at 0 sl) - tb_fl z (tb_at 0 sl)) = 0 then ((-5)) else ((tb_up (tb_up (sz_X5_fill_m1 z sl w) (((tb_at 0 sl)) + 1) (tb_fl z (tb_at 0 sl)) w) ((tb_at 0 sl)) 5 (nI ((tb_fl z (tb_at 0 sl)) + 1))) ((tb_at 0 sl)) 5)) else ((-5))) else ((-2))
set_option maxHeartbeats 4000000 in
set_option maxRecDepth 100000 in
theorem c_X5_fill (l : Launch) (g : tb_G) (z : tb_M) (sl : Nat) (w : Int32) (hsl : sl < 2) (hF : tb_okF z (tb_at 0 sl)) (hrc : tb_okR z) : tb_Mi (.int) l yX5_fill cX5_fill 4 4 g z [.ref (tb_ad g 150), .int (nI sl), .int w] (sr_X5_fill z sl w) (sz_X5_fill z sl w) := by
  refine tb_goi (own := RX5) (by decide +kernel) rfl (Nat.le_of_ble_eq_true rfl) ?_
  intro p e s m below meth c ls X hr hlk hH hl
  have hl : lv_has ls 4 [(0, .ref (tb_ad g (150))), (1, .int (nI (sl))), (2, .int (w))] := hl
  have hF2 := hF.1.2
  have hF3 := hF.2.2
  refine lv_iload_n X.1 X.2.1 dX5_fill_0 rfl (lv_at hl 1 rfl) ?_
  refine tb_cSi X hH hl.1 (c_X5_isSlot l g z (nI (sl))) ky_X5_isSlot.1 ky_X5_isSlot.2 wm_179 rfl rfl (Nat.le_of_ble_eq_true rfl) ⟨by decide, by decide⟩ ⟨by decide, by decide⟩ dX5_fill_1 (fun H locs hH => ?_)
  refine tb_jbne (tgt := 9) X dX5_fill_4 (by decide) (fun _ => ?_) (fun c => (c ⟨nI_nlt (by omega) (by omega), nI_nlt (by omega) (by omega)⟩ : False).elim)
  refine lv_iload_n X.1 X.2.1 dX5_fill_9 rfl (lv_at hl 2 rfl) ?_
  refine lv_iconst (v := nI (0)) X.1 X.2.1 dX5_fill_10 (by decide +kernel) ?_
  refine lv_sipush (v := nI (255)) X.1 X.2.1 dX5_fill_11 (by decide +kernel) ?_
  refine tb_cSi X hH hl.1 (c_X5_isWithin l g z w (nI (0)) (nI (255))) ky_X5_isWithin.1 ky_X5_isWithin.2 wm_115 rfl rfl (Nat.le_of_ble_eq_true rfl) ⟨by decide, by decide⟩ ⟨by decide, by decide⟩ dX5_fill_14 (fun H locs hH => ?_)
  refine tb_jbne (tgt := 23) X dX5_fill_17 (by decide) (fun c_1 => ?_) (fun c_1 => ?_)
  · refine lv_aload_n X.1 X.2.1 dX5_fill_23 rfl (lv_at hl 0 rfl) ?_
    refine tb_get X hH tb_Tc.1 (tb_Tc.2 _ _) rfl inlX5 0 (by decide) wm_16 (v := .ref (tb_ad g (0))) rfl dX5_fill_24 ?_
    refine lv_iload_n X.1 X.2.1 dX5_fill_27 rfl (lv_at hl 1 rfl) ?_
    refine tb_cVr X hH hl.1 (c_X1_areaAt l g z 0 tb_D0 sl (by omega)) ky_X1_areaAt.1 ky_X1_areaAt.2 wm_204 (tb_oD tb_D0) rfl rfl (Nat.le_of_ble_eq_true rfl) ⟨by decide, by decide⟩ ⟨by decide, by decide⟩ dX5_fill_28 (fun H locs hH => ?_)
    refine lv_astore_n (lv' := [(3, .ref (tb_ad g ((tb_at 0 sl)))), (0, .ref (tb_ad g (150))), (1, .int (nI (sl))), (2, .int (w))]) X.1 X.2.1 dX5_fill_31 rfl hl (by decide) rfl (fun ls hl => ?_)
    refine lv_aload_n X.1 X.2.1 dX5_fill_32 rfl (lv_at hl 0 rfl) ?_
    refine tb_get X hH (tb_Ac (tb_isat tb_D0 sl)).1 ((tb_Ac (tb_isat tb_D0 sl)).2 _ _) rfl inlX0 0 (by decide) wm_245 (v := .int (z ((tb_at 0 sl)) 0)) rfl dX5_fill_33 ?_
    refine lv_iconst (v := nI (1)) X.1 X.2.1 dX5_fill_36 (by decide +kernel) ?_
    refine lv_icmp_ne (tgt := 47) X.1 X.2.1 dX5_fill_37 (by decide) (fun c_2 => ?_) (fun c_2 => ?_)
    · refine lv_bipush (v := (-5)) X.1 X.2.1 dX5_fill_47 (by decide +kernel) ?_
      exact tb_ri X hr hlk hH ⟨(by rw [sr_X5_fill]; simp only [if_pos c_1, if_neg c_2]), (by rw [sz_X5_fill]; simp only [if_pos c_1, if_neg c_2])⟩ dX5_fill_49
    · refine lv_aload_n X.1 X.2.1 dX5_fill_40 rfl (lv_at hl 0 rfl) ?_
      refine tb_cVi X hH hl.1 (c_X0_lacking l g z ((tb_at 0 sl)) (tb_isat tb_D0 sl)) ky_X0_lacking.1 ky_X0_lacking.2 wm_247 (tb_oA (tb_isat tb_D0 sl)) rfl rfl (Nat.le_of_ble_eq_true rfl) ⟨by decide, by decide⟩ ⟨by decide, by decide⟩ dX5_fill_41 (fun H locs hH => ?_)
      refine tb_top (x2 := nI (tb_len z (tb_at 0 sl) - tb_fl z (tb_at 0 sl))) (tb_lackN hF) ?_
      refine tb_zne (tgt := 50) X (by omega) dX5_fill_44 (by decide) (fun c_3 => ?_) (fun c_3 => ?_)
      · refine lv_aload_n X.1 X.2.1 dX5_fill_50 rfl (lv_at hl 1 rfl) ?_
        refine tb_get X hH tb_Tc.1 (tb_Tc.2 _ _) rfl inlX5 4 (by decide) wm_24 (v := .ref (tb_ad g (153))) rfl dX5_fill_51 ?_
        refine lv_aload_n X.1 X.2.1 dX5_fill_54 rfl (lv_at hl 1 rfl) ?_
        refine tb_get X hH tb_Tc.1 (tb_Tc.2 _ _) rfl inlX5 0 (by decide) wm_16 (v := .ref (tb_ad g (0))) rfl dX5_fill_55 ?_
        refine tb_cVv X hH hl.1 (c_X2_record l g z 0 tb_D0 (tb_rc z) hrc.1 (Nat.lt_trans hrc.2 (by decide))) ky_X2_record.1 ky_X2_record.2 wm_116 tb_oH rfl rfl (Nat.le_of_ble_eq_true rfl) ⟨by decide, by decide⟩ ⟨by decide, by decide⟩ dX5_fill_58 (fun H locs hH => ?_)
        have hH : tb_H g s.heap (sz_X5_fill_m1 z sl w) H locs := hH
        refine lv_aload_n X.1 X.2.1 dX5_fill_61 rfl (lv_at hl 0 rfl) ?_
        refine lv_iload_n X.1 X.2.1 dX5_fill_62 rfl (lv_at hl 3 rfl) ?_
        refine tb_cVv X hH hl.1 (c_X0_addWord l g (sz_X5_fill_m1 z sl w) ((tb_at 0 sl)) (tb_isat tb_D0 sl) w (tb_fl z (tb_at 0 sl)) (by show sz_X2_record z 0 (tb_rc z) (tb_at 0 sl) 5 = _; rw [tb_rec_at]; exact hF.2.1) (by omega)) ky_X0_addWord.1 ky_X0_addWord.2 wm_251 (tb_oA (tb_isat tb_D0 sl)) rfl rfl (Nat.le_of_ble_eq_true rfl) ⟨by decide, by decide⟩ ⟨by decide, by decide⟩ dX5_fill_63 (fun H locs hH => ?_)
        refine lv_aload_n X.1 X.2.1 dX5_fill_66 rfl (lv_at hl 0 rfl) ?_
        refine tb_get X hH (tb_Ac (tb_isat tb_D0 sl)).1 ((tb_Ac (tb_isat tb_D0 sl)).2 _ _) rfl inlX0 5 (by decide) wm_246 (v := .int ((tb_up (tb_up (sz_X5_fill_m1 z sl w) (((tb_at 0 sl)) + 1) (tb_fl z (tb_at 0 sl)) w) ((tb_at 0 sl)) 5 (nI ((tb_fl z (tb_at 0 sl)) + 1))) ((tb_at 0 sl)) 5)) rfl dX5_fill_67 ?_
        exact tb_ri X hr hlk hH ⟨(by rw [sr_X5_fill]; simp only [if_pos c_1, if_pos c_2, if_neg c_3]), (by rw [sz_X5_fill]; simp only [if_pos c_1, if_pos c_2, if_neg c_3])⟩ dX5_fill_70
      · refine lv_bipush (v := (-5)) X.1 X.2.1 dX5_fill_47 (by decide +kernel) ?_
        exact tb_ri X hr hlk hH ⟨(by rw [sr_X5_fill]; simp only [if_pos c_1, if_pos c_2, if_pos c_3]), (by rw [sz_X5_fill]; simp only [if_pos c_1, if_pos c_2, if_pos c_3])⟩ dX5_fill_49
  · refine lv_bipush (v := (-2)) X.1 X.2.1 dX5_fill_20 (by decide +kernel) ?_
    exact tb_ri X hr hlk hH ⟨(by rw [sr_X5_fill]; simp only [if_neg c_1]), (by rw [sz_X5_fill]; simp only [if_neg c_1])⟩ dX5_fill_22
def sz_X5_finish_m1 (z : tb_M) (sl : Nat) : tb_M := sz_X2_record z 0 (tb_rc z)
def sz_X5_finish (z : tb_M) (sl : Nat) : tb_M := if (z ((tb_at 0 sl)) 0) = (nI (1)) then (if (tb_len z (tb_at 0 sl) - tb_fl z (tb_at 0 sl)) ≤ 0 then (if (((tb_sm ((sz_X5_finish_m1 z sl) (((tb_at 0 sl)) + 1)) (tb_len (sz_X5_finish_m1 z sl) ((tb_at 0 sl))))) = ((sz_X5_finish_m1 z sl) ((tb_at 0 sl)) 3)) then (tb_up (tb_up (sz_X5_finish_m1 z sl) ((tb_at 0 sl)) 0 (nI (2))) ((tb_at 0 sl)) 4 ((tb_up (sz_X5_finish_m1 z sl) ((tb_at 0 sl)) 0 (nI (2))) 1 0)) else (tb_up (sz_X5_finish_m1 z sl) ((tb_at 0 sl)) 0 (nI (4)))) else z) else z
def sr_X5_finish (z : tb_M) (sl : Nat) : Int32 := if (z ((tb_at 0 sl)) 0) = (nI (1)) then (if (tb_len z (tb_at 0 sl) - tb_fl z (tb_at 0 sl)) ≤ 0 then (if (((tb_sm ((sz_X5_finish_m1 z sl) (((tb_at 0 sl)) + 1)) (tb_len (sz_X5_finish_m1 z sl) ((tb_at 0 sl))))) = ((sz_X5_finish_m1 z sl) ((tb_at 0 sl)) 3)) then (nI (1)) else (nI (0))) else ((-5))) else ((-5))
set_option maxHeartbeats 4000000 in
set_option maxRecDepth 100000 in
theorem c_X5_finish (l : Launch) (g : tb_G) (z : tb_M) (sl : Nat) (hsl : sl < 2) (hF : tb_okF z (tb_at 0 sl)) (hrc : tb_okR z) : tb_Mi (.int) l yX5_finish cX5_finish 3 4 g z [.ref (tb_ad g 150), .int (nI sl)] (sr_X5_finish z sl) (sz_X5_finish z sl) := by
  refine tb_goi (own := RX5) (by decide +kernel) rfl (Nat.le_of_ble_eq_true rfl) ?_
  intro p e s m below meth c ls X hr hlk hH hl
  have hl : lv_has ls 3 [(0, .ref (tb_ad g (150))), (1, .int (nI (sl)))] := hl
  have hF2 := hF.1.2
  have hF3 := hF.2.2
  refine lv_iload_n X.1 X.2.1 dX5_finish_0 rfl (lv_at hl 1 rfl) ?_
  refine tb_cSi X hH hl.1 (c_X5_isSlot l g z (nI (sl))) ky_X5_isSlot.1 ky_X5_isSlot.2 wm_179 rfl rfl (Nat.le_of_ble_eq_true rfl) ⟨by decide, by decide⟩ ⟨by decide, by decide⟩ dX5_finish_1 (fun H locs hH => ?_)
  refine tb_jbne (tgt := 9) X dX5_finish_4 (by decide) (fun _ => ?_) (fun c => (c ⟨nI_nlt (by omega) (by omega), nI_nlt (by omega) (by omega)⟩ : False).elim)
  refine lv_aload_n X.1 X.2.1 dX5_finish_9 rfl (lv_at hl 0 rfl) ?_
  refine tb_get X hH tb_Tc.1 (tb_Tc.2 _ _) rfl inlX5 0 (by decide) wm_16 (v := .ref (tb_ad g (0))) rfl dX5_finish_10 ?_
  refine lv_iload_n X.1 X.2.1 dX5_finish_13 rfl (lv_at hl 1 rfl) ?_
  refine tb_cVr X hH hl.1 (c_X1_areaAt l g z 0 tb_D0 sl (by omega)) ky_X1_areaAt.1 ky_X1_areaAt.2 wm_204 (tb_oD tb_D0) rfl rfl (Nat.le_of_ble_eq_true rfl) ⟨by decide, by decide⟩ ⟨by decide, by decide⟩ dX5_finish_14 (fun H locs hH => ?_)
  refine lv_astore_n (lv' := [(2, .ref (tb_ad g ((tb_at 0 sl)))), (0, .ref (tb_ad g (150))), (1, .int (nI (sl)))]) X.1 X.2.1 dX5_finish_17 rfl hl (by decide) rfl (fun ls hl => ?_)
  refine lv_aload_n X.1 X.2.1 dX5_finish_18 rfl (lv_at hl 0 rfl) ?_
  refine tb_get X hH (tb_Ac (tb_isat tb_D0 sl)).1 ((tb_Ac (tb_isat tb_D0 sl)).2 _ _) rfl inlX0 0 (by decide) wm_245 (v := .int (z ((tb_at 0 sl)) 0)) rfl dX5_finish_19 ?_
  refine lv_iconst (v := nI (1)) X.1 X.2.1 dX5_finish_22 (by decide +kernel) ?_
  refine lv_icmp_ne (tgt := 33) X.1 X.2.1 dX5_finish_23 (by decide) (fun c_1 => ?_) (fun c_1 => ?_)
  · refine lv_bipush (v := (-5)) X.1 X.2.1 dX5_finish_33 (by decide +kernel) ?_
    exact tb_ri X hr hlk hH ⟨(by rw [sr_X5_finish]; simp only [if_neg c_1]), (by rw [sz_X5_finish]; simp only [if_neg c_1])⟩ dX5_finish_35
  · refine lv_aload_n X.1 X.2.1 dX5_finish_26 rfl (lv_at hl 0 rfl) ?_
    refine tb_cVi X hH hl.1 (c_X0_lacking l g z ((tb_at 0 sl)) (tb_isat tb_D0 sl)) ky_X0_lacking.1 ky_X0_lacking.2 wm_247 (tb_oA (tb_isat tb_D0 sl)) rfl rfl (Nat.le_of_ble_eq_true rfl) ⟨by decide, by decide⟩ ⟨by decide, by decide⟩ dX5_finish_27 (fun H locs hH => ?_)
    refine tb_top (x2 := nI (tb_len z (tb_at 0 sl) - tb_fl z (tb_at 0 sl))) (tb_lackN hF) ?_
    refine tb_zle (tgt := 36) X (by omega) dX5_finish_30 (by decide) (fun c_2 => ?_) (fun c_2 => ?_)
    · refine lv_aload_n X.1 X.2.1 dX5_finish_36 rfl (lv_at hl 1 rfl) ?_
      refine tb_get X hH tb_Tc.1 (tb_Tc.2 _ _) rfl inlX5 4 (by decide) wm_24 (v := .ref (tb_ad g (153))) rfl dX5_finish_37 ?_
      refine lv_aload_n X.1 X.2.1 dX5_finish_40 rfl (lv_at hl 1 rfl) ?_
      refine tb_get X hH tb_Tc.1 (tb_Tc.2 _ _) rfl inlX5 0 (by decide) wm_16 (v := .ref (tb_ad g (0))) rfl dX5_finish_41 ?_
      refine tb_cVv X hH hl.1 (c_X2_record l g z 0 tb_D0 (tb_rc z) hrc.1 (Nat.lt_trans hrc.2 (by decide))) ky_X2_record.1 ky_X2_record.2 wm_116 tb_oH rfl rfl (Nat.le_of_ble_eq_true rfl) ⟨by decide, by decide⟩ ⟨by decide, by decide⟩ dX5_finish_44 (fun H locs hH => ?_)
      have hH : tb_H g s.heap (sz_X5_finish_m1 z sl) H locs := hH
      refine lv_aload_n X.1 X.2.1 dX5_finish_47 rfl (lv_at hl 0 rfl) ?_
      refine tb_cVi X hH hl.1 (c_X0_isSound l g (sz_X5_finish_m1 z sl) ((tb_at 0 sl)) (tb_isat tb_D0 sl) (tb_rec_okL _ _ hF.1)) ky_X0_isSound.1 ky_X0_isSound.2 wm_314 (tb_oA (tb_isat tb_D0 sl)) rfl rfl (Nat.le_of_ble_eq_true rfl) ⟨by decide, by decide⟩ ⟨by decide, by decide⟩ dX5_finish_48 (fun H locs hH => ?_)
      refine tb_jbne (tgt := 61) X dX5_finish_51 (by decide) (fun c_3 => ?_) (fun c_3 => ?_)
      · refine lv_aload_n X.1 X.2.1 dX5_finish_61 rfl (lv_at hl 0 rfl) ?_
        refine lv_iconst (v := nI (2)) X.1 X.2.1 dX5_finish_62 (by decide +kernel) ?_
        refine tb_putA X hH (tb_isat tb_D0 sl) 0 (by decide) wm_245 dX5_finish_63 (fun H locs hH => ?_)
        refine lv_aload_n X.1 X.2.1 dX5_finish_66 rfl (lv_at hl 0 rfl) ?_
        refine lv_aload_n X.1 X.2.1 dX5_finish_67 rfl (lv_at hl 1 rfl) ?_
        refine tb_get X hH tb_Tc.1 (tb_Tc.2 _ _) rfl inlX5 0 (by decide) wm_16 (v := .ref (tb_ad g (0))) rfl dX5_finish_68 ?_
        refine tb_get X hH (tb_Dc tb_D0).1 ((tb_Dc tb_D0).2 _ _) rfl inlX1 0 (by decide) wm_114 (v := .ref (tb_ad g (1))) rfl dX5_finish_71 ?_
        refine lv_iconst (v := nI (0)) X.1 X.2.1 dX5_finish_74 (by decide +kernel) ?_
        refine tb_ald X hH (tb_iset tb_D0) (0) rfl (by decide) (by decide) dX5_finish_75 ?_
        refine tb_putA X hH (tb_isat tb_D0 sl) 4 (by decide) wm_313 dX5_finish_76 (fun H locs hH => ?_)
        refine lv_iconst (v := nI (1)) X.1 X.2.1 dX5_finish_79 (by decide +kernel) ?_
        exact tb_ri X hr hlk hH ⟨(by rw [sr_X5_finish]; simp only [if_pos c_1, if_pos c_2, if_pos c_3]), (by rw [sz_X5_finish]; simp only [if_pos c_1, if_pos c_2, if_pos c_3])⟩ dX5_finish_80
      · refine lv_aload_n X.1 X.2.1 dX5_finish_54 rfl (lv_at hl 0 rfl) ?_
        refine lv_iconst (v := nI (4)) X.1 X.2.1 dX5_finish_55 (by decide +kernel) ?_
        refine tb_putA X hH (tb_isat tb_D0 sl) 0 (by decide) wm_245 dX5_finish_56 (fun H locs hH => ?_)
        refine lv_iconst (v := nI (0)) X.1 X.2.1 dX5_finish_59 (by decide +kernel) ?_
        exact tb_ri X hr hlk hH ⟨(by rw [sr_X5_finish]; simp only [if_pos c_1, if_pos c_2, if_neg c_3]), (by rw [sz_X5_finish]; simp only [if_pos c_1, if_pos c_2, if_neg c_3])⟩ dX5_finish_60
    · refine lv_bipush (v := (-5)) X.1 X.2.1 dX5_finish_33 (by decide +kernel) ?_
      exact tb_ri X hr hlk hH ⟨(by rw [sr_X5_finish]; simp only [if_pos c_1, if_neg c_2]), (by rw [sz_X5_finish]; simp only [if_pos c_1, if_neg c_2])⟩ dX5_finish_35
set_option maxHeartbeats 4000000 in
set_option maxRecDepth 100000 in
theorem c_X5_damage_w (l : Launch) (g : tb_G) (z : tb_M) (sl : Nat) (w : Int32) (y : Int32) (hsl : sl < 2) (hw : ¬ (¬ (w < nI 0) ∧ (¬ (nI 31 < w)))) : tb_Mi (.int) l yX5_damage cX5_damage 5 2 g z [.ref (tb_ad g 150), .int (nI sl), .int w, .int y] ((-1)) (z) := by
  refine tb_goi (own := RX5) (by decide +kernel) rfl (Nat.le_of_ble_eq_true rfl) ?_
  intro p e s m below meth c ls X hr hlk hH hl
  have hl : lv_has ls 5 [(0, .ref (tb_ad g (150))), (1, .int (nI (sl))), (2, .int (w)), (3, .int (y))] := hl
  refine lv_iload_n X.1 X.2.1 dX5_damage_0 rfl (lv_at hl 1 rfl) ?_
  refine tb_cSi X hH hl.1 (c_X5_isSlot l g z (nI (sl))) ky_X5_isSlot.1 ky_X5_isSlot.2 wm_179 rfl rfl (Nat.le_of_ble_eq_true rfl) ⟨by decide, by decide⟩ ⟨by decide, by decide⟩ dX5_damage_1 (fun H locs hH => ?_)
  refine tb_jbeq (tgt := 17) X dX5_damage_4 (by decide) (fun c => (c ⟨nI_nlt (by omega) (by omega), nI_nlt (by omega) (by omega)⟩ : False).elim) (fun _ => ?_)
  refine lv_iload_n X.1 X.2.1 dX5_damage_7 rfl (lv_at hl 2 rfl) ?_
  refine lv_iconst (v := nI (0)) X.1 X.2.1 dX5_damage_8 (by decide +kernel) ?_
  refine lv_bipush (v := nI (31)) X.1 X.2.1 dX5_damage_9 (by decide +kernel) ?_
  refine tb_cSi X hH hl.1 (c_X5_isWithin l g z w (nI (0)) (nI (31))) ky_X5_isWithin.1 ky_X5_isWithin.2 wm_115 rfl rfl (Nat.le_of_ble_eq_true rfl) ⟨by decide, by decide⟩ ⟨by decide, by decide⟩ dX5_damage_11 (fun H locs hH => ?_)
  refine tb_jbne (tgt := 19) X dX5_damage_14 (by decide) (fun c => (hw c : False).elim) (fun _ => ?_)
  refine lv_iconst (v := (-1)) X.1 X.2.1 dX5_damage_17 (by decide +kernel) ?_
  exact tb_ri X hr hlk hH ⟨rfl, rfl⟩ dX5_damage_18
def sz_X5_damage_m1 (z : tb_M) (sl : Nat) (w : Nat) (y : Int32) : tb_M := sz_X2_record z 0 (tb_rc z)
def sz_X5_damage (z : tb_M) (sl : Nat) (w : Nat) (y : Int32) : tb_M := if (¬ (y < (nI (1))) ∧ (¬ ((nI (255)) < y))) then (tb_up (sz_X5_damage_m1 z sl w y) (((tb_at 0 sl)) + 1) w (((sz_X5_damage_m1 z sl w y) (((tb_at 0 sl)) + 1) w) ^^^ y)) else z
def sr_X5_damage (z : tb_M) (sl : Nat) (w : Nat) (y : Int32) : Int32 := if (¬ (y < (nI (1))) ∧ (¬ ((nI (255)) < y))) then ((tb_up (sz_X5_damage_m1 z sl w y) (((tb_at 0 sl)) + 1) w (((sz_X5_damage_m1 z sl w y) (((tb_at 0 sl)) + 1) w) ^^^ y)) (((tb_at 0 sl)) + 1) w) else ((-2))
set_option maxHeartbeats 4000000 in
set_option maxRecDepth 100000 in
theorem c_X5_damage (l : Launch) (g : tb_G) (z : tb_M) (sl : Nat) (w : Nat) (y : Int32) (hsl : sl < 2) (hw : w < 32) (hrc : tb_okR z) : tb_Mi (.int) l yX5_damage cX5_damage 5 4 g z [.ref (tb_ad g 150), .int (nI sl), .int (nI w), .int y] (sr_X5_damage z sl w y) (sz_X5_damage z sl w y) := by
  refine tb_goi (own := RX5) (by decide +kernel) rfl (Nat.le_of_ble_eq_true rfl) ?_
  intro p e s m below meth c ls X hr hlk hH hl
  have hl : lv_has ls 5 [(0, .ref (tb_ad g (150))), (1, .int (nI (sl))), (2, .int (nI (w))), (3, .int (y))] := hl
  refine lv_iload_n X.1 X.2.1 dX5_damage_0 rfl (lv_at hl 1 rfl) ?_
  refine tb_cSi X hH hl.1 (c_X5_isSlot l g z (nI (sl))) ky_X5_isSlot.1 ky_X5_isSlot.2 wm_179 rfl rfl (Nat.le_of_ble_eq_true rfl) ⟨by decide, by decide⟩ ⟨by decide, by decide⟩ dX5_damage_1 (fun H locs hH => ?_)
  refine tb_jbeq (tgt := 17) X dX5_damage_4 (by decide) (fun c => (c ⟨nI_nlt (by omega) (by omega), nI_nlt (by omega) (by omega)⟩ : False).elim) (fun _ => ?_)
  refine lv_iload_n X.1 X.2.1 dX5_damage_7 rfl (lv_at hl 2 rfl) ?_
  refine lv_iconst (v := nI (0)) X.1 X.2.1 dX5_damage_8 (by decide +kernel) ?_
  refine lv_bipush (v := nI (31)) X.1 X.2.1 dX5_damage_9 (by decide +kernel) ?_
  refine tb_cSi X hH hl.1 (c_X5_isWithin l g z (nI (w)) (nI (0)) (nI (31))) ky_X5_isWithin.1 ky_X5_isWithin.2 wm_115 rfl rfl (Nat.le_of_ble_eq_true rfl) ⟨by decide, by decide⟩ ⟨by decide, by decide⟩ dX5_damage_11 (fun H locs hH => ?_)
  refine tb_jbne (tgt := 19) X dX5_damage_14 (by decide) (fun _ => ?_) (fun c => (c ⟨nI_nlt (by omega) (by omega), nI_nlt (by omega) (by omega)⟩ : False).elim)
  refine lv_iload_n X.1 X.2.1 dX5_damage_19 rfl (lv_at hl 3 rfl) ?_
  refine lv_iconst (v := nI (1)) X.1 X.2.1 dX5_damage_20 (by decide +kernel) ?_
  refine lv_sipush (v := nI (255)) X.1 X.2.1 dX5_damage_21 (by decide +kernel) ?_
  refine tb_cSi X hH hl.1 (c_X5_isWithin l g z y (nI (1)) (nI (255))) ky_X5_isWithin.1 ky_X5_isWithin.2 wm_115 rfl rfl (Nat.le_of_ble_eq_true rfl) ⟨by decide, by decide⟩ ⟨by decide, by decide⟩ dX5_damage_24 (fun H locs hH => ?_)
  refine tb_jbne (tgt := 33) X dX5_damage_27 (by decide) (fun c_1 => ?_) (fun c_1 => ?_)
  · refine lv_aload_n X.1 X.2.1 dX5_damage_33 rfl (lv_at hl 0 rfl) ?_
    refine tb_get X hH tb_Tc.1 (tb_Tc.2 _ _) rfl inlX5 4 (by decide) wm_24 (v := .ref (tb_ad g (153))) rfl dX5_damage_34 ?_
    refine lv_aload_n X.1 X.2.1 dX5_damage_37 rfl (lv_at hl 0 rfl) ?_
    refine tb_get X hH tb_Tc.1 (tb_Tc.2 _ _) rfl inlX5 0 (by decide) wm_16 (v := .ref (tb_ad g (0))) rfl dX5_damage_38 ?_
    refine tb_cVv X hH hl.1 (c_X2_record l g z 0 tb_D0 (tb_rc z) hrc.1 (Nat.lt_trans hrc.2 (by decide))) ky_X2_record.1 ky_X2_record.2 wm_116 tb_oH rfl rfl (Nat.le_of_ble_eq_true rfl) ⟨by decide, by decide⟩ ⟨by decide, by decide⟩ dX5_damage_41 (fun H locs hH => ?_)
    have hH : tb_H g s.heap (sz_X5_damage_m1 z sl w y) H locs := hH
    refine lv_aload_n X.1 X.2.1 dX5_damage_44 rfl (lv_at hl 0 rfl) ?_
    refine tb_get X hH tb_Tc.1 (tb_Tc.2 _ _) rfl inlX5 0 (by decide) wm_16 (v := .ref (tb_ad g (0))) rfl dX5_damage_45 ?_
    refine lv_iload_n X.1 X.2.1 dX5_damage_48 rfl (lv_at hl 1 rfl) ?_
    refine tb_cVr X hH hl.1 (c_X1_areaAt l g (sz_X5_damage_m1 z sl w y) 0 tb_D0 sl (by omega)) ky_X1_areaAt.1 ky_X1_areaAt.2 wm_204 (tb_oD tb_D0) rfl rfl (Nat.le_of_ble_eq_true rfl) ⟨by decide, by decide⟩ ⟨by decide, by decide⟩ dX5_damage_49 (fun H locs hH => ?_)
    refine lv_astore (lv' := [(4, .ref (tb_ad g ((tb_at 0 sl)))), (0, .ref (tb_ad g (150))), (1, .int (nI (sl))), (2, .int (nI (w))), (3, .int (y))]) X.1 X.2.1 dX5_damage_52 hl (by decide) rfl (fun ls hl => ?_)
    refine lv_aload X.1 X.2.1 dX5_damage_54 (lv_at hl 0 rfl) ?_
    refine tb_get X hH (tb_Ac (tb_isat tb_D0 sl)).1 ((tb_Ac (tb_isat tb_D0 sl)).2 _ _) rfl inlX0 6 (by decide) wm_338 (v := .ref (tb_ad g (((tb_at 0 sl)) + 1))) rfl dX5_damage_56 ?_
    refine lv_iload_n X.1 X.2.1 dX5_damage_59 rfl (lv_at hl 3 rfl) ?_
    refine lv_dup2_11 X.1 X.2.1 dX5_damage_60 rfl rfl ?_
    refine tb_ald X hH (tb_iw (tb_isat tb_D0 sl)) (w) rfl (by omega) (by decide) dX5_damage_61 ?_
    refine lv_iload_n X.1 X.2.1 dX5_damage_62 rfl (lv_at hl 4 rfl) ?_
    refine lv_ixor X.1 X.2.1 dX5_damage_63 ?_
    refine tb_ast X hH (tb_iw (tb_isat tb_D0 sl)) (w) rfl (by omega) (by decide) dX5_damage_64 (fun H locs hH => ?_)
    refine lv_aload X.1 X.2.1 dX5_damage_65 (lv_at hl 0 rfl) ?_
    refine tb_get X hH (tb_Ac (tb_isat tb_D0 sl)).1 ((tb_Ac (tb_isat tb_D0 sl)).2 _ _) rfl inlX0 6 (by decide) wm_338 (v := .ref (tb_ad g (((tb_at 0 sl)) + 1))) rfl dX5_damage_67 ?_
    refine lv_iload_n X.1 X.2.1 dX5_damage_70 rfl (lv_at hl 3 rfl) ?_
    refine tb_ald X hH (tb_iw (tb_isat tb_D0 sl)) (w) rfl (by omega) (by decide) dX5_damage_71 ?_
    exact tb_ri X hr hlk hH ⟨(by rw [sr_X5_damage]; simp only [if_pos c_1]), (by rw [sz_X5_damage]; simp only [if_pos c_1])⟩ dX5_damage_72
  · refine lv_bipush (v := (-2)) X.1 X.2.1 dX5_damage_30 (by decide +kernel) ?_
    exact tb_ri X hr hlk hH ⟨(by rw [sr_X5_damage]; simp only [if_neg c_1]), (by rw [sz_X5_damage]; simp only [if_neg c_1])⟩ dX5_damage_32
def sz_X5_repair_m1 (z : tb_M) (sl : Nat) : tb_M := sz_X2_record z 0 (tb_rc z)
def sz_X5_repair (z : tb_M) (sl : Nat) : tb_M := if (z 0 5) = (nI (2)) then (if ((sr_X1_beginsLeft z 0 sl 1)) = 0 then z else (if (z 0 8) ≤ 0 then (sz_X0_takeGoldenImage (tb_ec (tb_ew (sz_X5_repair_m1 z sl) ((tb_at 0 sl)) 1) ((tb_at 0 sl)) (1 * 4)) ((tb_at 0 sl))) else z)) else z
def sr_X5_repair (z : tb_M) (sl : Nat) : Int32 := if (z 0 5) = (nI (2)) then (if ((sr_X1_beginsLeft z 0 sl 1)) = 0 then ((-5)) else (if (z 0 8) ≤ 0 then ((tb_gw ((sz_X0_takeGoldenImage (tb_ec (tb_ew (sz_X5_repair_m1 z sl) ((tb_at 0 sl)) 1) ((tb_at 0 sl)) (1 * 4)) ((tb_at 0 sl))) (((tb_at 0 sl)) + 2)) 1)) else ((-5)))) else ((-5))
set_option maxHeartbeats 4000000 in
set_option maxRecDepth 100000 in
theorem c_X5_repair (l : Launch) (g : tb_G) (z : tb_M) (sl : Nat) (hsl : sl < 2) (hrc : tb_okR z) : tb_Mi (.int) l yX5_repair cX5_repair 3 4 g z [.ref (tb_ad g 150), .int (nI sl)] (sr_X5_repair z sl) (sz_X5_repair z sl) := by
  refine tb_goi (own := RX5) (by decide +kernel) rfl (Nat.le_of_ble_eq_true rfl) ?_
  intro p e s m below meth c ls X hr hlk hH hl
  have hl : lv_has ls 3 [(0, .ref (tb_ad g (150))), (1, .int (nI (sl)))] := hl
  refine lv_iload_n X.1 X.2.1 dX5_repair_0 rfl (lv_at hl 1 rfl) ?_
  refine tb_cSi X hH hl.1 (c_X5_isSlot l g z (nI (sl))) ky_X5_isSlot.1 ky_X5_isSlot.2 wm_179 rfl rfl (Nat.le_of_ble_eq_true rfl) ⟨by decide, by decide⟩ ⟨by decide, by decide⟩ dX5_repair_1 (fun H locs hH => ?_)
  refine tb_jbne (tgt := 9) X dX5_repair_4 (by decide) (fun _ => ?_) (fun c => (c ⟨nI_nlt (by omega) (by omega), nI_nlt (by omega) (by omega)⟩ : False).elim)
  refine lv_aload_n X.1 X.2.1 dX5_repair_9 rfl (lv_at hl 0 rfl) ?_
  refine tb_get X hH tb_Tc.1 (tb_Tc.2 _ _) rfl inlX5 0 (by decide) wm_16 (v := .ref (tb_ad g (0))) rfl dX5_repair_10 ?_
  refine tb_get X hH (tb_Dc tb_D0).1 ((tb_Dc tb_D0).2 _ _) rfl inlX1 5 (by decide) wm_177 (v := .int (z 0 5)) rfl dX5_repair_13 ?_
  refine lv_iconst (v := nI (2)) X.1 X.2.1 dX5_repair_16 (by decide +kernel) ?_
  refine lv_icmp_ne (tgt := 42) X.1 X.2.1 dX5_repair_17 (by decide) (fun c_1 => ?_) (fun c_1 => ?_)
  · refine lv_bipush (v := (-5)) X.1 X.2.1 dX5_repair_42 (by decide +kernel) ?_
    exact tb_ri X hr hlk hH ⟨(by rw [sr_X5_repair]; simp only [if_neg c_1]), (by rw [sz_X5_repair]; simp only [if_neg c_1])⟩ dX5_repair_44
  · refine lv_aload_n X.1 X.2.1 dX5_repair_20 rfl (lv_at hl 0 rfl) ?_
    refine tb_get X hH tb_Tc.1 (tb_Tc.2 _ _) rfl inlX5 0 (by decide) wm_16 (v := .ref (tb_ad g (0))) rfl dX5_repair_21 ?_
    refine lv_iload_n X.1 X.2.1 dX5_repair_24 rfl (lv_at hl 1 rfl) ?_
    refine lv_iconst (v := nI (1)) X.1 X.2.1 dX5_repair_25 (by decide +kernel) ?_
    refine tb_cVi X hH hl.1 (c_X1_beginsLeft l g z 0 tb_D0 sl 1 (by omega) (by decide)) ky_X1_beginsLeft.1 ky_X1_beginsLeft.2 wm_188 (tb_oD tb_D0) rfl rfl (Nat.le_of_ble_eq_true rfl) ⟨by decide, by decide⟩ ⟨by decide, by decide⟩ dX5_repair_26 (fun H locs hH => ?_)
    refine lv_if_eq (tgt := 42) X.1 X.2.1 dX5_repair_29 (by decide) (fun c_2 => ?_) (fun c_2 => ?_)
    · refine lv_bipush (v := (-5)) X.1 X.2.1 dX5_repair_42 (by decide +kernel) ?_
      exact tb_ri X hr hlk hH ⟨(by rw [sr_X5_repair]; simp only [if_pos c_1, if_pos c_2]), (by rw [sz_X5_repair]; simp only [if_pos c_1, if_pos c_2])⟩ dX5_repair_44
    · refine lv_aload_n X.1 X.2.1 dX5_repair_32 rfl (lv_at hl 0 rfl) ?_
      refine tb_get X hH tb_Tc.1 (tb_Tc.2 _ _) rfl inlX5 0 (by decide) wm_16 (v := .ref (tb_ad g (0))) rfl dX5_repair_33 ?_
      refine tb_get X hH (tb_Dc tb_D0).1 ((tb_Dc tb_D0).2 _ _) rfl inlX1 8 (by decide) wm_178 (v := .int (z 0 8)) rfl dX5_repair_36 ?_
      refine lv_if_le (tgt := 45) X.1 X.2.1 dX5_repair_39 (by decide) (fun c_3 => ?_) (fun c_3 => ?_)
      · refine lv_aload_n X.1 X.2.1 dX5_repair_45 rfl (lv_at hl 0 rfl) ?_
        refine tb_get X hH tb_Tc.1 (tb_Tc.2 _ _) rfl inlX5 4 (by decide) wm_24 (v := .ref (tb_ad g (153))) rfl dX5_repair_46 ?_
        refine lv_aload_n X.1 X.2.1 dX5_repair_49 rfl (lv_at hl 0 rfl) ?_
        refine tb_get X hH tb_Tc.1 (tb_Tc.2 _ _) rfl inlX5 0 (by decide) wm_16 (v := .ref (tb_ad g (0))) rfl dX5_repair_50 ?_
        refine tb_cVv X hH hl.1 (c_X2_record l g z 0 tb_D0 (tb_rc z) hrc.1 (Nat.lt_trans hrc.2 (by decide))) ky_X2_record.1 ky_X2_record.2 wm_116 tb_oH rfl rfl (Nat.le_of_ble_eq_true rfl) ⟨by decide, by decide⟩ ⟨by decide, by decide⟩ dX5_repair_53 (fun H locs hH => ?_)
        have hH : tb_H g s.heap (sz_X5_repair_m1 z sl) H locs := hH
        refine lv_aload_n X.1 X.2.1 dX5_repair_56 rfl (lv_at hl 0 rfl) ?_
        refine tb_get X hH tb_Tc.1 (tb_Tc.2 _ _) rfl inlX5 0 (by decide) wm_16 (v := .ref (tb_ad g (0))) rfl dX5_repair_57 ?_
        refine lv_iload_n X.1 X.2.1 dX5_repair_60 rfl (lv_at hl 1 rfl) ?_
        refine tb_cVr X hH hl.1 (c_X1_areaAt l g (sz_X5_repair_m1 z sl) 0 tb_D0 sl (by omega)) ky_X1_areaAt.1 ky_X1_areaAt.2 wm_204 (tb_oD tb_D0) rfl rfl (Nat.le_of_ble_eq_true rfl) ⟨by decide, by decide⟩ ⟨by decide, by decide⟩ dX5_repair_61 (fun H locs hH => ?_)
        refine lv_astore_n (lv' := [(2, .ref (tb_ad g ((tb_at 0 sl)))), (0, .ref (tb_ad g (150))), (1, .int (nI (sl)))]) X.1 X.2.1 dX5_repair_64 rfl hl (by decide) rfl (fun ls hl => ?_)
        refine lv_aload_n X.1 X.2.1 dX5_repair_65 rfl (lv_at hl 0 rfl) ?_
        refine lv_iconst (v := nI (1)) X.1 X.2.1 dX5_repair_66 (by decide +kernel) ?_
        refine tb_cVv X hH hl.1 (c_X0_emptyPages l g (sz_X5_repair_m1 z sl) ((tb_at 0 sl)) (tb_isat tb_D0 sl) 1 (by decide)) ky_X0_emptyPages.1 ky_X0_emptyPages.2 wm_205 (tb_oA (tb_isat tb_D0 sl)) rfl rfl (Nat.le_of_ble_eq_true rfl) ⟨by decide, by decide⟩ ⟨by decide, by decide⟩ dX5_repair_67 (fun H locs hH => ?_)
        refine lv_aload_n X.1 X.2.1 dX5_repair_70 rfl (lv_at hl 0 rfl) ?_
        refine tb_cVv X hH hl.1 (c_X0_takeGoldenImage l g (tb_ec (tb_ew (sz_X5_repair_m1 z sl) ((tb_at 0 sl)) 1) ((tb_at 0 sl)) (1 * 4)) ((tb_at 0 sl)) (tb_isat tb_D0 sl)) ky_X0_takeGoldenImage.1 ky_X0_takeGoldenImage.2 wm_347 (tb_oA (tb_isat tb_D0 sl)) rfl rfl (Nat.le_of_ble_eq_true rfl) ⟨by decide, by decide⟩ ⟨by decide, by decide⟩ dX5_repair_71 (fun H locs hH => ?_)
        refine lv_aload_n X.1 X.2.1 dX5_repair_74 rfl (lv_at hl 0 rfl) ?_
        refine lv_iconst (v := nI (1)) X.1 X.2.1 dX5_repair_75 (by decide +kernel) ?_
        refine tb_cVi X hH hl.1 (c_X0_greatestWear l g (sz_X0_takeGoldenImage (tb_ec (tb_ew (sz_X5_repair_m1 z sl) ((tb_at 0 sl)) 1) ((tb_at 0 sl)) (1 * 4)) ((tb_at 0 sl))) ((tb_at 0 sl)) (tb_isat tb_D0 sl) 1 (by decide)) ky_X0_greatestWear.1 ky_X0_greatestWear.2 wm_210 (tb_oA (tb_isat tb_D0 sl)) rfl rfl (Nat.le_of_ble_eq_true rfl) ⟨by decide, by decide⟩ ⟨by decide, by decide⟩ dX5_repair_76 (fun H locs hH => ?_)
        exact tb_ri X hr hlk hH ⟨(by rw [sr_X5_repair]; simp only [if_pos c_1, if_neg c_2, if_pos c_3]), (by rw [sz_X5_repair]; simp only [if_pos c_1, if_neg c_2, if_pos c_3])⟩ dX5_repair_79
      · refine lv_bipush (v := (-5)) X.1 X.2.1 dX5_repair_42 (by decide +kernel) ?_
        exact tb_ri X hr hlk hH ⟨(by rw [sr_X5_repair]; simp only [if_pos c_1, if_neg c_2, if_neg c_3]), (by rw [sz_X5_repair]; simp only [if_pos c_1, if_neg c_2, if_neg c_3])⟩ dX5_repair_44
def sz_X5_start_m1 (z : tb_M) (q : Prop) [Decidable q] : tb_M := sz_X2_record z 0 (tb_rc z)
def sz_X5_start (z : tb_M) (q : Prop) [Decidable q] : tb_M := sz_X1_startBy (sz_X5_start_m1 z q) 0 (nI (if q then 2 else 0))
def sr_X5_start (z : tb_M) (q : Prop) [Decidable q] : Int32 := (sz_X1_startBy (sz_X5_start_m1 z q) 0 (nI (if q then 2 else 0))) 0 5
set_option maxHeartbeats 4000000 in
set_option maxRecDepth 100000 in
theorem c_X5_start (l : Launch) (g : tb_G) (z : tb_M) (q : Prop) [Decidable q] (hS : tb_okS z 0) (hrc : tb_okR z) : tb_Mi (.int) l yX5_start cX5_start 2 5 g z [.ref (tb_ad g 150), .int (tb_b q)] (sr_X5_start z q) (sz_X5_start z q) := by
  refine tb_goi (own := RX5) (by decide +kernel) rfl (Nat.le_of_ble_eq_true rfl) ?_
  intro p e s m below meth c ls X hr hlk hH hl
  have hl : lv_has ls 2 [(0, .ref (tb_ad g (150))), (1, .int (tb_b (q)))] := hl
  refine lv_aload_n X.1 X.2.1 dX5_start_0 rfl (lv_at hl 0 rfl) ?_
  refine tb_get X hH tb_Tc.1 (tb_Tc.2 _ _) rfl inlX5 4 (by decide) wm_24 (v := .ref (tb_ad g (153))) rfl dX5_start_1 ?_
  refine lv_aload_n X.1 X.2.1 dX5_start_4 rfl (lv_at hl 0 rfl) ?_
  refine tb_get X hH tb_Tc.1 (tb_Tc.2 _ _) rfl inlX5 0 (by decide) wm_16 (v := .ref (tb_ad g (0))) rfl dX5_start_5 ?_
  refine tb_cVv X hH hl.1 (c_X2_record l g z 0 tb_D0 (tb_rc z) hrc.1 (Nat.lt_trans hrc.2 (by decide))) ky_X2_record.1 ky_X2_record.2 wm_116 tb_oH rfl rfl (Nat.le_of_ble_eq_true rfl) ⟨by decide, by decide⟩ ⟨by decide, by decide⟩ dX5_start_8 (fun H locs hH => ?_)
  have hH : tb_H g s.heap (sz_X5_start_m1 z q) H locs := hH
  refine lv_aload_n X.1 X.2.1 dX5_start_11 rfl (lv_at hl 0 rfl) ?_
  refine tb_get X hH tb_Tc.1 (tb_Tc.2 _ _) rfl inlX5 0 (by decide) wm_16 (v := .ref (tb_ad g (0))) rfl dX5_start_12 ?_
  refine lv_iload_n X.1 X.2.1 dX5_start_15 rfl (lv_at hl 1 rfl) ?_
  have J_1 : ∀ (H : Heap) (locs : List Loc) (ls : Array Slot) (vq1 : Int32), vq1 = (nI (if q then 2 else 0)) → tb_H g s.heap (sz_X5_start_m1 z q) H locs → lv_has ls 2 [(0, .ref (tb_ad g (150))), (1, .int (tb_b (q)))] → W p l e (tb_rm 5) s m ([.ref (tb_ad g 150), .int (tb_b q)] : List Value).toArray below meth c H locs 0 0 (MQ below (va_Qi (fun r9 u9 => r9 = sr_X5_start z q ∧ u9 = sz_X5_start z q) (tb_B g) (tb_A g)) ([.ref (tb_ad g 150), .int (tb_b q)] : List Value).toArray s 0 0 (tb_A g)) (F0 m 24 ls [.int vq1, .ref (tb_ad g (0))]) := by
    intro H locs ls vq1 evq1 hH hl
    subst evq1
    refine tb_cVv X hH hl.1 (c_X1_startBy l g (sz_X5_start_m1 z q) 0 tb_D0 (nI (if q then 2 else 0)) (tb_rec_okS _ _ hS)) ky_X1_startBy.1 ky_X1_startBy.2 wm_356 (tb_oD tb_D0) rfl rfl (Nat.le_of_ble_eq_true rfl) ⟨by decide, by decide⟩ ⟨by decide, by decide⟩ dX5_start_24 (fun H locs hH => ?_)
    refine lv_aload_n X.1 X.2.1 dX5_start_27 rfl (lv_at hl 0 rfl) ?_
    refine tb_get X hH tb_Tc.1 (tb_Tc.2 _ _) rfl inlX5 0 (by decide) wm_16 (v := .ref (tb_ad g (0))) rfl dX5_start_28 ?_
    refine tb_get X hH (tb_Dc tb_D0).1 ((tb_Dc tb_D0).2 _ _) rfl inlX1 5 (by decide) wm_177 (v := .int ((sz_X1_startBy (sz_X5_start_m1 z q) 0 (nI (if q then 2 else 0))) 0 5)) rfl dX5_start_31 ?_
    exact tb_ri X hr hlk hH ⟨(by rw [sr_X5_start]), (by rw [sz_X5_start])⟩ dX5_start_34
  refine tb_jbeq (tgt := 23) X dX5_start_16 (by decide) (fun c_1 => ?_) (fun c_1 => ?_)
  · refine lv_iconst (v := nI (0)) X.1 X.2.1 dX5_start_23 (by decide +kernel) ?_
    exact J_1 _ _ _ _ (by simp only [if_neg c_1]) hH (lv_sub hl [0, 1] rfl)
  · refine lv_iconst (v := nI (2)) X.1 X.2.1 dX5_start_19 (by decide +kernel) ?_
    refine lv_goto (tgt := 24) X.1 X.2.1 dX5_start_20 (by decide) ?_
    exact J_1 _ _ _ _ (by simp only [if_pos c_1]) hH (lv_sub hl [0, 1] rfl)
set_option maxHeartbeats 4000000 in
set_option maxRecDepth 100000 in
theorem c_X5_pass_bad (l : Launch) (g : tb_G) (z : tb_M) (x : Int32) (hx : ¬ (¬ (x < nI 1) ∧ (¬ (nI 500 < x)))) : tb_Mi (.int) l yX5_pass cX5_pass 2 1 g z [.ref (tb_ad g 150), .int x] ((-2)) (z) := by
  refine tb_goi (own := RX5) (by decide +kernel) rfl (Nat.le_of_ble_eq_true rfl) ?_
  intro p e s m below meth c ls X hr hlk hH hl
  have hl : lv_has ls 2 [(0, .ref (tb_ad g (150))), (1, .int (x))] := hl
  refine lv_iload_n X.1 X.2.1 dX5_pass_0 rfl (lv_at hl 1 rfl) ?_
  refine lv_iconst (v := nI (1)) X.1 X.2.1 dX5_pass_1 (by decide +kernel) ?_
  refine lv_sipush (v := nI (500)) X.1 X.2.1 dX5_pass_2 (by decide +kernel) ?_
  refine tb_cSi X hH hl.1 (c_X5_isWithin l g z x (nI (1)) (nI (500))) ky_X5_isWithin.1 ky_X5_isWithin.2 wm_115 rfl rfl (Nat.le_of_ble_eq_true rfl) ⟨by decide, by decide⟩ ⟨by decide, by decide⟩ dX5_pass_5 (fun H locs hH => ?_)
  refine tb_jbne (tgt := 14) X dX5_pass_8 (by decide) (fun c => (hx c : False).elim) (fun _ => ?_)
  refine lv_bipush (v := (-2)) X.1 X.2.1 dX5_pass_11 (by decide +kernel) ?_
  exact tb_ri X hr hlk hH ⟨rfl, rfl⟩ dX5_pass_13
set_option maxHeartbeats 4000000 in
set_option maxRecDepth 100000 in
theorem c_X5_pass (l : Launch) (g : tb_G) (z : tb_M) (t : Nat) (ht : 1 ≤ t ∧ t ≤ 500) (hrc : tb_okR z) (hW : ∀ i, i < t → tb_okT (tb_lpZ (sz_X2_record z 0 (tb_rc z)) 0 i) 0) : tb_Mi (.int) l yX5_pass cX5_pass 2 7 g z [.ref (tb_ad g 150), .int (nI t)] ((tb_lpN (sz_X2_record z 0 (tb_rc z)) 0 t)) (tb_lpZ (sz_X2_record z 0 (tb_rc z)) 0 t) := by
  refine tb_goi (own := RX5) (by decide +kernel) rfl (Nat.le_of_ble_eq_true rfl) ?_
  intro p e s m below meth c ls X hr hlk hH hl
  have hl : lv_has ls 2 [(0, .ref (tb_ad g (150))), (1, .int (nI (t)))] := hl
  refine lv_iload_n X.1 X.2.1 dX5_pass_0 rfl (lv_at hl 1 rfl) ?_
  refine lv_iconst (v := nI (1)) X.1 X.2.1 dX5_pass_1 (by decide +kernel) ?_
  refine lv_sipush (v := nI (500)) X.1 X.2.1 dX5_pass_2 (by decide +kernel) ?_
  refine tb_cSi X hH hl.1 (c_X5_isWithin l g z (nI (t)) (nI (1)) (nI (500))) ky_X5_isWithin.1 ky_X5_isWithin.2 wm_115 rfl rfl (Nat.le_of_ble_eq_true rfl) ⟨by decide, by decide⟩ ⟨by decide, by decide⟩ dX5_pass_5 (fun H locs hH => ?_)
  refine tb_jbne (tgt := 14) X dX5_pass_8 (by decide) (fun _ => ?_) (fun c => (c ⟨nI_nlt (by omega) (by omega), nI_nlt (by omega) (by omega)⟩ : False).elim)
  refine lv_aload_n X.1 X.2.1 dX5_pass_14 rfl (lv_at hl 0 rfl) ?_
  refine tb_get X hH tb_Tc.1 (tb_Tc.2 _ _) rfl inlX5 4 (by decide) wm_24 (v := .ref (tb_ad g (153))) rfl dX5_pass_15 ?_
  refine lv_aload_n X.1 X.2.1 dX5_pass_18 rfl (lv_at hl 0 rfl) ?_
  refine tb_get X hH tb_Tc.1 (tb_Tc.2 _ _) rfl inlX5 0 (by decide) wm_16 (v := .ref (tb_ad g (0))) rfl dX5_pass_19 ?_
  refine tb_cVv X hH hl.1 (c_X2_record l g z 0 tb_D0 (tb_rc z) hrc.1 (Nat.lt_trans hrc.2 (by decide))) ky_X2_record.1 ky_X2_record.2 wm_116 tb_oH rfl rfl (Nat.le_of_ble_eq_true rfl) ⟨by decide, by decide⟩ ⟨by decide, by decide⟩ dX5_pass_22 (fun H locs hH => ?_)
  refine lv_aload_n X.1 X.2.1 dX5_pass_25 rfl (lv_at hl 0 rfl) ?_
  refine tb_get X hH tb_Tc.1 (tb_Tc.2 _ _) rfl inlX5 0 (by decide) wm_16 (v := .ref (tb_ad g (0))) rfl dX5_pass_26 ?_
  refine lv_iload_n X.1 X.2.1 dX5_pass_29 rfl (lv_at hl 1 rfl) ?_
  refine tb_cVi X hH hl.1 (c_X1_letPass l g (sz_X2_record z 0 (tb_rc z)) 0 tb_D0 t (by omega) hW) ky_X1_letPass.1 ky_X1_letPass.2 wm_425 (tb_oD tb_D0) rfl rfl (Nat.le_of_ble_eq_true rfl) ⟨by decide, by decide⟩ ⟨by decide, by decide⟩ dX5_pass_30 (fun H locs hH => ?_)
  exact tb_ri X hr hlk hH ⟨rfl, rfl⟩ dX5_pass_33
end
