section
-- ===== PART A: goes FIRST, ahead of the names: the tables' words, and 'selects' of the private methods out of them =====
/-- a private method of a class that the tables say can be made, by its rows of tables_1 -/
def lw_okq (q : MethodName × Nat) : Prop := (q.1.cls ≠ "java/lang/invoke/MethodHandle" ∧ q.1.cls ≠ "java/lang/invoke/VarHandle") ∧ Cond.instantiable q.1.cls q.2 ∈ tables_1 ∧ Cond.privateMethod q.1 ∈ tables_1 ∧ Cond.instanceMethod q.1 ∈ tables_1
theorem lw_p0 : lw_okq (⟨"ChronoTrials", "isClock", "(I)Z"⟩, 9) := ⟨⟨by decide +kernel, by decide +kernel⟩, List.mem_of_getElem? (i := 4) (by decide +kernel), List.mem_of_getElem? (i := 67) (by decide +kernel), List.mem_of_getElem? (i := 68) (by decide +kernel)⟩
theorem lw_p1 : lw_okq (⟨"ChronoTrials", "marksOf", "(III)I"⟩, 9) := ⟨⟨by decide +kernel, by decide +kernel⟩, List.mem_of_getElem? (i := 4) (by decide +kernel), List.mem_of_getElem? (i := 71) (by decide +kernel), List.mem_of_getElem? (i := 72) (by decide +kernel)⟩
theorem lw_p2 : lw_okq (⟨"ChronoTrials", "isCold", "(I)Z"⟩, 9) := ⟨⟨by decide +kernel, by decide +kernel⟩, List.mem_of_getElem? (i := 4) (by decide +kernel), List.mem_of_getElem? (i := 75) (by decide +kernel), List.mem_of_getElem? (i := 76) (by decide +kernel)⟩
theorem lw_p3 : lw_okq (⟨"ChronoTrials", "leastRate", "(I)I"⟩, 9) := ⟨⟨by decide +kernel, by decide +kernel⟩, List.mem_of_getElem? (i := 4) (by decide +kernel), List.mem_of_getElem? (i := 98) (by decide +kernel), List.mem_of_getElem? (i := 99) (by decide +kernel)⟩
theorem lw_p4 : lw_okq (⟨"ChronoTrials", "clocksAhead", "(I)I"⟩, 9) := ⟨⟨by decide +kernel, by decide +kernel⟩, List.mem_of_getElem? (i := 4) (by decide +kernel), List.mem_of_getElem? (i := 106) (by decide +kernel), List.mem_of_getElem? (i := 107) (by decide +kernel)⟩
theorem lw_p5 : lw_okq (⟨"ChronoTrials", "goesAhead", "(II)Z"⟩, 9) := ⟨⟨by decide +kernel, by decide +kernel⟩, List.mem_of_getElem? (i := 4) (by decide +kernel), List.mem_of_getElem? (i := 110) (by decide +kernel), List.mem_of_getElem? (i := 111) (by decide +kernel)⟩
theorem lw_p6 : lw_okq (⟨"ChronoTrials", "rank", "(I)I"⟩, 9) := ⟨⟨by decide +kernel, by decide +kernel⟩, List.mem_of_getElem? (i := 4) (by decide +kernel), List.mem_of_getElem? (i := 118) (by decide +kernel), List.mem_of_getElem? (i := 119) (by decide +kernel)⟩
theorem lw_p7 : lw_okq (⟨"ChronoTrials", "coldTrials", "(I)I"⟩, 9) := ⟨⟨by decide +kernel, by decide +kernel⟩, List.mem_of_getElem? (i := 4) (by decide +kernel), List.mem_of_getElem? (i := 125) (by decide +kernel), List.mem_of_getElem? (i := 126) (by decide +kernel)⟩
theorem lw_p8 : lw_okq (⟨"ChronoTrials", "trialsAheadOfBest", "(I)I"⟩, 9) := ⟨⟨by decide +kernel, by decide +kernel⟩, List.mem_of_getElem? (i := 4) (by decide +kernel), List.mem_of_getElem? (i := 129) (by decide +kernel), List.mem_of_getElem? (i := 130) (by decide +kernel)⟩
theorem lw_p9 : lw_okq (⟨"ChronoTrials", "latestChill", "(I)I"⟩, 9) := ⟨⟨by decide +kernel, by decide +kernel⟩, List.mem_of_getElem? (i := 4) (by decide +kernel), List.mem_of_getElem? (i := 133) (by decide +kernel), List.mem_of_getElem? (i := 134) (by decide +kernel)⟩
theorem lw_p10 : lw_okq (⟨"ChronoTrials", "holdsOfClocks", "(IIII)Z"⟩, 9) := ⟨⟨by decide +kernel, by decide +kernel⟩, List.mem_of_getElem? (i := 4) (by decide +kernel), List.mem_of_getElem? (i := 141) (by decide +kernel), List.mem_of_getElem? (i := 142) (by decide +kernel)⟩
theorem lw_p11 : lw_okq (⟨"ChronoTrials", "clocksInARow", "(IIII)I"⟩, 9) := ⟨⟨by decide +kernel, by decide +kernel⟩, List.mem_of_getElem? (i := 4) (by decide +kernel), List.mem_of_getElem? (i := 145) (by decide +kernel), List.mem_of_getElem? (i := 146) (by decide +kernel)⟩
theorem lw_p12 : lw_okq (⟨"ChronoTrials", "sealsOn", "()I"⟩, 9) := ⟨⟨by decide +kernel, by decide +kernel⟩, List.mem_of_getElem? (i := 4) (by decide +kernel), List.mem_of_getElem? (i := 149) (by decide +kernel), List.mem_of_getElem? (i := 150) (by decide +kernel)⟩
theorem lw_p13 : lw_okq (⟨"ChronoTrials", "trialsOfAll", "()I"⟩, 9) := ⟨⟨by decide +kernel, by decide +kernel⟩, List.mem_of_getElem? (i := 4) (by decide +kernel), List.mem_of_getElem? (i := 160) (by decide +kernel), List.mem_of_getElem? (i := 161) (by decide +kernel)⟩
theorem lw_p14 : lw_okq (⟨"ChronoTrials", "firstOfTheBest", "()I"⟩, 9) := ⟨⟨by decide +kernel, by decide +kernel⟩, List.mem_of_getElem? (i := 4) (by decide +kernel), List.mem_of_getElem? (i := 164) (by decide +kernel), List.mem_of_getElem? (i := 165) (by decide +kernel)⟩
theorem lw_p15 : lw_okq (⟨"ChronoTrialsModel", "isClock", "(I)Z"⟩, 9) := ⟨⟨by decide +kernel, by decide +kernel⟩, List.mem_of_getElem? (i := 168) (by decide +kernel), List.mem_of_getElem? (i := 224) (by decide +kernel), List.mem_of_getElem? (i := 225) (by decide +kernel)⟩
def lw_privs_1 : List (MethodName × Nat) := [(⟨"ChronoTrials", "isClock", "(I)Z"⟩, 9), (⟨"ChronoTrials", "marksOf", "(III)I"⟩, 9), (⟨"ChronoTrials", "isCold", "(I)Z"⟩, 9), (⟨"ChronoTrials", "leastRate", "(I)I"⟩, 9), (⟨"ChronoTrials", "clocksAhead", "(I)I"⟩, 9), (⟨"ChronoTrials", "goesAhead", "(II)Z"⟩, 9), (⟨"ChronoTrials", "rank", "(I)I"⟩, 9), (⟨"ChronoTrials", "coldTrials", "(I)I"⟩, 9), (⟨"ChronoTrials", "trialsAheadOfBest", "(I)I"⟩, 9), (⟨"ChronoTrials", "latestChill", "(I)I"⟩, 9), (⟨"ChronoTrials", "holdsOfClocks", "(IIII)Z"⟩, 9), (⟨"ChronoTrials", "clocksInARow", "(IIII)I"⟩, 9), (⟨"ChronoTrials", "sealsOn", "()I"⟩, 9), (⟨"ChronoTrials", "trialsOfAll", "()I"⟩, 9), (⟨"ChronoTrials", "firstOfTheBest", "()I"⟩, 9), (⟨"ChronoTrialsModel", "isClock", "(I)Z"⟩, 9)]
theorem lw_r1 : ∀ q ∈ lw_privs_1, lw_okq q := List.forall_mem_cons.mpr ⟨lw_p0, List.forall_mem_cons.mpr ⟨lw_p1, List.forall_mem_cons.mpr ⟨lw_p2, List.forall_mem_cons.mpr ⟨lw_p3, List.forall_mem_cons.mpr ⟨lw_p4, List.forall_mem_cons.mpr ⟨lw_p5, List.forall_mem_cons.mpr ⟨lw_p6, List.forall_mem_cons.mpr ⟨lw_p7, List.forall_mem_cons.mpr ⟨lw_p8, List.forall_mem_cons.mpr ⟨lw_p9, List.forall_mem_cons.mpr ⟨lw_p10, List.forall_mem_cons.mpr ⟨lw_p11, List.forall_mem_cons.mpr ⟨lw_p12, List.forall_mem_cons.mpr ⟨lw_p13, List.forall_mem_cons.mpr ⟨lw_p14, List.forall_mem_cons.mpr ⟨lw_p15, fun _ h => absurd h List.not_mem_nil⟩⟩⟩⟩⟩⟩⟩⟩⟩⟩⟩⟩⟩⟩⟩⟩
theorem lw_p16 : lw_okq (⟨"ChronoTrialsModel", "isCold", "(I)Z"⟩, 9) := ⟨⟨by decide +kernel, by decide +kernel⟩, List.mem_of_getElem? (i := 168) (by decide +kernel), List.mem_of_getElem? (i := 228) (by decide +kernel), List.mem_of_getElem? (i := 229) (by decide +kernel)⟩
theorem lw_p17 : lw_okq (⟨"ChronoTrialsModel", "ahead", "(I)I"⟩, 9) := ⟨⟨by decide +kernel, by decide +kernel⟩, List.mem_of_getElem? (i := 168) (by decide +kernel), List.mem_of_getElem? (i := 246) (by decide +kernel), List.mem_of_getElem? (i := 247) (by decide +kernel)⟩
theorem lw_p18 : lw_okq (⟨"ChronoTrialsModel", "isAhead", "(II)Z"⟩, 9) := ⟨⟨by decide +kernel, by decide +kernel⟩, List.mem_of_getElem? (i := 168) (by decide +kernel), List.mem_of_getElem? (i := 250) (by decide +kernel), List.mem_of_getElem? (i := 251) (by decide +kernel)⟩
theorem lw_p19 : lw_okq (⟨"ChronoTrialsModel", "rank", "(I)I"⟩, 9) := ⟨⟨by decide +kernel, by decide +kernel⟩, List.mem_of_getElem? (i := 168) (by decide +kernel), List.mem_of_getElem? (i := 258) (by decide +kernel), List.mem_of_getElem? (i := 259) (by decide +kernel)⟩
theorem lw_p20 : lw_okq (⟨"ChronoTrialsModel", "cold", "(I)I"⟩, 9) := ⟨⟨by decide +kernel, by decide +kernel⟩, List.mem_of_getElem? (i := 168) (by decide +kernel), List.mem_of_getElem? (i := 262) (by decide +kernel), List.mem_of_getElem? (i := 263) (by decide +kernel)⟩
theorem lw_p21 : lw_okq (⟨"ChronoTrialsModel", "more", "(I)I"⟩, 9) := ⟨⟨by decide +kernel, by decide +kernel⟩, List.mem_of_getElem? (i := 168) (by decide +kernel), List.mem_of_getElem? (i := 266) (by decide +kernel), List.mem_of_getElem? (i := 267) (by decide +kernel)⟩
theorem lw_p22 : lw_okq (⟨"ChronoTrialsModel", "chill", "(I)I"⟩, 9) := ⟨⟨by decide +kernel, by decide +kernel⟩, List.mem_of_getElem? (i := 168) (by decide +kernel), List.mem_of_getElem? (i := 270) (by decide +kernel), List.mem_of_getElem? (i := 271) (by decide +kernel)⟩
theorem lw_p23 : lw_okq (⟨"ChronoTrialsModel", "asked", "(IIII)Z"⟩, 9) := ⟨⟨by decide +kernel, by decide +kernel⟩, List.mem_of_getElem? (i := 168) (by decide +kernel), List.mem_of_getElem? (i := 278) (by decide +kernel), List.mem_of_getElem? (i := 279) (by decide +kernel)⟩
theorem lw_p24 : lw_okq (⟨"ChronoTrialsModel", "seals", "()I"⟩, 9) := ⟨⟨by decide +kernel, by decide +kernel⟩, List.mem_of_getElem? (i := 168) (by decide +kernel), List.mem_of_getElem? (i := 282) (by decide +kernel), List.mem_of_getElem? (i := 283) (by decide +kernel)⟩
theorem lw_p25 : lw_okq (⟨"ChronoTrialsModel", "trials", "()I"⟩, 9) := ⟨⟨by decide +kernel, by decide +kernel⟩, List.mem_of_getElem? (i := 168) (by decide +kernel), List.mem_of_getElem? (i := 290) (by decide +kernel), List.mem_of_getElem? (i := 291) (by decide +kernel)⟩
theorem lw_p26 : lw_okq (⟨"ChronoTrialsModel", "first", "()I"⟩, 9) := ⟨⟨by decide +kernel, by decide +kernel⟩, List.mem_of_getElem? (i := 168) (by decide +kernel), List.mem_of_getElem? (i := 294) (by decide +kernel), List.mem_of_getElem? (i := 295) (by decide +kernel)⟩
def lw_privs_2 : List (MethodName × Nat) := [(⟨"ChronoTrialsModel", "isCold", "(I)Z"⟩, 9), (⟨"ChronoTrialsModel", "ahead", "(I)I"⟩, 9), (⟨"ChronoTrialsModel", "isAhead", "(II)Z"⟩, 9), (⟨"ChronoTrialsModel", "rank", "(I)I"⟩, 9), (⟨"ChronoTrialsModel", "cold", "(I)I"⟩, 9), (⟨"ChronoTrialsModel", "more", "(I)I"⟩, 9), (⟨"ChronoTrialsModel", "chill", "(I)I"⟩, 9), (⟨"ChronoTrialsModel", "asked", "(IIII)Z"⟩, 9), (⟨"ChronoTrialsModel", "seals", "()I"⟩, 9), (⟨"ChronoTrialsModel", "trials", "()I"⟩, 9), (⟨"ChronoTrialsModel", "first", "()I"⟩, 9)]
theorem lw_r2 : ∀ q ∈ lw_privs_2, lw_okq q := List.forall_mem_cons.mpr ⟨lw_p16, List.forall_mem_cons.mpr ⟨lw_p17, List.forall_mem_cons.mpr ⟨lw_p18, List.forall_mem_cons.mpr ⟨lw_p19, List.forall_mem_cons.mpr ⟨lw_p20, List.forall_mem_cons.mpr ⟨lw_p21, List.forall_mem_cons.mpr ⟨lw_p22, List.forall_mem_cons.mpr ⟨lw_p23, List.forall_mem_cons.mpr ⟨lw_p24, List.forall_mem_cons.mpr ⟨lw_p25, List.forall_mem_cons.mpr ⟨lw_p26, fun _ h => absurd h List.not_mem_nil⟩⟩⟩⟩⟩⟩⟩⟩⟩⟩⟩
def lw_privs : List (MethodName × Nat) := lw_privs_1 ++ (lw_privs_2)
def lw_tbl : List Cond := k2_sels lw_privs ++ tables_1
theorem lw_privs_ok : ∀ q ∈ lw_privs, lw_okq q := by
  show ∀ q ∈ lw_privs_1 ++ (lw_privs_2), lw_okq q
  exact List.forall_mem_append.mpr ⟨lw_r1, lw_r2⟩
end
section
/-! ===== BEGIN words of one list among another's, by their places ===== -/
theorem goodIn_r {big : List Cond} (ws : List Cond) (ps : List Nat) (hp : ws = ps.filterMap (fun i => big[i]?)) (h : ws.all goodWord = true) : GoodIn big ws := by
  intro w hw
  have h1 := List.all_eq_true.mp h w hw
  rw [hp] at hw
  obtain ⟨i, -, hi⟩ := List.mem_filterMap.mp hw
  have hm : w ∈ big := by first | exact List.mem_of_getElem? hi | exact List.getElem?_mem hi
  exact ⟨hm, good_of_word h1⟩
theorem goodIn_app {big a b : List Cond} (ha : GoodIn big a) (hb : GoodIn big b) : GoodIn big (a ++ b) := fun w h => (List.mem_append.mp h).elim (ha w) (hb w)
theorem goodIn_ca {big a b : List Cond} {c : Cond} (ha : GoodIn big (c :: a)) (hb : GoodIn big b) : GoodIn big (c :: (a ++ b)) := fun w h => (List.mem_cons.mp h).elim (fun e => ha w (List.mem_cons.mpr (Or.inl e))) (fun h => (List.mem_append.mp h).elim (fun h => ha w (List.mem_cons.mpr (Or.inr h))) (hb w))
theorem goodIn_sub {big ws : List Cond} (hm : ∀ w ∈ ws, w ∈ big) (h : ws.all goodWord = true) : GoodIn big ws := fun w hw => ⟨hm w hw, good_of_word (List.all_eq_true.mp h w hw)⟩
/-! ===== END ===== -/

/-! ===== BEGIN printed: names, fields, word lists, decode rows ===== -/
def RX0 : String := "ChronoTrials"
def TX0 : u_T := fun k => match k with
  | 0 => ("ChronoTrials", "rates", "[I", true)
  | 1 => ("ChronoTrials", "chills", "[I", true)
  | 2 => ("ChronoTrials", "trialsOf", "[I", true)
  | 3 => ("ChronoTrials", "bests", "[I", true)
  | 4 => ("ChronoTrials", "seals", "[Z", true)
  | 5 => ("ChronoTrials", "clocks", "I", false)
  | 6 => ("ChronoTrials", "prizeRate", "I", false)
  | 7 => ("ChronoTrials", "recordRate", "I", false)
  | _ => ("ChronoTrials", "frostChill", "I", false)
def tyX0 : Nat → FieldType := fun k => match k with
  | 0 => .array .int
  | 1 => .array .int
  | 2 => .array .int
  | 3 => .array .int
  | 4 => .array .boolean
  | 5 => .int
  | 6 => .int
  | 7 => .int
  | _ => .int
abbrev wsX00 : List Cond := u_ws RX0 TX0 9
theorem nmX0 : ∀ a, a < 9 → ∀ b, b < 9 → a ≠ b → (TX0 a).2.1 ≠ (TX0 b).2.1 := by decide +kernel
theorem tyX0_ok : ∀ k, k < 9 → parseFieldDescriptor (TX0 k).2.2.1 = some (tyX0 k) := by decide +kernel
abbrev cX0_init : ByteArray := prog_1_method_1_code
def yX0_init : MethodName := ⟨RX0, "<init>", "()V"⟩
abbrev cX0_admit : ByteArray := prog_1_method_2_code
def yX0_admit : MethodName := site_85
abbrev cX0_prize : ByteArray := prog_1_method_3_code
def yX0_prize : MethodName := ⟨RX0, "prize", "(I)Z"⟩
abbrev cX0_frost : ByteArray := prog_1_method_4_code
def yX0_frost : MethodName := ⟨RX0, "frost", "(I)Z"⟩
abbrev cX0_trial : ByteArray := prog_1_method_5_code
def yX0_trial : MethodName := ⟨RX0, "trial", "(III)I"⟩
abbrev cX0_annul : ByteArray := prog_1_method_6_code
def yX0_annul : MethodName := ⟨RX0, "annul", "(I)I"⟩
abbrev cX0_place : ByteArray := prog_1_method_7_code
def yX0_place : MethodName := ⟨RX0, "place", "(I)I"⟩
abbrev cX0_tell : ByteArray := prog_1_method_8_code
def yX0_tell : MethodName := ⟨RX0, "tell", "(II)I"⟩
abbrev cX0_ask : ByteArray := prog_1_method_9_code
def yX0_ask : MethodName := ⟨RX0, "ask", "(IIIII)I"⟩
abbrev cX0_count : ByteArray := prog_1_method_10_code
def yX0_count : MethodName := ⟨RX0, "count", "(I)I"⟩
abbrev cX0_isClock : ByteArray := prog_1_method_11_code
def yX0_isClock : MethodName := ⟨RX0, "isClock", "(I)Z"⟩
abbrev cX0_isRate : ByteArray := prog_1_method_12_code
def yX0_isRate : MethodName := ⟨RX0, "isRate", "(I)Z"⟩
abbrev cX0_isChill : ByteArray := prog_1_method_13_code
def yX0_isChill : MethodName := ⟨RX0, "isChill", "(I)Z"⟩
abbrev cX0_isWithin : ByteArray := prog_1_method_14_code
def yX0_isWithin : MethodName := ⟨RX0, "isWithin", "(III)Z"⟩
abbrev cX0_oneIf : ByteArray := prog_1_method_15_code
def yX0_oneIf : MethodName := ⟨RX0, "oneIf", "(Z)I"⟩
abbrev cX0_slot : ByteArray := prog_1_method_16_code
def yX0_slot : MethodName := ⟨RX0, "slot", "(II)I"⟩
abbrev cX0_holdsOfRates : ByteArray := prog_1_method_17_code
def yX0_holdsOfRates : MethodName := ⟨RX0, "holdsOfRates", "(III)Z"⟩
abbrev cX0_holdsOfChills : ByteArray := prog_1_method_18_code
def yX0_holdsOfChills : MethodName := ⟨RX0, "holdsOfChills", "(III)Z"⟩
abbrev cX0_holdsOfNumbers : ByteArray := prog_1_method_19_code
def yX0_holdsOfNumbers : MethodName := ⟨RX0, "holdsOfNumbers", "(III)Z"⟩
abbrev cX0_holdsOfClocks : ByteArray := prog_1_method_20_code
def yX0_holdsOfClocks : MethodName := ⟨RX0, "holdsOfClocks", "(IIII)Z"⟩
abbrev cX0_isCold : ByteArray := prog_1_method_21_code
def yX0_isCold : MethodName := ⟨RX0, "isCold", "(I)Z"⟩
abbrev cX0_betters : ByteArray := prog_1_method_22_code
def yX0_betters : MethodName := ⟨RX0, "betters", "(II)Z"⟩
abbrev cX0_marksOf : ByteArray := prog_1_method_23_code
def yX0_marksOf : MethodName := ⟨RX0, "marksOf", "(III)I"⟩
abbrev cX0_leastRate : ByteArray := prog_1_method_24_code
def yX0_leastRate : MethodName := ⟨RX0, "leastRate", "(I)I"⟩
abbrev cX0_clocksAhead : ByteArray := prog_1_method_25_code
def yX0_clocksAhead : MethodName := ⟨RX0, "clocksAhead", "(I)I"⟩
abbrev cX0_goesAhead : ByteArray := prog_1_method_26_code
def yX0_goesAhead : MethodName := ⟨RX0, "goesAhead", "(II)Z"⟩
abbrev cX0_rank : ByteArray := prog_1_method_27_code
def yX0_rank : MethodName := ⟨RX0, "rank", "(I)I"⟩
abbrev cX0_coldTrials : ByteArray := prog_1_method_28_code
def yX0_coldTrials : MethodName := ⟨RX0, "coldTrials", "(I)I"⟩
abbrev cX0_trialsAheadOfBest : ByteArray := prog_1_method_29_code
def yX0_trialsAheadOfBest : MethodName := ⟨RX0, "trialsAheadOfBest", "(I)I"⟩
abbrev cX0_latestChill : ByteArray := prog_1_method_30_code
def yX0_latestChill : MethodName := ⟨RX0, "latestChill", "(I)I"⟩
abbrev cX0_clocksInARow : ByteArray := prog_1_method_31_code
def yX0_clocksInARow : MethodName := ⟨RX0, "clocksInARow", "(IIII)I"⟩
abbrev cX0_bothWays : ByteArray := prog_1_method_32_code
def yX0_bothWays : MethodName := ⟨RX0, "bothWays", "(ZZ)I"⟩
abbrev cX0_sealsOn : ByteArray := prog_1_method_33_code
def yX0_sealsOn : MethodName := ⟨RX0, "sealsOn", "()I"⟩
abbrev cX0_trialsOfAll : ByteArray := prog_1_method_34_code
def yX0_trialsOfAll : MethodName := ⟨RX0, "trialsOfAll", "()I"⟩
abbrev cX0_firstOfTheBest : ByteArray := prog_1_method_35_code
def yX0_firstOfTheBest : MethodName := ⟨RX0, "firstOfTheBest", "()I"⟩
def RX1 : String := "ChronoTrialsModel"
def TX1 : u_T := fun k => match k with
  | 0 => ("ChronoTrialsModel", "clocks", "I", false)
  | 1 => ("ChronoTrialsModel", "prize", "I", false)
  | 2 => ("ChronoTrialsModel", "frost", "I", false)
  | 3 => ("ChronoTrialsModel", "record", "I", false)
  | 4 => ("ChronoTrialsModel", "many", "[I", true)
  | 5 => ("ChronoTrialsModel", "best", "[I", true)
  | 6 => ("ChronoTrialsModel", "seal", "[I", true)
  | 7 => ("ChronoTrialsModel", "rates", "[I", true)
  | _ => ("ChronoTrialsModel", "chills", "[I", true)
def tyX1 : Nat → FieldType := fun k => match k with
  | 0 => .int
  | 1 => .int
  | 2 => .int
  | 3 => .int
  | 4 => .array .int
  | 5 => .array .int
  | 6 => .array .int
  | 7 => .array .int
  | _ => .array .int
abbrev wsX10 : List Cond := u_ws RX1 TX1 9
theorem nmX1 : ∀ a, a < 9 → ∀ b, b < 9 → a ≠ b → (TX1 a).2.1 ≠ (TX1 b).2.1 := by decide +kernel
theorem tyX1_ok : ∀ k, k < 9 → parseFieldDescriptor (TX1 k).2.2.1 = some (tyX1 k) := by decide +kernel
abbrev cX1_init : ByteArray := prog_3_method_1_code
def yX1_init : MethodName := ⟨RX1, "<init>", "()V"⟩
abbrev cX1_isClock : ByteArray := prog_3_method_2_code
def yX1_isClock : MethodName := ⟨RX1, "isClock", "(I)Z"⟩
abbrev cX1_isRate : ByteArray := prog_3_method_3_code
def yX1_isRate : MethodName := ⟨RX1, "isRate", "(I)Z"⟩
abbrev cX1_isChill : ByteArray := prog_3_method_4_code
def yX1_isChill : MethodName := ⟨RX1, "isChill", "(I)Z"⟩
abbrev cX1_holds : ByteArray := prog_3_method_5_code
def yX1_holds : MethodName := ⟨RX1, "holds", "(IIII)Z"⟩
abbrev cX1_admit : ByteArray := prog_3_method_6_code
def yX1_admit : MethodName := site_89
abbrev cX1_prize : ByteArray := prog_3_method_7_code
def yX1_prize : MethodName := ⟨RX1, "prize", "(I)Z"⟩
abbrev cX1_frost : ByteArray := prog_3_method_8_code
def yX1_frost : MethodName := ⟨RX1, "frost", "(I)Z"⟩
abbrev cX1_isCold : ByteArray := prog_3_method_9_code
def yX1_isCold : MethodName := ⟨RX1, "isCold", "(I)Z"⟩
abbrev cX1_beats : ByteArray := prog_3_method_10_code
def yX1_beats : MethodName := ⟨RX1, "beats", "(II)Z"⟩
abbrev cX1_trial : ByteArray := prog_3_method_11_code
def yX1_trial : MethodName := ⟨RX1, "trial", "(III)I"⟩
abbrev cX1_annul : ByteArray := prog_3_method_12_code
def yX1_annul : MethodName := ⟨RX1, "annul", "(I)I"⟩
abbrev cX1_isAhead : ByteArray := prog_3_method_13_code
def yX1_isAhead : MethodName := ⟨RX1, "isAhead", "(II)Z"⟩
abbrev cX1_ahead : ByteArray := prog_3_method_14_code
def yX1_ahead : MethodName := ⟨RX1, "ahead", "(I)I"⟩
abbrev cX1_place : ByteArray := prog_3_method_15_code
def yX1_place : MethodName := ⟨RX1, "place", "(I)I"⟩
abbrev cX1_chill : ByteArray := prog_3_method_16_code
def yX1_chill : MethodName := ⟨RX1, "chill", "(I)I"⟩
abbrev cX1_rank : ByteArray := prog_3_method_17_code
def yX1_rank : MethodName := ⟨RX1, "rank", "(I)I"⟩
abbrev cX1_cold : ByteArray := prog_3_method_18_code
def yX1_cold : MethodName := ⟨RX1, "cold", "(I)I"⟩
abbrev cX1_more : ByteArray := prog_3_method_19_code
def yX1_more : MethodName := ⟨RX1, "more", "(I)I"⟩
abbrev cX1_tell : ByteArray := prog_3_method_20_code
def yX1_tell : MethodName := ⟨RX1, "tell", "(II)I"⟩
abbrev cX1_asked : ByteArray := prog_3_method_21_code
def yX1_asked : MethodName := ⟨RX1, "asked", "(IIII)Z"⟩
abbrev cX1_seals : ByteArray := prog_3_method_22_code
def yX1_seals : MethodName := ⟨RX1, "seals", "()I"⟩
abbrev cX1_ask : ByteArray := prog_3_method_23_code
def yX1_ask : MethodName := ⟨RX1, "ask", "(IIIII)I"⟩
abbrev cX1_trials : ByteArray := prog_3_method_24_code
def yX1_trials : MethodName := ⟨RX1, "trials", "()I"⟩
abbrev cX1_first : ByteArray := prog_3_method_25_code
def yX1_first : MethodName := ⟨RX1, "first", "()I"⟩
abbrev cX1_count : ByteArray := prog_3_method_26_code
def yX1_count : MethodName := ⟨RX1, "count", "(I)I"⟩
def RL : String := "ChronoTrialsLaw"
abbrev cL_law : ByteArray := code
def yL_law : MethodName := ⟨RL, "law", "([I)Z"⟩
def wsX0_init : List Cond := .code yX0_init cX0_init 1 none :: ([.methodLink RX0 1 objectInit, .instanceMethod objectInit, .code objectInit ⟨#[0xb1]⟩ 1 none, .arrayClass .int, .fieldLink RX0 9 "ChronoTrials" "rates" "[I", .fieldLink RX0 13 "ChronoTrials" "chills" "[I", .fieldLink RX0 16 "ChronoTrials" "trialsOf" "[I", .fieldLink RX0 19 "ChronoTrials" "bests" "[I", .arrayClass .boolean, .fieldLink RX0 22 "ChronoTrials" "seals" "[Z", .fieldLink RX0 26 "ChronoTrials" "clocks" "I", .fieldLink RX0 30 "ChronoTrials" "prizeRate" "I", .fieldLink RX0 33 "ChronoTrials" "recordRate" "I", .fieldLink RX0 36 "ChronoTrials" "frostChill" "I"] ++ wsX00)
def wsX0_admit : List Cond := .code yX0_admit cX0_admit 2 (some .int) :: ([.fieldLink RX0 26 "ChronoTrials" "clocks" "I", .fieldLink RX0 19 "ChronoTrials" "bests" "[I"] ++ wsX00)
def wsX0_isWithin : List Cond := .code yX0_isWithin cX0_isWithin 3 (some .boolean) :: ([])
def wsX0_isRate : List Cond := .code yX0_isRate cX0_isRate 1 (some .boolean) :: ([.methodLink RX0 80 yX0_isWithin, .static yX0_isWithin, .initialized RX0, .code yX0_isWithin cX0_isWithin 3 (some .boolean)])
def wsX0_prize : List Cond := .code yX0_prize cX0_prize 2 (some .boolean) :: ([.fieldLink RX0 30 "ChronoTrials" "prizeRate" "I", .methodLink RX0 39 yX0_isRate, .static yX0_isRate, .initialized RX0, .code yX0_isRate cX0_isRate 1 (some .boolean), .methodLink RX0 80 yX0_isWithin, .static yX0_isWithin, .code yX0_isWithin cX0_isWithin 3 (some .boolean)] ++ wsX00)
def wsX0_isChill : List Cond := .code yX0_isChill cX0_isChill 1 (some .boolean) :: ([.methodLink RX0 80 yX0_isWithin, .static yX0_isWithin, .initialized RX0, .code yX0_isWithin cX0_isWithin 3 (some .boolean)])
def wsX0_frost : List Cond := .code yX0_frost cX0_frost 2 (some .boolean) :: ([.fieldLink RX0 36 "ChronoTrials" "frostChill" "I", .methodLink RX0 43 yX0_isChill, .static yX0_isChill, .initialized RX0, .code yX0_isChill cX0_isChill 1 (some .boolean), .methodLink RX0 80 yX0_isWithin, .static yX0_isWithin, .code yX0_isWithin cX0_isWithin 3 (some .boolean)] ++ wsX00)
def wsX0_isClock : List Cond := .code yX0_isClock cX0_isClock 2 (some .boolean) :: ([.fieldLink RX0 26 "ChronoTrials" "clocks" "I"] ++ wsX00)
def wsX0_holdsOfNumbers : List Cond := .code yX0_holdsOfNumbers cX0_holdsOfNumbers 3 (some .boolean) :: ([])
def wsX0_holdsOfChills : List Cond := .code yX0_holdsOfChills cX0_holdsOfChills 3 (some .boolean) :: ([.methodLink RX0 106 yX0_holdsOfNumbers, .static yX0_holdsOfNumbers, .initialized RX0, .code yX0_holdsOfNumbers cX0_holdsOfNumbers 3 (some .boolean)])
def wsX0_isCold : List Cond := .code yX0_isCold cX0_isCold 2 (some .boolean) :: ([.fieldLink RX0 36 "ChronoTrials" "frostChill" "I", .methodLink RX0 112 yX0_holdsOfChills, .static yX0_holdsOfChills, .initialized RX0, .code yX0_holdsOfChills cX0_holdsOfChills 3 (some .boolean), .methodLink RX0 106 yX0_holdsOfNumbers, .static yX0_holdsOfNumbers, .code yX0_holdsOfNumbers cX0_holdsOfNumbers 3 (some .boolean)] ++ wsX00)
def wsX0_holdsOfRates : List Cond := .code yX0_holdsOfRates cX0_holdsOfRates 3 (some .boolean) :: ([.methodLink RX0 106 yX0_holdsOfNumbers, .static yX0_holdsOfNumbers, .initialized RX0, .code yX0_holdsOfNumbers cX0_holdsOfNumbers 3 (some .boolean)])
def wsX0_betters : List Cond := .code yX0_betters cX0_betters 2 (some .boolean) :: ([.methodLink RX0 109 yX0_holdsOfRates, .static yX0_holdsOfRates, .initialized RX0, .code yX0_holdsOfRates cX0_holdsOfRates 3 (some .boolean), .methodLink RX0 106 yX0_holdsOfNumbers, .static yX0_holdsOfNumbers, .code yX0_holdsOfNumbers cX0_holdsOfNumbers 3 (some .boolean)])
def wsX0_marksOf : List Cond := .code yX0_marksOf cX0_marksOf 5 (some .int) :: ([.fieldLink RX0 30 "ChronoTrials" "prizeRate" "I", .fieldLink RX0 19 "ChronoTrials" "bests" "[I", .fieldLink RX0 33 "ChronoTrials" "recordRate" "I", .methodLink RX0 115 yX0_isCold, .instanceMethod yX0_isCold, .selects RX0 yX0_isCold yX0_isCold, .initialized RX0, .code yX0_isCold cX0_isCold 2 (some .boolean), .fieldLink RX0 36 "ChronoTrials" "frostChill" "I", .methodLink RX0 112 yX0_holdsOfChills, .static yX0_holdsOfChills, .code yX0_holdsOfChills cX0_holdsOfChills 3 (some .boolean), .methodLink RX0 106 yX0_holdsOfNumbers, .static yX0_holdsOfNumbers, .code yX0_holdsOfNumbers cX0_holdsOfNumbers 3 (some .boolean), .methodLink RX0 109 yX0_holdsOfRates, .static yX0_holdsOfRates, .code yX0_holdsOfRates cX0_holdsOfRates 3 (some .boolean), .methodLink RX0 118 yX0_betters, .static yX0_betters, .code yX0_betters cX0_betters 2 (some .boolean)] ++ wsX00)
def wsX0_slot : List Cond := .code yX0_slot cX0_slot 2 (some .int) :: ([])
def wsX0_trial_r1 : List Cond := [Cond.fieldLink RX0 16 "ChronoTrials" "trialsOf" "[I", Cond.fieldLink RX0 9 "ChronoTrials" "rates" "[I", Cond.fieldLink RX0 13 "ChronoTrials" "chills" "[I", Cond.fieldLink RX0 19 "ChronoTrials" "bests" "[I", Cond.fieldLink RX0 33 "ChronoTrials" "recordRate" "I", Cond.methodLink RX0 46 yX0_isClock, Cond.instanceMethod yX0_isClock, Cond.selects RX0 yX0_isClock yX0_isClock, Cond.initialized RX0, Cond.code yX0_isClock cX0_isClock 2 (some .boolean), Cond.fieldLink RX0 26 "ChronoTrials" "clocks" "I", Cond.methodLink RX0 39 yX0_isRate, Cond.static yX0_isRate, Cond.code yX0_isRate cX0_isRate 1 (some .boolean), Cond.methodLink RX0 80 yX0_isWithin, Cond.static yX0_isWithin, Cond.code yX0_isWithin cX0_isWithin 3 (some .boolean), Cond.methodLink RX0 43 yX0_isChill, Cond.static yX0_isChill, Cond.code yX0_isChill cX0_isChill 1 (some .boolean), Cond.methodLink RX0 49 yX0_marksOf, Cond.instanceMethod yX0_marksOf, Cond.selects RX0 yX0_marksOf yX0_marksOf, Cond.code yX0_marksOf cX0_marksOf 5 (some .int)]
def wsX0_trial_r2 : List Cond := [Cond.fieldLink RX0 30 "ChronoTrials" "prizeRate" "I", Cond.methodLink RX0 115 yX0_isCold, Cond.instanceMethod yX0_isCold, Cond.selects RX0 yX0_isCold yX0_isCold, Cond.code yX0_isCold cX0_isCold 2 (some .boolean), Cond.fieldLink RX0 36 "ChronoTrials" "frostChill" "I", Cond.methodLink RX0 112 yX0_holdsOfChills, Cond.static yX0_holdsOfChills, Cond.code yX0_holdsOfChills cX0_holdsOfChills 3 (some .boolean), Cond.methodLink RX0 106 yX0_holdsOfNumbers, Cond.static yX0_holdsOfNumbers, Cond.code yX0_holdsOfNumbers cX0_holdsOfNumbers 3 (some .boolean), Cond.methodLink RX0 109 yX0_holdsOfRates, Cond.static yX0_holdsOfRates, Cond.code yX0_holdsOfRates cX0_holdsOfRates 3 (some .boolean), Cond.methodLink RX0 118 yX0_betters, Cond.static yX0_betters, Cond.code yX0_betters cX0_betters 2 (some .boolean), Cond.methodLink RX0 53 yX0_slot, Cond.static yX0_slot, Cond.code yX0_slot cX0_slot 2 (some .int)]
def wsX0_trial : List Cond := .code yX0_trial cX0_trial 6 (some .int) :: ((wsX0_trial_r1 ++ wsX0_trial_r2) ++ wsX00)
def wsX0_leastRate : List Cond := .code yX0_leastRate cX0_leastRate 5 (some .int) :: ([.fieldLink RX0 16 "ChronoTrials" "trialsOf" "[I", .fieldLink RX0 9 "ChronoTrials" "rates" "[I", .methodLink RX0 53 yX0_slot, .static yX0_slot, .initialized RX0, .code yX0_slot cX0_slot 2 (some .int), .methodLink RX0 118 yX0_betters, .static yX0_betters, .code yX0_betters cX0_betters 2 (some .boolean), .methodLink RX0 109 yX0_holdsOfRates, .static yX0_holdsOfRates, .code yX0_holdsOfRates cX0_holdsOfRates 3 (some .boolean), .methodLink RX0 106 yX0_holdsOfNumbers, .static yX0_holdsOfNumbers, .code yX0_holdsOfNumbers cX0_holdsOfNumbers 3 (some .boolean)] ++ wsX00)
def wsX0_annul_r1 : List Cond := [Cond.fieldLink RX0 16 "ChronoTrials" "trialsOf" "[I", Cond.fieldLink RX0 19 "ChronoTrials" "bests" "[I", Cond.methodLink RX0 46 yX0_isClock, Cond.instanceMethod yX0_isClock, Cond.selects RX0 yX0_isClock yX0_isClock, Cond.initialized RX0, Cond.code yX0_isClock cX0_isClock 2 (some .boolean), Cond.fieldLink RX0 26 "ChronoTrials" "clocks" "I", Cond.methodLink RX0 57 yX0_leastRate, Cond.instanceMethod yX0_leastRate, Cond.selects RX0 yX0_leastRate yX0_leastRate, Cond.code yX0_leastRate cX0_leastRate 5 (some .int), Cond.fieldLink RX0 9 "ChronoTrials" "rates" "[I", Cond.methodLink RX0 53 yX0_slot, Cond.static yX0_slot, Cond.code yX0_slot cX0_slot 2 (some .int), Cond.methodLink RX0 118 yX0_betters, Cond.static yX0_betters, Cond.code yX0_betters cX0_betters 2 (some .boolean), Cond.methodLink RX0 109 yX0_holdsOfRates, Cond.static yX0_holdsOfRates, Cond.code yX0_holdsOfRates cX0_holdsOfRates 3 (some .boolean), Cond.methodLink RX0 106 yX0_holdsOfNumbers, Cond.static yX0_holdsOfNumbers]
def wsX0_annul_r2 : List Cond := [Cond.code yX0_holdsOfNumbers cX0_holdsOfNumbers 3 (some .boolean)]
def wsX0_annul : List Cond := .code yX0_annul cX0_annul 2 (some .int) :: ((wsX0_annul_r1 ++ wsX0_annul_r2) ++ wsX00)
def wsX0_goesAhead : List Cond := .code yX0_goesAhead cX0_goesAhead 3 (some .boolean) :: ([.fieldLink RX0 19 "ChronoTrials" "bests" "[I", .methodLink RX0 118 yX0_betters, .static yX0_betters, .initialized RX0, .code yX0_betters cX0_betters 2 (some .boolean), .methodLink RX0 109 yX0_holdsOfRates, .static yX0_holdsOfRates, .code yX0_holdsOfRates cX0_holdsOfRates 3 (some .boolean), .methodLink RX0 106 yX0_holdsOfNumbers, .static yX0_holdsOfNumbers, .code yX0_holdsOfNumbers cX0_holdsOfNumbers 3 (some .boolean)] ++ wsX00)
def wsX0_clocksAhead : List Cond := .code yX0_clocksAhead cX0_clocksAhead 4 (some .int) :: ([.fieldLink RX0 26 "ChronoTrials" "clocks" "I", .methodLink RX0 122 yX0_goesAhead, .instanceMethod yX0_goesAhead, .selects RX0 yX0_goesAhead yX0_goesAhead, .initialized RX0, .code yX0_goesAhead cX0_goesAhead 3 (some .boolean), .fieldLink RX0 19 "ChronoTrials" "bests" "[I", .methodLink RX0 118 yX0_betters, .static yX0_betters, .code yX0_betters cX0_betters 2 (some .boolean), .methodLink RX0 109 yX0_holdsOfRates, .static yX0_holdsOfRates, .code yX0_holdsOfRates cX0_holdsOfRates 3 (some .boolean), .methodLink RX0 106 yX0_holdsOfNumbers, .static yX0_holdsOfNumbers, .code yX0_holdsOfNumbers cX0_holdsOfNumbers 3 (some .boolean)] ++ wsX00)
def wsX0_place : List Cond := .code yX0_place cX0_place 3 (some .int) :: ([.fieldLink RX0 26 "ChronoTrials" "clocks" "I", .methodLink RX0 61 yX0_clocksAhead, .instanceMethod yX0_clocksAhead, .selects RX0 yX0_clocksAhead yX0_clocksAhead, .initialized RX0, .code yX0_clocksAhead cX0_clocksAhead 4 (some .int), .methodLink RX0 122 yX0_goesAhead, .instanceMethod yX0_goesAhead, .selects RX0 yX0_goesAhead yX0_goesAhead, .code yX0_goesAhead cX0_goesAhead 3 (some .boolean), .fieldLink RX0 19 "ChronoTrials" "bests" "[I", .methodLink RX0 118 yX0_betters, .static yX0_betters, .code yX0_betters cX0_betters 2 (some .boolean), .methodLink RX0 109 yX0_holdsOfRates, .static yX0_holdsOfRates, .code yX0_holdsOfRates cX0_holdsOfRates 3 (some .boolean), .methodLink RX0 106 yX0_holdsOfNumbers, .static yX0_holdsOfNumbers, .code yX0_holdsOfNumbers cX0_holdsOfNumbers 3 (some .boolean)] ++ wsX00)
def wsX0_rank : List Cond := .code yX0_rank cX0_rank 4 (some .int) :: ([.fieldLink RX0 26 "ChronoTrials" "clocks" "I", .fieldLink RX0 19 "ChronoTrials" "bests" "[I", .methodLink RX0 118 yX0_betters, .static yX0_betters, .initialized RX0, .code yX0_betters cX0_betters 2 (some .boolean), .methodLink RX0 109 yX0_holdsOfRates, .static yX0_holdsOfRates, .code yX0_holdsOfRates cX0_holdsOfRates 3 (some .boolean), .methodLink RX0 106 yX0_holdsOfNumbers, .static yX0_holdsOfNumbers, .code yX0_holdsOfNumbers cX0_holdsOfNumbers 3 (some .boolean)] ++ wsX00)
def wsX0_oneIf : List Cond := .code yX0_oneIf cX0_oneIf 1 (some .int) :: ([])
def wsX0_coldTrials : List Cond := .code yX0_coldTrials cX0_coldTrials 4 (some .int) :: ([.fieldLink RX0 16 "ChronoTrials" "trialsOf" "[I", .fieldLink RX0 13 "ChronoTrials" "chills" "[I", .methodLink RX0 53 yX0_slot, .static yX0_slot, .initialized RX0, .code yX0_slot cX0_slot 2 (some .int), .methodLink RX0 115 yX0_isCold, .instanceMethod yX0_isCold, .selects RX0 yX0_isCold yX0_isCold, .code yX0_isCold cX0_isCold 2 (some .boolean), .fieldLink RX0 36 "ChronoTrials" "frostChill" "I", .methodLink RX0 112 yX0_holdsOfChills, .static yX0_holdsOfChills, .code yX0_holdsOfChills cX0_holdsOfChills 3 (some .boolean), .methodLink RX0 106 yX0_holdsOfNumbers, .static yX0_holdsOfNumbers, .code yX0_holdsOfNumbers cX0_holdsOfNumbers 3 (some .boolean)] ++ wsX00)
def wsX0_trialsAheadOfBest : List Cond := .code yX0_trialsAheadOfBest cX0_trialsAheadOfBest 3 (some .int) :: ([.fieldLink RX0 16 "ChronoTrials" "trialsOf" "[I", .fieldLink RX0 9 "ChronoTrials" "rates" "[I", .fieldLink RX0 19 "ChronoTrials" "bests" "[I", .methodLink RX0 53 yX0_slot, .static yX0_slot, .initialized RX0, .code yX0_slot cX0_slot 2 (some .int), .methodLink RX0 109 yX0_holdsOfRates, .static yX0_holdsOfRates, .code yX0_holdsOfRates cX0_holdsOfRates 3 (some .boolean), .methodLink RX0 106 yX0_holdsOfNumbers, .static yX0_holdsOfNumbers, .code yX0_holdsOfNumbers cX0_holdsOfNumbers 3 (some .boolean)] ++ wsX00)
def wsX0_latestChill : List Cond := .code yX0_latestChill cX0_latestChill 2 (some .int) :: ([.fieldLink RX0 16 "ChronoTrials" "trialsOf" "[I", .fieldLink RX0 13 "ChronoTrials" "chills" "[I", .methodLink RX0 53 yX0_slot, .static yX0_slot, .initialized RX0, .code yX0_slot cX0_slot 2 (some .int)] ++ wsX00)
def wsX0_tell_r1 : List Cond := [Cond.fieldLink RX0 16 "ChronoTrials" "trialsOf" "[I", Cond.fieldLink RX0 19 "ChronoTrials" "bests" "[I", Cond.fieldLink RX0 22 "ChronoTrials" "seals" "[Z", Cond.methodLink RX0 46 yX0_isClock, Cond.instanceMethod yX0_isClock, Cond.selects RX0 yX0_isClock yX0_isClock, Cond.initialized RX0, Cond.code yX0_isClock cX0_isClock 2 (some .boolean), Cond.fieldLink RX0 26 "ChronoTrials" "clocks" "I", Cond.methodLink RX0 64 yX0_rank, Cond.instanceMethod yX0_rank, Cond.selects RX0 yX0_rank yX0_rank, Cond.code yX0_rank cX0_rank 4 (some .int), Cond.methodLink RX0 118 yX0_betters, Cond.static yX0_betters, Cond.code yX0_betters cX0_betters 2 (some .boolean), Cond.methodLink RX0 109 yX0_holdsOfRates, Cond.static yX0_holdsOfRates, Cond.code yX0_holdsOfRates cX0_holdsOfRates 3 (some .boolean), Cond.methodLink RX0 106 yX0_holdsOfNumbers, Cond.static yX0_holdsOfNumbers, Cond.code yX0_holdsOfNumbers cX0_holdsOfNumbers 3 (some .boolean), Cond.methodLink RX0 67 yX0_oneIf, Cond.static yX0_oneIf]
def wsX0_tell_r2 : List Cond := [Cond.code yX0_oneIf cX0_oneIf 1 (some .int), Cond.methodLink RX0 71 yX0_coldTrials, Cond.instanceMethod yX0_coldTrials, Cond.selects RX0 yX0_coldTrials yX0_coldTrials, Cond.code yX0_coldTrials cX0_coldTrials 4 (some .int), Cond.fieldLink RX0 13 "ChronoTrials" "chills" "[I", Cond.methodLink RX0 53 yX0_slot, Cond.static yX0_slot, Cond.code yX0_slot cX0_slot 2 (some .int), Cond.methodLink RX0 115 yX0_isCold, Cond.instanceMethod yX0_isCold, Cond.selects RX0 yX0_isCold yX0_isCold, Cond.code yX0_isCold cX0_isCold 2 (some .boolean), Cond.fieldLink RX0 36 "ChronoTrials" "frostChill" "I", Cond.methodLink RX0 112 yX0_holdsOfChills, Cond.static yX0_holdsOfChills, Cond.code yX0_holdsOfChills cX0_holdsOfChills 3 (some .boolean), Cond.methodLink RX0 74 yX0_trialsAheadOfBest, Cond.instanceMethod yX0_trialsAheadOfBest, Cond.selects RX0 yX0_trialsAheadOfBest yX0_trialsAheadOfBest, Cond.code yX0_trialsAheadOfBest cX0_trialsAheadOfBest 3 (some .int), Cond.fieldLink RX0 9 "ChronoTrials" "rates" "[I", Cond.methodLink RX0 77 yX0_latestChill, Cond.instanceMethod yX0_latestChill]
def wsX0_tell_r3 : List Cond := [Cond.selects RX0 yX0_latestChill yX0_latestChill, Cond.code yX0_latestChill cX0_latestChill 2 (some .int)]
def wsX0_tell : List Cond := .code yX0_tell cX0_tell 3 (some .int) :: ((wsX0_tell_r1 ++ (wsX0_tell_r2 ++ wsX0_tell_r3)) ++ wsX00)
def wsX0_holdsOfClocks : List Cond := .code yX0_holdsOfClocks cX0_holdsOfClocks 5 (some .boolean) :: ([.fieldLink RX0 19 "ChronoTrials" "bests" "[I", .methodLink RX0 109 yX0_holdsOfRates, .static yX0_holdsOfRates, .initialized RX0, .code yX0_holdsOfRates cX0_holdsOfRates 3 (some .boolean), .methodLink RX0 106 yX0_holdsOfNumbers, .static yX0_holdsOfNumbers, .code yX0_holdsOfNumbers cX0_holdsOfNumbers 3 (some .boolean), .methodLink RX0 77 yX0_latestChill, .instanceMethod yX0_latestChill, .selects RX0 yX0_latestChill yX0_latestChill, .code yX0_latestChill cX0_latestChill 2 (some .int), .fieldLink RX0 16 "ChronoTrials" "trialsOf" "[I", .fieldLink RX0 13 "ChronoTrials" "chills" "[I", .methodLink RX0 53 yX0_slot, .static yX0_slot, .code yX0_slot cX0_slot 2 (some .int), .methodLink RX0 112 yX0_holdsOfChills, .static yX0_holdsOfChills, .code yX0_holdsOfChills cX0_holdsOfChills 3 (some .boolean)] ++ wsX00)
def wsX0_clocksInARow_r1 : List Cond := [Cond.fieldLink RX0 26 "ChronoTrials" "clocks" "I", Cond.methodLink RX0 84 yX0_holdsOfClocks, Cond.instanceMethod yX0_holdsOfClocks, Cond.selects RX0 yX0_holdsOfClocks yX0_holdsOfClocks, Cond.initialized RX0, Cond.code yX0_holdsOfClocks cX0_holdsOfClocks 5 (some .boolean), Cond.fieldLink RX0 19 "ChronoTrials" "bests" "[I", Cond.methodLink RX0 109 yX0_holdsOfRates, Cond.static yX0_holdsOfRates, Cond.code yX0_holdsOfRates cX0_holdsOfRates 3 (some .boolean), Cond.methodLink RX0 106 yX0_holdsOfNumbers, Cond.static yX0_holdsOfNumbers, Cond.code yX0_holdsOfNumbers cX0_holdsOfNumbers 3 (some .boolean), Cond.methodLink RX0 77 yX0_latestChill, Cond.instanceMethod yX0_latestChill, Cond.selects RX0 yX0_latestChill yX0_latestChill, Cond.code yX0_latestChill cX0_latestChill 2 (some .int), Cond.fieldLink RX0 16 "ChronoTrials" "trialsOf" "[I", Cond.fieldLink RX0 13 "ChronoTrials" "chills" "[I", Cond.methodLink RX0 53 yX0_slot, Cond.static yX0_slot, Cond.code yX0_slot cX0_slot 2 (some .int), Cond.methodLink RX0 112 yX0_holdsOfChills, Cond.static yX0_holdsOfChills]
def wsX0_clocksInARow_r2 : List Cond := [Cond.code yX0_holdsOfChills cX0_holdsOfChills 3 (some .boolean)]
def wsX0_clocksInARow : List Cond := .code yX0_clocksInARow cX0_clocksInARow 6 (some .int) :: ((wsX0_clocksInARow_r1 ++ wsX0_clocksInARow_r2) ++ wsX00)
def wsX0_sealsOn : List Cond := .code yX0_sealsOn cX0_sealsOn 3 (some .int) :: ([.fieldLink RX0 26 "ChronoTrials" "clocks" "I", .fieldLink RX0 22 "ChronoTrials" "seals" "[Z", .methodLink RX0 67 yX0_oneIf, .static yX0_oneIf, .initialized RX0, .code yX0_oneIf cX0_oneIf 1 (some .int)] ++ wsX00)
def wsX0_bothWays : List Cond := .code yX0_bothWays cX0_bothWays 2 (some .int) :: ([])
def wsX0_ask_r1 : List Cond := [Cond.fieldLink RX0 22 "ChronoTrials" "seals" "[Z", Cond.methodLink RX0 80 yX0_isWithin, Cond.static yX0_isWithin, Cond.initialized RX0, Cond.code yX0_isWithin cX0_isWithin 3 (some .boolean), Cond.methodLink RX0 46 yX0_isClock, Cond.instanceMethod yX0_isClock, Cond.selects RX0 yX0_isClock yX0_isClock, Cond.code yX0_isClock cX0_isClock 2 (some .boolean), Cond.fieldLink RX0 26 "ChronoTrials" "clocks" "I", Cond.methodLink RX0 84 yX0_holdsOfClocks, Cond.instanceMethod yX0_holdsOfClocks, Cond.selects RX0 yX0_holdsOfClocks yX0_holdsOfClocks, Cond.code yX0_holdsOfClocks cX0_holdsOfClocks 5 (some .boolean), Cond.fieldLink RX0 19 "ChronoTrials" "bests" "[I", Cond.methodLink RX0 109 yX0_holdsOfRates, Cond.static yX0_holdsOfRates, Cond.code yX0_holdsOfRates cX0_holdsOfRates 3 (some .boolean), Cond.methodLink RX0 106 yX0_holdsOfNumbers, Cond.static yX0_holdsOfNumbers, Cond.code yX0_holdsOfNumbers cX0_holdsOfNumbers 3 (some .boolean), Cond.methodLink RX0 77 yX0_latestChill, Cond.instanceMethod yX0_latestChill, Cond.selects RX0 yX0_latestChill yX0_latestChill]
def wsX0_ask_r2 : List Cond := [Cond.code yX0_latestChill cX0_latestChill 2 (some .int), Cond.fieldLink RX0 16 "ChronoTrials" "trialsOf" "[I", Cond.fieldLink RX0 13 "ChronoTrials" "chills" "[I", Cond.methodLink RX0 53 yX0_slot, Cond.static yX0_slot, Cond.code yX0_slot cX0_slot 2 (some .int), Cond.methodLink RX0 112 yX0_holdsOfChills, Cond.static yX0_holdsOfChills, Cond.code yX0_holdsOfChills cX0_holdsOfChills 3 (some .boolean), Cond.methodLink RX0 67 yX0_oneIf, Cond.static yX0_oneIf, Cond.code yX0_oneIf cX0_oneIf 1 (some .int), Cond.methodLink RX0 88 yX0_clocksInARow, Cond.instanceMethod yX0_clocksInARow, Cond.selects RX0 yX0_clocksInARow yX0_clocksInARow, Cond.code yX0_clocksInARow cX0_clocksInARow 6 (some .int), Cond.methodLink RX0 92 yX0_sealsOn, Cond.instanceMethod yX0_sealsOn, Cond.selects RX0 yX0_sealsOn yX0_sealsOn, Cond.code yX0_sealsOn cX0_sealsOn 3 (some .int), Cond.methodLink RX0 96 yX0_bothWays, Cond.static yX0_bothWays, Cond.code yX0_bothWays cX0_bothWays 2 (some .int)]
def wsX0_ask : List Cond := .code yX0_ask cX0_ask 7 (some .int) :: ((wsX0_ask_r1 ++ wsX0_ask_r2) ++ wsX00)
def wsX0_trialsOfAll : List Cond := .code yX0_trialsOfAll cX0_trialsOfAll 3 (some .int) :: ([.fieldLink RX0 26 "ChronoTrials" "clocks" "I", .fieldLink RX0 16 "ChronoTrials" "trialsOf" "[I"] ++ wsX00)
def wsX0_firstOfTheBest : List Cond := .code yX0_firstOfTheBest cX0_firstOfTheBest 4 (some .int) :: ([.fieldLink RX0 26 "ChronoTrials" "clocks" "I", .fieldLink RX0 19 "ChronoTrials" "bests" "[I", .methodLink RX0 118 yX0_betters, .static yX0_betters, .initialized RX0, .code yX0_betters cX0_betters 2 (some .boolean), .methodLink RX0 109 yX0_holdsOfRates, .static yX0_holdsOfRates, .code yX0_holdsOfRates cX0_holdsOfRates 3 (some .boolean), .methodLink RX0 106 yX0_holdsOfNumbers, .static yX0_holdsOfNumbers, .code yX0_holdsOfNumbers cX0_holdsOfNumbers 3 (some .boolean)] ++ wsX00)
def wsX0_count_r1 : List Cond := [Cond.fieldLink RX0 26 "ChronoTrials" "clocks" "I", Cond.fieldLink RX0 33 "ChronoTrials" "recordRate" "I", Cond.fieldLink RX0 30 "ChronoTrials" "prizeRate" "I", Cond.fieldLink RX0 36 "ChronoTrials" "frostChill" "I", Cond.methodLink RX0 100 yX0_trialsOfAll, Cond.instanceMethod yX0_trialsOfAll, Cond.selects RX0 yX0_trialsOfAll yX0_trialsOfAll, Cond.initialized RX0, Cond.code yX0_trialsOfAll cX0_trialsOfAll 3 (some .int), Cond.fieldLink RX0 16 "ChronoTrials" "trialsOf" "[I", Cond.methodLink RX0 92 yX0_sealsOn, Cond.instanceMethod yX0_sealsOn, Cond.selects RX0 yX0_sealsOn yX0_sealsOn, Cond.code yX0_sealsOn cX0_sealsOn 3 (some .int), Cond.fieldLink RX0 22 "ChronoTrials" "seals" "[Z", Cond.methodLink RX0 67 yX0_oneIf, Cond.static yX0_oneIf, Cond.code yX0_oneIf cX0_oneIf 1 (some .int), Cond.methodLink RX0 103 yX0_firstOfTheBest, Cond.instanceMethod yX0_firstOfTheBest, Cond.selects RX0 yX0_firstOfTheBest yX0_firstOfTheBest, Cond.code yX0_firstOfTheBest cX0_firstOfTheBest 4 (some .int), Cond.fieldLink RX0 19 "ChronoTrials" "bests" "[I", Cond.methodLink RX0 118 yX0_betters]
def wsX0_count_r2 : List Cond := [Cond.static yX0_betters, Cond.code yX0_betters cX0_betters 2 (some .boolean), Cond.methodLink RX0 109 yX0_holdsOfRates, Cond.static yX0_holdsOfRates, Cond.code yX0_holdsOfRates cX0_holdsOfRates 3 (some .boolean), Cond.methodLink RX0 106 yX0_holdsOfNumbers, Cond.static yX0_holdsOfNumbers, Cond.code yX0_holdsOfNumbers cX0_holdsOfNumbers 3 (some .boolean)]
def wsX0_count : List Cond := .code yX0_count cX0_count 2 (some .int) :: ((wsX0_count_r1 ++ wsX0_count_r2) ++ wsX00)
def wsX1_init : List Cond := .code yX1_init cX1_init 1 none :: ([.methodLink RX1 1 objectInit, .instanceMethod objectInit, .code objectInit ⟨#[0xb1]⟩ 1 none, .fieldLink RX1 9 "ChronoTrialsModel" "prize" "I", .fieldLink RX1 13 "ChronoTrialsModel" "frost" "I", .fieldLink RX1 16 "ChronoTrialsModel" "record" "I", .arrayClass .int, .fieldLink RX1 19 "ChronoTrialsModel" "many" "[I", .fieldLink RX1 23 "ChronoTrialsModel" "best" "[I", .fieldLink RX1 26 "ChronoTrialsModel" "seal" "[I", .fieldLink RX1 29 "ChronoTrialsModel" "rates" "[I", .fieldLink RX1 32 "ChronoTrialsModel" "chills" "[I"] ++ wsX10)
def wsX1_isClock : List Cond := .code yX1_isClock cX1_isClock 2 (some .boolean) :: ([.fieldLink RX1 35 "ChronoTrialsModel" "clocks" "I"] ++ wsX10)
def wsX1_isRate : List Cond := .code yX1_isRate cX1_isRate 1 (some .boolean) :: ([])
def wsX1_isChill : List Cond := .code yX1_isChill cX1_isChill 1 (some .boolean) :: ([])
def wsX1_holds : List Cond := .code yX1_holds cX1_holds 4 (some .boolean) :: ([])
def wsX1_admit : List Cond := .code yX1_admit cX1_admit 1 (some .int) :: ([.fieldLink RX1 35 "ChronoTrialsModel" "clocks" "I", .fieldLink RX1 19 "ChronoTrialsModel" "many" "[I", .fieldLink RX1 23 "ChronoTrialsModel" "best" "[I", .fieldLink RX1 26 "ChronoTrialsModel" "seal" "[I"] ++ wsX10)
def wsX1_prize : List Cond := .code yX1_prize cX1_prize 2 (some .boolean) :: ([.fieldLink RX1 9 "ChronoTrialsModel" "prize" "I", .methodLink RX1 38 yX1_isRate, .static yX1_isRate, .initialized RX1, .code yX1_isRate cX1_isRate 1 (some .boolean)] ++ wsX10)
def wsX1_frost : List Cond := .code yX1_frost cX1_frost 2 (some .boolean) :: ([.fieldLink RX1 13 "ChronoTrialsModel" "frost" "I", .methodLink RX1 42 yX1_isChill, .static yX1_isChill, .initialized RX1, .code yX1_isChill cX1_isChill 1 (some .boolean)] ++ wsX10)
def wsX1_isCold : List Cond := .code yX1_isCold cX1_isCold 2 (some .boolean) :: ([.fieldLink RX1 13 "ChronoTrialsModel" "frost" "I", .methodLink RX1 45 yX1_holds, .static yX1_holds, .initialized RX1, .code yX1_holds cX1_holds 4 (some .boolean)] ++ wsX10)
def wsX1_beats : List Cond := .code yX1_beats cX1_beats 2 (some .boolean) :: ([.methodLink RX1 45 yX1_holds, .static yX1_holds, .initialized RX1, .code yX1_holds cX1_holds 4 (some .boolean)])
def wsX1_trial_r1 : List Cond := [Cond.fieldLink RX1 19 "ChronoTrialsModel" "many" "[I", Cond.fieldLink RX1 29 "ChronoTrialsModel" "rates" "[I", Cond.fieldLink RX1 32 "ChronoTrialsModel" "chills" "[I", Cond.fieldLink RX1 9 "ChronoTrialsModel" "prize" "I", Cond.fieldLink RX1 23 "ChronoTrialsModel" "best" "[I", Cond.fieldLink RX1 16 "ChronoTrialsModel" "record" "I", Cond.methodLink RX1 49 yX1_isClock, Cond.instanceMethod yX1_isClock, Cond.selects RX1 yX1_isClock yX1_isClock, Cond.initialized RX1, Cond.code yX1_isClock cX1_isClock 2 (some .boolean), Cond.fieldLink RX1 35 "ChronoTrialsModel" "clocks" "I", Cond.methodLink RX1 38 yX1_isRate, Cond.static yX1_isRate, Cond.code yX1_isRate cX1_isRate 1 (some .boolean), Cond.methodLink RX1 42 yX1_isChill, Cond.static yX1_isChill, Cond.code yX1_isChill cX1_isChill 1 (some .boolean), Cond.methodLink RX1 52 yX1_isCold, Cond.instanceMethod yX1_isCold, Cond.selects RX1 yX1_isCold yX1_isCold, Cond.code yX1_isCold cX1_isCold 2 (some .boolean), Cond.fieldLink RX1 13 "ChronoTrialsModel" "frost" "I", Cond.methodLink RX1 45 yX1_holds]
def wsX1_trial_r2 : List Cond := [Cond.static yX1_holds, Cond.code yX1_holds cX1_holds 4 (some .boolean), Cond.methodLink RX1 55 yX1_beats, Cond.static yX1_beats, Cond.code yX1_beats cX1_beats 2 (some .boolean)]
def wsX1_trial : List Cond := .code yX1_trial cX1_trial 9 (some .int) :: ((wsX1_trial_r1 ++ wsX1_trial_r2) ++ wsX10)
def wsX1_annul : List Cond := .code yX1_annul cX1_annul 4 (some .int) :: ([.fieldLink RX1 19 "ChronoTrialsModel" "many" "[I", .fieldLink RX1 23 "ChronoTrialsModel" "best" "[I", .fieldLink RX1 29 "ChronoTrialsModel" "rates" "[I", .methodLink RX1 49 yX1_isClock, .instanceMethod yX1_isClock, .selects RX1 yX1_isClock yX1_isClock, .initialized RX1, .code yX1_isClock cX1_isClock 2 (some .boolean), .fieldLink RX1 35 "ChronoTrialsModel" "clocks" "I", .methodLink RX1 55 yX1_beats, .static yX1_beats, .code yX1_beats cX1_beats 2 (some .boolean), .methodLink RX1 45 yX1_holds, .static yX1_holds, .code yX1_holds cX1_holds 4 (some .boolean)] ++ wsX10)
def wsX1_isAhead : List Cond := .code yX1_isAhead cX1_isAhead 3 (some .boolean) :: ([.fieldLink RX1 23 "ChronoTrialsModel" "best" "[I", .methodLink RX1 55 yX1_beats, .static yX1_beats, .initialized RX1, .code yX1_beats cX1_beats 2 (some .boolean), .methodLink RX1 45 yX1_holds, .static yX1_holds, .code yX1_holds cX1_holds 4 (some .boolean)] ++ wsX10)
def wsX1_ahead : List Cond := .code yX1_ahead cX1_ahead 4 (some .int) :: ([.fieldLink RX1 35 "ChronoTrialsModel" "clocks" "I", .methodLink RX1 59 yX1_isAhead, .instanceMethod yX1_isAhead, .selects RX1 yX1_isAhead yX1_isAhead, .initialized RX1, .code yX1_isAhead cX1_isAhead 3 (some .boolean), .fieldLink RX1 23 "ChronoTrialsModel" "best" "[I", .methodLink RX1 55 yX1_beats, .static yX1_beats, .code yX1_beats cX1_beats 2 (some .boolean), .methodLink RX1 45 yX1_holds, .static yX1_holds, .code yX1_holds cX1_holds 4 (some .boolean)] ++ wsX10)
def wsX1_place : List Cond := .code yX1_place cX1_place 4 (some .int) :: ([.fieldLink RX1 35 "ChronoTrialsModel" "clocks" "I", .methodLink RX1 62 yX1_ahead, .instanceMethod yX1_ahead, .selects RX1 yX1_ahead yX1_ahead, .initialized RX1, .code yX1_ahead cX1_ahead 4 (some .int), .methodLink RX1 59 yX1_isAhead, .instanceMethod yX1_isAhead, .selects RX1 yX1_isAhead yX1_isAhead, .code yX1_isAhead cX1_isAhead 3 (some .boolean), .fieldLink RX1 23 "ChronoTrialsModel" "best" "[I", .methodLink RX1 55 yX1_beats, .static yX1_beats, .code yX1_beats cX1_beats 2 (some .boolean), .methodLink RX1 45 yX1_holds, .static yX1_holds, .code yX1_holds cX1_holds 4 (some .boolean)] ++ wsX10)
def wsX1_chill : List Cond := .code yX1_chill cX1_chill 2 (some .int) :: ([.fieldLink RX1 19 "ChronoTrialsModel" "many" "[I", .fieldLink RX1 32 "ChronoTrialsModel" "chills" "[I"] ++ wsX10)
def wsX1_rank : List Cond := .code yX1_rank cX1_rank 4 (some .int) :: ([.fieldLink RX1 35 "ChronoTrialsModel" "clocks" "I", .fieldLink RX1 23 "ChronoTrialsModel" "best" "[I", .methodLink RX1 45 yX1_holds, .static yX1_holds, .initialized RX1, .code yX1_holds cX1_holds 4 (some .boolean)] ++ wsX10)
def wsX1_cold : List Cond := .code yX1_cold cX1_cold 4 (some .int) :: ([.fieldLink RX1 19 "ChronoTrialsModel" "many" "[I", .fieldLink RX1 32 "ChronoTrialsModel" "chills" "[I", .methodLink RX1 52 yX1_isCold, .instanceMethod yX1_isCold, .selects RX1 yX1_isCold yX1_isCold, .initialized RX1, .code yX1_isCold cX1_isCold 2 (some .boolean), .fieldLink RX1 13 "ChronoTrialsModel" "frost" "I", .methodLink RX1 45 yX1_holds, .static yX1_holds, .code yX1_holds cX1_holds 4 (some .boolean)] ++ wsX10)
def wsX1_more : List Cond := .code yX1_more cX1_more 3 (some .int) :: ([.fieldLink RX1 19 "ChronoTrialsModel" "many" "[I", .fieldLink RX1 29 "ChronoTrialsModel" "rates" "[I", .fieldLink RX1 23 "ChronoTrialsModel" "best" "[I", .methodLink RX1 45 yX1_holds, .static yX1_holds, .initialized RX1, .code yX1_holds cX1_holds 4 (some .boolean)] ++ wsX10)
def wsX1_tell_r1 : List Cond := [Cond.fieldLink RX1 19 "ChronoTrialsModel" "many" "[I", Cond.fieldLink RX1 23 "ChronoTrialsModel" "best" "[I", Cond.fieldLink RX1 26 "ChronoTrialsModel" "seal" "[I", Cond.methodLink RX1 49 yX1_isClock, Cond.instanceMethod yX1_isClock, Cond.selects RX1 yX1_isClock yX1_isClock, Cond.initialized RX1, Cond.code yX1_isClock cX1_isClock 2 (some .boolean), Cond.fieldLink RX1 35 "ChronoTrialsModel" "clocks" "I", Cond.methodLink RX1 66 yX1_rank, Cond.instanceMethod yX1_rank, Cond.selects RX1 yX1_rank yX1_rank, Cond.code yX1_rank cX1_rank 4 (some .int), Cond.methodLink RX1 45 yX1_holds, Cond.static yX1_holds, Cond.code yX1_holds cX1_holds 4 (some .boolean), Cond.methodLink RX1 69 yX1_cold, Cond.instanceMethod yX1_cold, Cond.selects RX1 yX1_cold yX1_cold, Cond.code yX1_cold cX1_cold 4 (some .int), Cond.fieldLink RX1 32 "ChronoTrialsModel" "chills" "[I", Cond.methodLink RX1 52 yX1_isCold, Cond.instanceMethod yX1_isCold, Cond.selects RX1 yX1_isCold yX1_isCold]
def wsX1_tell_r2 : List Cond := [Cond.code yX1_isCold cX1_isCold 2 (some .boolean), Cond.fieldLink RX1 13 "ChronoTrialsModel" "frost" "I", Cond.methodLink RX1 72 yX1_more, Cond.instanceMethod yX1_more, Cond.selects RX1 yX1_more yX1_more, Cond.code yX1_more cX1_more 3 (some .int), Cond.fieldLink RX1 29 "ChronoTrialsModel" "rates" "[I", Cond.methodLink RX1 75 yX1_chill, Cond.instanceMethod yX1_chill, Cond.selects RX1 yX1_chill yX1_chill, Cond.code yX1_chill cX1_chill 2 (some .int)]
def wsX1_tell : List Cond := .code yX1_tell cX1_tell 3 (some .int) :: ((wsX1_tell_r1 ++ wsX1_tell_r2) ++ wsX10)
def wsX1_asked : List Cond := .code yX1_asked cX1_asked 5 (some .boolean) :: ([.fieldLink RX1 23 "ChronoTrialsModel" "best" "[I", .methodLink RX1 45 yX1_holds, .static yX1_holds, .initialized RX1, .code yX1_holds cX1_holds 4 (some .boolean), .methodLink RX1 75 yX1_chill, .instanceMethod yX1_chill, .selects RX1 yX1_chill yX1_chill, .code yX1_chill cX1_chill 2 (some .int), .fieldLink RX1 19 "ChronoTrialsModel" "many" "[I", .fieldLink RX1 32 "ChronoTrialsModel" "chills" "[I"] ++ wsX10)
def wsX1_seals : List Cond := .code yX1_seals cX1_seals 3 (some .int) :: ([.fieldLink RX1 35 "ChronoTrialsModel" "clocks" "I", .fieldLink RX1 26 "ChronoTrialsModel" "seal" "[I"] ++ wsX10)
def wsX1_ask_r1 : List Cond := [Cond.fieldLink RX1 35 "ChronoTrialsModel" "clocks" "I", Cond.fieldLink RX1 26 "ChronoTrialsModel" "seal" "[I", Cond.methodLink RX1 49 yX1_isClock, Cond.instanceMethod yX1_isClock, Cond.selects RX1 yX1_isClock yX1_isClock, Cond.initialized RX1, Cond.code yX1_isClock cX1_isClock 2 (some .boolean), Cond.methodLink RX1 78 yX1_asked, Cond.instanceMethod yX1_asked, Cond.selects RX1 yX1_asked yX1_asked, Cond.code yX1_asked cX1_asked 5 (some .boolean), Cond.fieldLink RX1 23 "ChronoTrialsModel" "best" "[I", Cond.methodLink RX1 45 yX1_holds, Cond.static yX1_holds, Cond.code yX1_holds cX1_holds 4 (some .boolean), Cond.methodLink RX1 75 yX1_chill, Cond.instanceMethod yX1_chill, Cond.selects RX1 yX1_chill yX1_chill, Cond.code yX1_chill cX1_chill 2 (some .int), Cond.fieldLink RX1 19 "ChronoTrialsModel" "many" "[I", Cond.fieldLink RX1 32 "ChronoTrialsModel" "chills" "[I", Cond.methodLink RX1 81 yX1_seals, Cond.instanceMethod yX1_seals, Cond.selects RX1 yX1_seals yX1_seals]
def wsX1_ask_r2 : List Cond := [Cond.code yX1_seals cX1_seals 3 (some .int)]
def wsX1_ask : List Cond := .code yX1_ask cX1_ask 8 (some .int) :: ((wsX1_ask_r1 ++ wsX1_ask_r2) ++ wsX10)
def wsX1_trials : List Cond := .code yX1_trials cX1_trials 3 (some .int) :: ([.fieldLink RX1 35 "ChronoTrialsModel" "clocks" "I", .fieldLink RX1 19 "ChronoTrialsModel" "many" "[I"] ++ wsX10)
def wsX1_first : List Cond := .code yX1_first cX1_first 2 (some .int) :: ([.fieldLink RX1 23 "ChronoTrialsModel" "best" "[I", .methodLink RX1 85 yX1_place, .instanceMethod yX1_place, .selects RX1 yX1_place yX1_place, .initialized RX1, .code yX1_place cX1_place 4 (some .int), .fieldLink RX1 35 "ChronoTrialsModel" "clocks" "I", .methodLink RX1 62 yX1_ahead, .instanceMethod yX1_ahead, .selects RX1 yX1_ahead yX1_ahead, .code yX1_ahead cX1_ahead 4 (some .int), .methodLink RX1 59 yX1_isAhead, .instanceMethod yX1_isAhead, .selects RX1 yX1_isAhead yX1_isAhead, .code yX1_isAhead cX1_isAhead 3 (some .boolean), .methodLink RX1 55 yX1_beats, .static yX1_beats, .code yX1_beats cX1_beats 2 (some .boolean), .methodLink RX1 45 yX1_holds, .static yX1_holds, .code yX1_holds cX1_holds 4 (some .boolean)] ++ wsX10)
def wsX1_count_r1 : List Cond := [Cond.fieldLink RX1 35 "ChronoTrialsModel" "clocks" "I", Cond.fieldLink RX1 16 "ChronoTrialsModel" "record" "I", Cond.fieldLink RX1 9 "ChronoTrialsModel" "prize" "I", Cond.fieldLink RX1 13 "ChronoTrialsModel" "frost" "I", Cond.methodLink RX1 88 yX1_trials, Cond.instanceMethod yX1_trials, Cond.selects RX1 yX1_trials yX1_trials, Cond.initialized RX1, Cond.code yX1_trials cX1_trials 3 (some .int), Cond.fieldLink RX1 19 "ChronoTrialsModel" "many" "[I", Cond.methodLink RX1 81 yX1_seals, Cond.instanceMethod yX1_seals, Cond.selects RX1 yX1_seals yX1_seals, Cond.code yX1_seals cX1_seals 3 (some .int), Cond.fieldLink RX1 26 "ChronoTrialsModel" "seal" "[I", Cond.methodLink RX1 91 yX1_first, Cond.instanceMethod yX1_first, Cond.selects RX1 yX1_first yX1_first, Cond.code yX1_first cX1_first 2 (some .int), Cond.fieldLink RX1 23 "ChronoTrialsModel" "best" "[I", Cond.methodLink RX1 85 yX1_place, Cond.instanceMethod yX1_place, Cond.selects RX1 yX1_place yX1_place, Cond.code yX1_place cX1_place 4 (some .int)]
def wsX1_count_r2 : List Cond := [Cond.methodLink RX1 62 yX1_ahead, Cond.instanceMethod yX1_ahead, Cond.selects RX1 yX1_ahead yX1_ahead, Cond.code yX1_ahead cX1_ahead 4 (some .int), Cond.methodLink RX1 59 yX1_isAhead, Cond.instanceMethod yX1_isAhead, Cond.selects RX1 yX1_isAhead yX1_isAhead, Cond.code yX1_isAhead cX1_isAhead 3 (some .boolean), Cond.methodLink RX1 55 yX1_beats, Cond.static yX1_beats, Cond.code yX1_beats cX1_beats 2 (some .boolean), Cond.methodLink RX1 45 yX1_holds, Cond.static yX1_holds, Cond.code yX1_holds cX1_holds 4 (some .boolean)]
def wsX1_count : List Cond := .code yX1_count cX1_count 2 (some .int) :: ((wsX1_count_r1 ++ wsX1_count_r2) ++ wsX10)
def wsL_law_r1 : List Cond := [Cond.classLink RL 7 RX0, Cond.instantiable RX0 9, Cond.initialized RX0, Cond.classLink RL 10 RX1, Cond.instantiable RX1 9, Cond.initialized RX1, Cond.methodLink RL 9 yX0_init, Cond.instanceMethod yX0_init, Cond.code yX0_init cX0_init 1 none, Cond.methodLink RX0 1 objectInit, Cond.instanceMethod objectInit, Cond.code objectInit ⟨#[0xb1]⟩ 1 none, Cond.arrayClass .int, Cond.fieldLink RX0 9 "ChronoTrials" "rates" "[I", Cond.fieldLink RX0 13 "ChronoTrials" "chills" "[I", Cond.fieldLink RX0 16 "ChronoTrials" "trialsOf" "[I", Cond.fieldLink RX0 19 "ChronoTrials" "bests" "[I", Cond.arrayClass .boolean, Cond.fieldLink RX0 22 "ChronoTrials" "seals" "[Z", Cond.fieldLink RX0 26 "ChronoTrials" "clocks" "I", Cond.fieldLink RX0 30 "ChronoTrials" "prizeRate" "I", Cond.fieldLink RX0 33 "ChronoTrials" "recordRate" "I", Cond.fieldLink RX0 36 "ChronoTrials" "frostChill" "I", Cond.methodLink RL 12 yX1_init]
def wsL_law_r2 : List Cond := [Cond.instanceMethod yX1_init, Cond.code yX1_init cX1_init 1 none, Cond.methodLink RX1 1 objectInit, Cond.fieldLink RX1 9 "ChronoTrialsModel" "prize" "I", Cond.fieldLink RX1 13 "ChronoTrialsModel" "frost" "I", Cond.fieldLink RX1 16 "ChronoTrialsModel" "record" "I", Cond.fieldLink RX1 19 "ChronoTrialsModel" "many" "[I", Cond.fieldLink RX1 23 "ChronoTrialsModel" "best" "[I", Cond.fieldLink RX1 26 "ChronoTrialsModel" "seal" "[I", Cond.fieldLink RX1 29 "ChronoTrialsModel" "rates" "[I", Cond.fieldLink RX1 32 "ChronoTrialsModel" "chills" "[I", Cond.methodLink RL 13 yX0_admit, Cond.instanceMethod yX0_admit, Cond.selects RX0 yX0_admit yX0_admit, Cond.code yX0_admit cX0_admit 2 (some .int), Cond.methodLink RL 17 yX1_admit, Cond.instanceMethod yX1_admit, Cond.selects RX1 yX1_admit yX1_admit, Cond.code yX1_admit cX1_admit 1 (some .int), Cond.fieldLink RX1 35 "ChronoTrialsModel" "clocks" "I", Cond.methodLink RL 18 yX0_prize, Cond.instanceMethod yX0_prize, Cond.selects RX0 yX0_prize yX0_prize, Cond.code yX0_prize cX0_prize 2 (some .boolean)]
def wsL_law_r3 : List Cond := [Cond.methodLink RX0 39 yX0_isRate, Cond.static yX0_isRate, Cond.code yX0_isRate cX0_isRate 1 (some .boolean), Cond.methodLink RX0 80 yX0_isWithin, Cond.static yX0_isWithin, Cond.code yX0_isWithin cX0_isWithin 3 (some .boolean), Cond.methodLink RL 22 yX1_prize, Cond.instanceMethod yX1_prize, Cond.selects RX1 yX1_prize yX1_prize, Cond.code yX1_prize cX1_prize 2 (some .boolean), Cond.methodLink RX1 38 yX1_isRate, Cond.static yX1_isRate, Cond.code yX1_isRate cX1_isRate 1 (some .boolean), Cond.methodLink RL 23 yX0_frost, Cond.instanceMethod yX0_frost, Cond.selects RX0 yX0_frost yX0_frost, Cond.code yX0_frost cX0_frost 2 (some .boolean), Cond.methodLink RX0 43 yX0_isChill, Cond.static yX0_isChill, Cond.code yX0_isChill cX0_isChill 1 (some .boolean), Cond.methodLink RL 26 yX1_frost, Cond.instanceMethod yX1_frost, Cond.selects RX1 yX1_frost yX1_frost, Cond.code yX1_frost cX1_frost 2 (some .boolean)]
def wsL_law_r4 : List Cond := [Cond.methodLink RX1 42 yX1_isChill, Cond.static yX1_isChill, Cond.code yX1_isChill cX1_isChill 1 (some .boolean), Cond.methodLink RL 27 yX0_trial, Cond.instanceMethod yX0_trial, Cond.selects RX0 yX0_trial yX0_trial, Cond.code yX0_trial cX0_trial 6 (some .int), Cond.methodLink RX0 46 yX0_isClock, Cond.instanceMethod yX0_isClock, Cond.selects RX0 yX0_isClock yX0_isClock, Cond.code yX0_isClock cX0_isClock 2 (some .boolean), Cond.methodLink RX0 49 yX0_marksOf, Cond.instanceMethod yX0_marksOf, Cond.selects RX0 yX0_marksOf yX0_marksOf, Cond.code yX0_marksOf cX0_marksOf 5 (some .int), Cond.methodLink RX0 115 yX0_isCold, Cond.instanceMethod yX0_isCold, Cond.selects RX0 yX0_isCold yX0_isCold, Cond.code yX0_isCold cX0_isCold 2 (some .boolean), Cond.methodLink RX0 112 yX0_holdsOfChills, Cond.static yX0_holdsOfChills, Cond.code yX0_holdsOfChills cX0_holdsOfChills 3 (some .boolean), Cond.methodLink RX0 106 yX0_holdsOfNumbers, Cond.static yX0_holdsOfNumbers]
def wsL_law_r5 : List Cond := [Cond.code yX0_holdsOfNumbers cX0_holdsOfNumbers 3 (some .boolean), Cond.methodLink RX0 109 yX0_holdsOfRates, Cond.static yX0_holdsOfRates, Cond.code yX0_holdsOfRates cX0_holdsOfRates 3 (some .boolean), Cond.methodLink RX0 118 yX0_betters, Cond.static yX0_betters, Cond.code yX0_betters cX0_betters 2 (some .boolean), Cond.methodLink RX0 53 yX0_slot, Cond.static yX0_slot, Cond.code yX0_slot cX0_slot 2 (some .int), Cond.methodLink RL 31 yX1_trial, Cond.instanceMethod yX1_trial, Cond.selects RX1 yX1_trial yX1_trial, Cond.code yX1_trial cX1_trial 9 (some .int), Cond.methodLink RX1 49 yX1_isClock, Cond.instanceMethod yX1_isClock, Cond.selects RX1 yX1_isClock yX1_isClock, Cond.code yX1_isClock cX1_isClock 2 (some .boolean), Cond.methodLink RX1 52 yX1_isCold, Cond.instanceMethod yX1_isCold, Cond.selects RX1 yX1_isCold yX1_isCold, Cond.code yX1_isCold cX1_isCold 2 (some .boolean), Cond.methodLink RX1 45 yX1_holds, Cond.static yX1_holds]
def wsL_law_r6 : List Cond := [Cond.code yX1_holds cX1_holds 4 (some .boolean), Cond.methodLink RX1 55 yX1_beats, Cond.static yX1_beats, Cond.code yX1_beats cX1_beats 2 (some .boolean), Cond.methodLink RL 32 yX0_annul, Cond.instanceMethod yX0_annul, Cond.selects RX0 yX0_annul yX0_annul, Cond.code yX0_annul cX0_annul 2 (some .int), Cond.methodLink RX0 57 yX0_leastRate, Cond.instanceMethod yX0_leastRate, Cond.selects RX0 yX0_leastRate yX0_leastRate, Cond.code yX0_leastRate cX0_leastRate 5 (some .int), Cond.methodLink RL 36 yX1_annul, Cond.instanceMethod yX1_annul, Cond.selects RX1 yX1_annul yX1_annul, Cond.code yX1_annul cX1_annul 4 (some .int), Cond.methodLink RL 37 yX0_place, Cond.instanceMethod yX0_place, Cond.selects RX0 yX0_place yX0_place, Cond.code yX0_place cX0_place 3 (some .int), Cond.methodLink RX0 61 yX0_clocksAhead, Cond.instanceMethod yX0_clocksAhead, Cond.selects RX0 yX0_clocksAhead yX0_clocksAhead, Cond.code yX0_clocksAhead cX0_clocksAhead 4 (some .int)]
def wsL_law_r7 : List Cond := [Cond.methodLink RX0 122 yX0_goesAhead, Cond.instanceMethod yX0_goesAhead, Cond.selects RX0 yX0_goesAhead yX0_goesAhead, Cond.code yX0_goesAhead cX0_goesAhead 3 (some .boolean), Cond.methodLink RL 40 yX1_place, Cond.instanceMethod yX1_place, Cond.selects RX1 yX1_place yX1_place, Cond.code yX1_place cX1_place 4 (some .int), Cond.methodLink RX1 62 yX1_ahead, Cond.instanceMethod yX1_ahead, Cond.selects RX1 yX1_ahead yX1_ahead, Cond.code yX1_ahead cX1_ahead 4 (some .int), Cond.methodLink RX1 59 yX1_isAhead, Cond.instanceMethod yX1_isAhead, Cond.selects RX1 yX1_isAhead yX1_isAhead, Cond.code yX1_isAhead cX1_isAhead 3 (some .boolean), Cond.methodLink RL 41 yX0_tell, Cond.instanceMethod yX0_tell, Cond.selects RX0 yX0_tell yX0_tell, Cond.code yX0_tell cX0_tell 3 (some .int), Cond.methodLink RX0 64 yX0_rank, Cond.instanceMethod yX0_rank, Cond.selects RX0 yX0_rank yX0_rank, Cond.code yX0_rank cX0_rank 4 (some .int)]
def wsL_law_r8 : List Cond := [Cond.methodLink RX0 67 yX0_oneIf, Cond.static yX0_oneIf, Cond.code yX0_oneIf cX0_oneIf 1 (some .int), Cond.methodLink RX0 71 yX0_coldTrials, Cond.instanceMethod yX0_coldTrials, Cond.selects RX0 yX0_coldTrials yX0_coldTrials, Cond.code yX0_coldTrials cX0_coldTrials 4 (some .int), Cond.methodLink RX0 74 yX0_trialsAheadOfBest, Cond.instanceMethod yX0_trialsAheadOfBest, Cond.selects RX0 yX0_trialsAheadOfBest yX0_trialsAheadOfBest, Cond.code yX0_trialsAheadOfBest cX0_trialsAheadOfBest 3 (some .int), Cond.methodLink RX0 77 yX0_latestChill, Cond.instanceMethod yX0_latestChill, Cond.selects RX0 yX0_latestChill yX0_latestChill, Cond.code yX0_latestChill cX0_latestChill 2 (some .int), Cond.methodLink RL 45 yX1_tell, Cond.instanceMethod yX1_tell, Cond.selects RX1 yX1_tell yX1_tell, Cond.code yX1_tell cX1_tell 3 (some .int), Cond.methodLink RX1 66 yX1_rank, Cond.instanceMethod yX1_rank, Cond.selects RX1 yX1_rank yX1_rank, Cond.code yX1_rank cX1_rank 4 (some .int), Cond.methodLink RX1 69 yX1_cold]
def wsL_law_r9 : List Cond := [Cond.instanceMethod yX1_cold, Cond.selects RX1 yX1_cold yX1_cold, Cond.code yX1_cold cX1_cold 4 (some .int), Cond.methodLink RX1 72 yX1_more, Cond.instanceMethod yX1_more, Cond.selects RX1 yX1_more yX1_more, Cond.code yX1_more cX1_more 3 (some .int), Cond.methodLink RX1 75 yX1_chill, Cond.instanceMethod yX1_chill, Cond.selects RX1 yX1_chill yX1_chill, Cond.code yX1_chill cX1_chill 2 (some .int), Cond.methodLink RL 46 yX0_ask, Cond.instanceMethod yX0_ask, Cond.selects RX0 yX0_ask yX0_ask, Cond.code yX0_ask cX0_ask 7 (some .int), Cond.methodLink RX0 84 yX0_holdsOfClocks, Cond.instanceMethod yX0_holdsOfClocks, Cond.selects RX0 yX0_holdsOfClocks yX0_holdsOfClocks, Cond.code yX0_holdsOfClocks cX0_holdsOfClocks 5 (some .boolean), Cond.methodLink RX0 88 yX0_clocksInARow, Cond.instanceMethod yX0_clocksInARow, Cond.selects RX0 yX0_clocksInARow yX0_clocksInARow, Cond.code yX0_clocksInARow cX0_clocksInARow 6 (some .int), Cond.methodLink RX0 92 yX0_sealsOn]
def wsL_law_r10 : List Cond := [Cond.instanceMethod yX0_sealsOn, Cond.selects RX0 yX0_sealsOn yX0_sealsOn, Cond.code yX0_sealsOn cX0_sealsOn 3 (some .int), Cond.methodLink RX0 96 yX0_bothWays, Cond.static yX0_bothWays, Cond.code yX0_bothWays cX0_bothWays 2 (some .int), Cond.methodLink RL 50 yX1_ask, Cond.instanceMethod yX1_ask, Cond.selects RX1 yX1_ask yX1_ask, Cond.code yX1_ask cX1_ask 8 (some .int), Cond.methodLink RX1 78 yX1_asked, Cond.instanceMethod yX1_asked, Cond.selects RX1 yX1_asked yX1_asked, Cond.code yX1_asked cX1_asked 5 (some .boolean), Cond.methodLink RX1 81 yX1_seals, Cond.instanceMethod yX1_seals, Cond.selects RX1 yX1_seals yX1_seals, Cond.code yX1_seals cX1_seals 3 (some .int), Cond.methodLink RL 51 yX0_count, Cond.instanceMethod yX0_count, Cond.selects RX0 yX0_count yX0_count, Cond.code yX0_count cX0_count 2 (some .int), Cond.methodLink RX0 100 yX0_trialsOfAll, Cond.instanceMethod yX0_trialsOfAll]
def wsL_law_r11 : List Cond := [Cond.selects RX0 yX0_trialsOfAll yX0_trialsOfAll, Cond.code yX0_trialsOfAll cX0_trialsOfAll 3 (some .int), Cond.methodLink RX0 103 yX0_firstOfTheBest, Cond.instanceMethod yX0_firstOfTheBest, Cond.selects RX0 yX0_firstOfTheBest yX0_firstOfTheBest, Cond.code yX0_firstOfTheBest cX0_firstOfTheBest 4 (some .int), Cond.methodLink RL 54 yX1_count, Cond.instanceMethod yX1_count, Cond.selects RX1 yX1_count yX1_count, Cond.code yX1_count cX1_count 2 (some .int), Cond.methodLink RX1 88 yX1_trials, Cond.instanceMethod yX1_trials, Cond.selects RX1 yX1_trials yX1_trials, Cond.code yX1_trials cX1_trials 3 (some .int), Cond.methodLink RX1 91 yX1_first, Cond.instanceMethod yX1_first, Cond.selects RX1 yX1_first yX1_first, Cond.code yX1_first cX1_first 2 (some .int), Cond.methodLink RX1 85 yX1_place]
def wsL_law : List Cond := (wsL_law_r1 ++ (wsL_law_r2 ++ (wsL_law_r3 ++ (wsL_law_r4 ++ (wsL_law_r5 ++ (wsL_law_r6 ++ (wsL_law_r7 ++ (wsL_law_r8 ++ (wsL_law_r9 ++ (wsL_law_r10 ++ wsL_law_r11)))))))))) ++ wsX00 ++ wsX10 ++ ([] : List Cond)
set_option maxRecDepth 20000 in
theorem wsL_law_in : ∀ w ∈ wsL_law, w ∈ lw_tbl := fun w h => (goodIn_p wsL_law [34, 37, 198, 71, 231, 75, 78, 81, 235, 238, 85, 88, 242, 245, 92, 96, 100, 104, 107, 110, 113, 116, 119, 249, 253, 257, 260, 263, 123, 127, 267, 131, 135, 139, 271, 275, 279, 143, 147, 150, 154, 158, 162, 283, 287, 291, 295, 299, 166, 170, 174, 178, 181, 303, 307, 311, 185, 189, 193, 315, 319, 323] (by decide +kernel) (by decide +kernel) w h).1
theorem inlX0 : ∀ w ∈ wsX00, w ∈ wsL_law := fun _ h => List.mem_append_left _ (List.mem_append_left _ (List.mem_append_right _ h))
theorem inX0 : ∀ w ∈ wsX00, w ∈ lw_tbl := fun w h => wsL_law_in w (inlX0 w h)
theorem inlX1 : ∀ w ∈ wsX10, w ∈ wsL_law := fun _ h => List.mem_append_left _ (List.mem_append_right _ h)
theorem inX1 : ∀ w ∈ wsX10, w ∈ lw_tbl := fun w h => wsL_law_in w (inlX1 w h)
end
section
theorem dX0_init_0 : decode cX0_init 0 = .ok (.aload_n 0, 1) := by decide +kernel
theorem dX0_init_1 : decode cX0_init 1 = .ok (.invokespecial 1, 3) := by decide +kernel
theorem dX0_init_4 : decode cX0_init 4 = .ok (.aload_n 0, 1) := by decide +kernel
theorem dX0_init_5 : decode cX0_init 5 = .ok (.bipush 48, 2) := by decide +kernel
theorem dX0_init_7 : decode cX0_init 7 = .ok (.newarray .int, 2) := by decide +kernel
theorem dX0_init_9 : decode cX0_init 9 = .ok (.putfield 9, 3) := by decide +kernel
theorem dX0_init_12 : decode cX0_init 12 = .ok (.aload_n 0, 1) := by decide +kernel
theorem dX0_init_13 : decode cX0_init 13 = .ok (.bipush 48, 2) := by decide +kernel
theorem dX0_init_15 : decode cX0_init 15 = .ok (.newarray .int, 2) := by decide +kernel
theorem dX0_init_17 : decode cX0_init 17 = .ok (.putfield 13, 3) := by decide +kernel
theorem dX0_init_20 : decode cX0_init 20 = .ok (.aload_n 0, 1) := by decide +kernel
theorem dX0_init_21 : decode cX0_init 21 = .ok (.bipush 8, 2) := by decide +kernel
theorem dX0_init_23 : decode cX0_init 23 = .ok (.newarray .int, 2) := by decide +kernel
theorem dX0_init_25 : decode cX0_init 25 = .ok (.putfield 16, 3) := by decide +kernel
theorem dX0_init_28 : decode cX0_init 28 = .ok (.aload_n 0, 1) := by decide +kernel
theorem dX0_init_29 : decode cX0_init 29 = .ok (.bipush 8, 2) := by decide +kernel
theorem dX0_init_31 : decode cX0_init 31 = .ok (.newarray .int, 2) := by decide +kernel
theorem dX0_init_33 : decode cX0_init 33 = .ok (.putfield 19, 3) := by decide +kernel
theorem dX0_init_36 : decode cX0_init 36 = .ok (.aload_n 0, 1) := by decide +kernel
theorem dX0_init_37 : decode cX0_init 37 = .ok (.bipush 8, 2) := by decide +kernel
theorem dX0_init_39 : decode cX0_init 39 = .ok (.newarray .boolean, 2) := by decide +kernel
theorem dX0_init_41 : decode cX0_init 41 = .ok (.putfield 22, 3) := by decide +kernel
theorem dX0_init_44 : decode cX0_init 44 = .ok (.aload_n 0, 1) := by decide +kernel
theorem dX0_init_45 : decode cX0_init 45 = .ok (.iconst 0, 1) := by decide +kernel
theorem dX0_init_46 : decode cX0_init 46 = .ok (.putfield 26, 3) := by decide +kernel
theorem dX0_init_49 : decode cX0_init 49 = .ok (.aload_n 0, 1) := by decide +kernel
theorem dX0_init_50 : decode cX0_init 50 = .ok (.iconst (-1), 1) := by decide +kernel
theorem dX0_init_51 : decode cX0_init 51 = .ok (.putfield 30, 3) := by decide +kernel
theorem dX0_init_54 : decode cX0_init 54 = .ok (.aload_n 0, 1) := by decide +kernel
theorem dX0_init_55 : decode cX0_init 55 = .ok (.iconst (-1), 1) := by decide +kernel
theorem dX0_init_56 : decode cX0_init 56 = .ok (.putfield 33, 3) := by decide +kernel
theorem dX0_init_59 : decode cX0_init 59 = .ok (.aload_n 0, 1) := by decide +kernel
theorem dX0_init_60 : decode cX0_init 60 = .ok (.bipush 100, 2) := by decide +kernel
theorem dX0_init_62 : decode cX0_init 62 = .ok (.putfield 36, 3) := by decide +kernel
theorem dX0_init_65 : decode cX0_init 65 = .ok (.return_, 1) := by decide +kernel
theorem dX0_admit_0 : decode cX0_admit 0 = .ok (.aload_n 0, 1) := by decide +kernel
theorem dX0_admit_1 : decode cX0_admit 1 = .ok (.getfield 26, 3) := by decide +kernel
theorem dX0_admit_4 : decode cX0_admit 4 = .ok (.bipush 8, 2) := by decide +kernel
theorem dX0_admit_6 : decode cX0_admit 6 = .ok (.if_icmp .lt 5, 3) := by decide +kernel
theorem dX0_admit_9 : decode cX0_admit 9 = .ok (.iconst (-1), 1) := by decide +kernel
theorem dX0_admit_10 : decode cX0_admit 10 = .ok (.ireturn, 1) := by decide +kernel
theorem dX0_admit_11 : decode cX0_admit 11 = .ok (.aload_n 0, 1) := by decide +kernel
theorem dX0_admit_12 : decode cX0_admit 12 = .ok (.getfield 26, 3) := by decide +kernel
theorem dX0_admit_15 : decode cX0_admit 15 = .ok (.istore_n 1, 1) := by decide +kernel
theorem dX0_admit_16 : decode cX0_admit 16 = .ok (.aload_n 0, 1) := by decide +kernel
theorem dX0_admit_17 : decode cX0_admit 17 = .ok (.getfield 19, 3) := by decide +kernel
theorem dX0_admit_20 : decode cX0_admit 20 = .ok (.iload_n 1, 1) := by decide +kernel
theorem dX0_admit_21 : decode cX0_admit 21 = .ok (.iconst (-1), 1) := by decide +kernel
theorem dX0_admit_22 : decode cX0_admit 22 = .ok (.iastore, 1) := by decide +kernel
theorem dX0_admit_23 : decode cX0_admit 23 = .ok (.aload_n 0, 1) := by decide +kernel
theorem dX0_admit_24 : decode cX0_admit 24 = .ok (.dup, 1) := by decide +kernel
theorem dX0_admit_25 : decode cX0_admit 25 = .ok (.getfield 26, 3) := by decide +kernel
theorem dX0_admit_28 : decode cX0_admit 28 = .ok (.iconst 1, 1) := by decide +kernel
theorem dX0_admit_29 : decode cX0_admit 29 = .ok (.iadd, 1) := by decide +kernel
theorem dX0_admit_30 : decode cX0_admit 30 = .ok (.putfield 26, 3) := by decide +kernel
theorem dX0_admit_33 : decode cX0_admit 33 = .ok (.iload_n 1, 1) := by decide +kernel
theorem dX0_admit_34 : decode cX0_admit 34 = .ok (.ireturn, 1) := by decide +kernel
set_option maxRecDepth 20000 in
theorem ggX0_prize_X0_isRate : GoodIn wsX0_prize wsX0_isRate := goodIn_r _ [5, 6, 7, 4, 8] (by decide +kernel) (by decide +kernel)
set_option maxRecDepth 20000 in
theorem gX0_prize_X0_isRate : GoodIn wsX0_prize (va_wsS RX0 39 yX0_isRate wsX0_isRate) := goodIn_app (goodIn_of _ (by decide +kernel)) ggX0_prize_X0_isRate
theorem dX0_prize_0 : decode cX0_prize 0 = .ok (.iload_n 1, 1) := by decide +kernel
theorem dX0_prize_1 : decode cX0_prize 1 = .ok (.invokestatic 39, 3) := by decide +kernel
theorem dX0_prize_4 : decode cX0_prize 4 = .ok (.ifCond .ne 5, 3) := by decide +kernel
theorem dX0_prize_7 : decode cX0_prize 7 = .ok (.iconst 0, 1) := by decide +kernel
theorem dX0_prize_8 : decode cX0_prize 8 = .ok (.ireturn, 1) := by decide +kernel
theorem dX0_prize_9 : decode cX0_prize 9 = .ok (.aload_n 0, 1) := by decide +kernel
theorem dX0_prize_10 : decode cX0_prize 10 = .ok (.iload_n 1, 1) := by decide +kernel
theorem dX0_prize_11 : decode cX0_prize 11 = .ok (.putfield 30, 3) := by decide +kernel
theorem dX0_prize_14 : decode cX0_prize 14 = .ok (.iconst 1, 1) := by decide +kernel
theorem dX0_prize_15 : decode cX0_prize 15 = .ok (.ireturn, 1) := by decide +kernel
set_option maxRecDepth 20000 in
theorem ggX0_frost_X0_isChill : GoodIn wsX0_frost wsX0_isChill := goodIn_r _ [5, 6, 7, 4, 8] (by decide +kernel) (by decide +kernel)
set_option maxRecDepth 20000 in
theorem gX0_frost_X0_isChill : GoodIn wsX0_frost (va_wsS RX0 43 yX0_isChill wsX0_isChill) := goodIn_app (goodIn_of _ (by decide +kernel)) ggX0_frost_X0_isChill
theorem dX0_frost_0 : decode cX0_frost 0 = .ok (.iload_n 1, 1) := by decide +kernel
theorem dX0_frost_1 : decode cX0_frost 1 = .ok (.invokestatic 43, 3) := by decide +kernel
theorem dX0_frost_4 : decode cX0_frost 4 = .ok (.ifCond .ne 5, 3) := by decide +kernel
theorem dX0_frost_7 : decode cX0_frost 7 = .ok (.iconst 0, 1) := by decide +kernel
theorem dX0_frost_8 : decode cX0_frost 8 = .ok (.ireturn, 1) := by decide +kernel
theorem dX0_frost_9 : decode cX0_frost 9 = .ok (.aload_n 0, 1) := by decide +kernel
theorem dX0_frost_10 : decode cX0_frost 10 = .ok (.iload_n 1, 1) := by decide +kernel
theorem dX0_frost_11 : decode cX0_frost 11 = .ok (.putfield 36, 3) := by decide +kernel
theorem dX0_frost_14 : decode cX0_frost 14 = .ok (.iconst 1, 1) := by decide +kernel
theorem dX0_frost_15 : decode cX0_frost 15 = .ok (.ireturn, 1) := by decide +kernel
set_option maxRecDepth 20000 in
theorem ggX0_trial_X0_isClock : GoodIn wsX0_trial wsX0_isClock := goodIn_r _ [10, 11, 46, 47, 48, 49, 50, 51, 52, 53, 54] (by decide +kernel) (by decide +kernel)
set_option maxRecDepth 20000 in
theorem gX0_trial_X0_isClock : GoodIn wsX0_trial (wsV RX0 46 RX0 yX0_isClock wsX0_isClock) := goodIn_app (goodIn_of _ (by decide +kernel)) ggX0_trial_X0_isClock
set_option maxRecDepth 20000 in
theorem ggX0_trial_X0_isRate : GoodIn wsX0_trial wsX0_isRate := goodIn_r _ [14, 15, 16, 9, 17] (by decide +kernel) (by decide +kernel)
set_option maxRecDepth 20000 in
theorem gX0_trial_X0_isRate : GoodIn wsX0_trial (va_wsS RX0 39 yX0_isRate wsX0_isRate) := goodIn_app (goodIn_of _ (by decide +kernel)) ggX0_trial_X0_isRate
set_option maxRecDepth 20000 in
theorem ggX0_trial_X0_isChill : GoodIn wsX0_trial wsX0_isChill := goodIn_r _ [20, 15, 16, 9, 17] (by decide +kernel) (by decide +kernel)
set_option maxRecDepth 20000 in
theorem gX0_trial_X0_isChill : GoodIn wsX0_trial (va_wsS RX0 43 yX0_isChill wsX0_isChill) := goodIn_app (goodIn_of _ (by decide +kernel)) ggX0_trial_X0_isChill
set_option maxRecDepth 20000 in
theorem ggX0_trial_X0_marksOf : GoodIn wsX0_trial wsX0_marksOf := goodIn_r _ [24, 25, 4, 5, 26, 27, 28, 9, 29, 30, 31, 32, 33, 34, 35, 36, 37, 38, 39, 40, 41, 42, 46, 47, 48, 49, 50, 51, 52, 53, 54] (by decide +kernel) (by decide +kernel)
set_option maxRecDepth 20000 in
theorem gX0_trial_X0_marksOf : GoodIn wsX0_trial (wsV RX0 49 RX0 yX0_marksOf wsX0_marksOf) := goodIn_app (goodIn_of _ (by decide +kernel)) ggX0_trial_X0_marksOf
set_option maxRecDepth 20000 in
theorem ggX0_trial_X0_slot : GoodIn wsX0_trial wsX0_slot := goodIn_r _ [45] (by decide +kernel) (by decide +kernel)
set_option maxRecDepth 20000 in
theorem gX0_trial_X0_slot : GoodIn wsX0_trial (va_wsS RX0 53 yX0_slot wsX0_slot) := goodIn_app (goodIn_of _ (by decide +kernel)) ggX0_trial_X0_slot
theorem dX0_trial_0 : decode cX0_trial 0 = .ok (.aload_n 0, 1) := by decide +kernel
theorem dX0_trial_1 : decode cX0_trial 1 = .ok (.iload_n 1, 1) := by decide +kernel
theorem dX0_trial_2 : decode cX0_trial 2 = .ok (.invokevirtual 46, 3) := by decide +kernel
theorem dX0_trial_5 : decode cX0_trial 5 = .ok (.ifCond .eq 17, 3) := by decide +kernel
theorem dX0_trial_8 : decode cX0_trial 8 = .ok (.iload_n 2, 1) := by decide +kernel
theorem dX0_trial_9 : decode cX0_trial 9 = .ok (.invokestatic 39, 3) := by decide +kernel
theorem dX0_trial_12 : decode cX0_trial 12 = .ok (.ifCond .eq 10, 3) := by decide +kernel
theorem dX0_trial_15 : decode cX0_trial 15 = .ok (.iload_n 3, 1) := by decide +kernel
theorem dX0_trial_16 : decode cX0_trial 16 = .ok (.invokestatic 43, 3) := by decide +kernel
theorem dX0_trial_19 : decode cX0_trial 19 = .ok (.ifCond .ne 5, 3) := by decide +kernel
theorem dX0_trial_22 : decode cX0_trial 22 = .ok (.iconst (-1), 1) := by decide +kernel
theorem dX0_trial_23 : decode cX0_trial 23 = .ok (.ireturn, 1) := by decide +kernel
theorem dX0_trial_24 : decode cX0_trial 24 = .ok (.aload_n 0, 1) := by decide +kernel
theorem dX0_trial_25 : decode cX0_trial 25 = .ok (.getfield 16, 3) := by decide +kernel
theorem dX0_trial_28 : decode cX0_trial 28 = .ok (.iload_n 1, 1) := by decide +kernel
theorem dX0_trial_29 : decode cX0_trial 29 = .ok (.iaload, 1) := by decide +kernel
theorem dX0_trial_30 : decode cX0_trial 30 = .ok (.bipush 6, 2) := by decide +kernel
theorem dX0_trial_32 : decode cX0_trial 32 = .ok (.if_icmp .lt 5, 3) := by decide +kernel
theorem dX0_trial_35 : decode cX0_trial 35 = .ok (.iconst (-1), 1) := by decide +kernel
theorem dX0_trial_36 : decode cX0_trial 36 = .ok (.ireturn, 1) := by decide +kernel
theorem dX0_trial_37 : decode cX0_trial 37 = .ok (.aload_n 0, 1) := by decide +kernel
theorem dX0_trial_38 : decode cX0_trial 38 = .ok (.iload_n 1, 1) := by decide +kernel
theorem dX0_trial_39 : decode cX0_trial 39 = .ok (.iload_n 2, 1) := by decide +kernel
theorem dX0_trial_40 : decode cX0_trial 40 = .ok (.iload_n 3, 1) := by decide +kernel
theorem dX0_trial_41 : decode cX0_trial 41 = .ok (.invokevirtual 49, 3) := by decide +kernel
theorem dX0_trial_44 : decode cX0_trial 44 = .ok (.istore 4, 2) := by decide +kernel
theorem dX0_trial_46 : decode cX0_trial 46 = .ok (.iload_n 1, 1) := by decide +kernel
theorem dX0_trial_47 : decode cX0_trial 47 = .ok (.aload_n 0, 1) := by decide +kernel
theorem dX0_trial_48 : decode cX0_trial 48 = .ok (.getfield 16, 3) := by decide +kernel
theorem dX0_trial_51 : decode cX0_trial 51 = .ok (.iload_n 1, 1) := by decide +kernel
theorem dX0_trial_52 : decode cX0_trial 52 = .ok (.iaload, 1) := by decide +kernel
theorem dX0_trial_53 : decode cX0_trial 53 = .ok (.invokestatic 53, 3) := by decide +kernel
theorem dX0_trial_56 : decode cX0_trial 56 = .ok (.istore 5, 2) := by decide +kernel
theorem dX0_trial_58 : decode cX0_trial 58 = .ok (.aload_n 0, 1) := by decide +kernel
theorem dX0_trial_59 : decode cX0_trial 59 = .ok (.getfield 9, 3) := by decide +kernel
theorem dX0_trial_62 : decode cX0_trial 62 = .ok (.iload 5, 2) := by decide +kernel
theorem dX0_trial_64 : decode cX0_trial 64 = .ok (.iload_n 2, 1) := by decide +kernel
theorem dX0_trial_65 : decode cX0_trial 65 = .ok (.iastore, 1) := by decide +kernel
theorem dX0_trial_66 : decode cX0_trial 66 = .ok (.aload_n 0, 1) := by decide +kernel
theorem dX0_trial_67 : decode cX0_trial 67 = .ok (.getfield 13, 3) := by decide +kernel
theorem dX0_trial_70 : decode cX0_trial 70 = .ok (.iload 5, 2) := by decide +kernel
theorem dX0_trial_72 : decode cX0_trial 72 = .ok (.iload_n 3, 1) := by decide +kernel
theorem dX0_trial_73 : decode cX0_trial 73 = .ok (.iastore, 1) := by decide +kernel
theorem dX0_trial_74 : decode cX0_trial 74 = .ok (.aload_n 0, 1) := by decide +kernel
theorem dX0_trial_75 : decode cX0_trial 75 = .ok (.getfield 16, 3) := by decide +kernel
theorem dX0_trial_78 : decode cX0_trial 78 = .ok (.iload_n 1, 1) := by decide +kernel
theorem dX0_trial_79 : decode cX0_trial 79 = .ok (.dup2, 1) := by decide +kernel
theorem dX0_trial_80 : decode cX0_trial 80 = .ok (.iaload, 1) := by decide +kernel
theorem dX0_trial_81 : decode cX0_trial 81 = .ok (.iconst 1, 1) := by decide +kernel
theorem dX0_trial_82 : decode cX0_trial 82 = .ok (.iadd, 1) := by decide +kernel
theorem dX0_trial_83 : decode cX0_trial 83 = .ok (.iastore, 1) := by decide +kernel
theorem dX0_trial_84 : decode cX0_trial 84 = .ok (.iload 4, 2) := by decide +kernel
theorem dX0_trial_86 : decode cX0_trial 86 = .ok (.iconst 4, 1) := by decide +kernel
theorem dX0_trial_87 : decode cX0_trial 87 = .ok (.iand, 1) := by decide +kernel
theorem dX0_trial_88 : decode cX0_trial 88 = .ok (.ifCond .eq 10, 3) := by decide +kernel
theorem dX0_trial_91 : decode cX0_trial 91 = .ok (.aload_n 0, 1) := by decide +kernel
theorem dX0_trial_92 : decode cX0_trial 92 = .ok (.getfield 19, 3) := by decide +kernel
theorem dX0_trial_95 : decode cX0_trial 95 = .ok (.iload_n 1, 1) := by decide +kernel
theorem dX0_trial_96 : decode cX0_trial 96 = .ok (.iload_n 2, 1) := by decide +kernel
theorem dX0_trial_97 : decode cX0_trial 97 = .ok (.iastore, 1) := by decide +kernel
theorem dX0_trial_98 : decode cX0_trial 98 = .ok (.iload 4, 2) := by decide +kernel
theorem dX0_trial_100 : decode cX0_trial 100 = .ok (.bipush 8, 2) := by decide +kernel
theorem dX0_trial_102 : decode cX0_trial 102 = .ok (.iand, 1) := by decide +kernel
theorem dX0_trial_103 : decode cX0_trial 103 = .ok (.ifCond .eq 8, 3) := by decide +kernel
theorem dX0_trial_106 : decode cX0_trial 106 = .ok (.aload_n 0, 1) := by decide +kernel
theorem dX0_trial_107 : decode cX0_trial 107 = .ok (.iload_n 2, 1) := by decide +kernel
theorem dX0_trial_108 : decode cX0_trial 108 = .ok (.putfield 33, 3) := by decide +kernel
theorem dX0_trial_111 : decode cX0_trial 111 = .ok (.iload 4, 2) := by decide +kernel
theorem dX0_trial_113 : decode cX0_trial 113 = .ok (.ireturn, 1) := by decide +kernel
set_option maxRecDepth 20000 in
theorem ggX0_annul_X0_isClock : GoodIn wsX0_annul wsX0_isClock := goodIn_r _ [7, 8, 26, 27, 28, 29, 30, 31, 32, 33, 34] (by decide +kernel) (by decide +kernel)
set_option maxRecDepth 20000 in
theorem gX0_annul_X0_isClock : GoodIn wsX0_annul (wsV RX0 46 RX0 yX0_isClock wsX0_isClock) := goodIn_app (goodIn_of _ (by decide +kernel)) ggX0_annul_X0_isClock
set_option maxRecDepth 20000 in
theorem ggX0_annul_X0_leastRate : GoodIn wsX0_annul wsX0_leastRate := goodIn_r _ [12, 1, 13, 14, 15, 6, 16, 17, 18, 19, 20, 21, 22, 23, 24, 25, 26, 27, 28, 29, 30, 31, 32, 33, 34] (by decide +kernel) (by decide +kernel)
set_option maxRecDepth 20000 in
theorem gX0_annul_X0_leastRate : GoodIn wsX0_annul (wsV RX0 57 RX0 yX0_leastRate wsX0_leastRate) := goodIn_app (goodIn_of _ (by decide +kernel)) ggX0_annul_X0_leastRate
theorem dX0_annul_0 : decode cX0_annul 0 = .ok (.aload_n 0, 1) := by decide +kernel
theorem dX0_annul_1 : decode cX0_annul 1 = .ok (.iload_n 1, 1) := by decide +kernel
theorem dX0_annul_2 : decode cX0_annul 2 = .ok (.invokevirtual 46, 3) := by decide +kernel
theorem dX0_annul_5 : decode cX0_annul 5 = .ok (.ifCond .eq 12, 3) := by decide +kernel
theorem dX0_annul_8 : decode cX0_annul 8 = .ok (.aload_n 0, 1) := by decide +kernel
theorem dX0_annul_9 : decode cX0_annul 9 = .ok (.getfield 16, 3) := by decide +kernel
theorem dX0_annul_12 : decode cX0_annul 12 = .ok (.iload_n 1, 1) := by decide +kernel
theorem dX0_annul_13 : decode cX0_annul 13 = .ok (.iaload, 1) := by decide +kernel
theorem dX0_annul_14 : decode cX0_annul 14 = .ok (.ifCond .gt 5, 3) := by decide +kernel
theorem dX0_annul_17 : decode cX0_annul 17 = .ok (.iconst (-1), 1) := by decide +kernel
theorem dX0_annul_18 : decode cX0_annul 18 = .ok (.ireturn, 1) := by decide +kernel
theorem dX0_annul_19 : decode cX0_annul 19 = .ok (.aload_n 0, 1) := by decide +kernel
theorem dX0_annul_20 : decode cX0_annul 20 = .ok (.getfield 16, 3) := by decide +kernel
theorem dX0_annul_23 : decode cX0_annul 23 = .ok (.iload_n 1, 1) := by decide +kernel
theorem dX0_annul_24 : decode cX0_annul 24 = .ok (.dup2, 1) := by decide +kernel
theorem dX0_annul_25 : decode cX0_annul 25 = .ok (.iaload, 1) := by decide +kernel
theorem dX0_annul_26 : decode cX0_annul 26 = .ok (.iconst 1, 1) := by decide +kernel
theorem dX0_annul_27 : decode cX0_annul 27 = .ok (.isub, 1) := by decide +kernel
theorem dX0_annul_28 : decode cX0_annul 28 = .ok (.iastore, 1) := by decide +kernel
theorem dX0_annul_29 : decode cX0_annul 29 = .ok (.aload_n 0, 1) := by decide +kernel
theorem dX0_annul_30 : decode cX0_annul 30 = .ok (.getfield 19, 3) := by decide +kernel
theorem dX0_annul_33 : decode cX0_annul 33 = .ok (.iload_n 1, 1) := by decide +kernel
theorem dX0_annul_34 : decode cX0_annul 34 = .ok (.aload_n 0, 1) := by decide +kernel
theorem dX0_annul_35 : decode cX0_annul 35 = .ok (.iload_n 1, 1) := by decide +kernel
theorem dX0_annul_36 : decode cX0_annul 36 = .ok (.invokevirtual 57, 3) := by decide +kernel
theorem dX0_annul_39 : decode cX0_annul 39 = .ok (.iastore, 1) := by decide +kernel
theorem dX0_annul_40 : decode cX0_annul 40 = .ok (.aload_n 0, 1) := by decide +kernel
theorem dX0_annul_41 : decode cX0_annul 41 = .ok (.getfield 16, 3) := by decide +kernel
theorem dX0_annul_44 : decode cX0_annul 44 = .ok (.iload_n 1, 1) := by decide +kernel
theorem dX0_annul_45 : decode cX0_annul 45 = .ok (.iaload, 1) := by decide +kernel
theorem dX0_annul_46 : decode cX0_annul 46 = .ok (.ireturn, 1) := by decide +kernel
set_option maxRecDepth 20000 in
theorem ggX0_place_X0_clocksAhead : GoodIn wsX0_place wsX0_clocksAhead := goodIn_r _ [6, 1, 7, 8, 9, 5, 10, 11, 12, 13, 14, 15, 16, 17, 18, 19, 20, 21, 22, 23, 24, 25, 26, 27, 28, 29] (by decide +kernel) (by decide +kernel)
set_option maxRecDepth 20000 in
theorem gX0_place_X0_clocksAhead : GoodIn wsX0_place (wsV RX0 61 RX0 yX0_clocksAhead wsX0_clocksAhead) := goodIn_app (goodIn_of _ (by decide +kernel)) ggX0_place_X0_clocksAhead
theorem dX0_place_0 : decode cX0_place 0 = .ok (.iconst 0, 1) := by decide +kernel
theorem dX0_place_1 : decode cX0_place 1 = .ok (.istore_n 2, 1) := by decide +kernel
theorem dX0_place_2 : decode cX0_place 2 = .ok (.iload_n 2, 1) := by decide +kernel
theorem dX0_place_3 : decode cX0_place 3 = .ok (.aload_n 0, 1) := by decide +kernel
theorem dX0_place_4 : decode cX0_place 4 = .ok (.getfield 26, 3) := by decide +kernel
theorem dX0_place_7 : decode cX0_place 7 = .ok (.if_icmp .ge 20, 3) := by decide +kernel
theorem dX0_place_10 : decode cX0_place 10 = .ok (.aload_n 0, 1) := by decide +kernel
theorem dX0_place_11 : decode cX0_place 11 = .ok (.iload_n 2, 1) := by decide +kernel
theorem dX0_place_12 : decode cX0_place 12 = .ok (.invokevirtual 61, 3) := by decide +kernel
theorem dX0_place_15 : decode cX0_place 15 = .ok (.iload_n 1, 1) := by decide +kernel
theorem dX0_place_16 : decode cX0_place 16 = .ok (.if_icmp .ne 5, 3) := by decide +kernel
theorem dX0_place_19 : decode cX0_place 19 = .ok (.iload_n 2, 1) := by decide +kernel
theorem dX0_place_20 : decode cX0_place 20 = .ok (.ireturn, 1) := by decide +kernel
theorem dX0_place_21 : decode cX0_place 21 = .ok (.iinc 2 1, 3) := by decide +kernel
theorem dX0_place_24 : decode cX0_place 24 = .ok (.goto (-22), 3) := by decide +kernel
theorem dX0_place_27 : decode cX0_place 27 = .ok (.iconst (-1), 1) := by decide +kernel
theorem dX0_place_28 : decode cX0_place 28 = .ok (.ireturn, 1) := by decide +kernel
set_option maxRecDepth 20000 in
theorem ggX0_tell_X0_isClock : GoodIn wsX0_tell wsX0_isClock := goodIn_r _ [8, 9, 51, 52, 53, 54, 55, 56, 57, 58, 59] (by decide +kernel) (by decide +kernel)
set_option maxRecDepth 20000 in
theorem gX0_tell_X0_isClock : GoodIn wsX0_tell (wsV RX0 46 RX0 yX0_isClock wsX0_isClock) := goodIn_app (goodIn_of _ (by decide +kernel)) ggX0_tell_X0_isClock
set_option maxRecDepth 20000 in
theorem ggX0_tell_X0_rank : GoodIn wsX0_tell wsX0_rank := goodIn_r _ [13, 9, 2, 14, 15, 7, 16, 17, 18, 19, 20, 21, 22, 51, 52, 53, 54, 55, 56, 57, 58, 59] (by decide +kernel) (by decide +kernel)
set_option maxRecDepth 20000 in
theorem gX0_tell_X0_rank : GoodIn wsX0_tell (wsV RX0 64 RX0 yX0_rank wsX0_rank) := goodIn_app (goodIn_of _ (by decide +kernel)) ggX0_tell_X0_rank
set_option maxRecDepth 20000 in
theorem ggX0_tell_X0_oneIf : GoodIn wsX0_tell wsX0_oneIf := goodIn_r _ [25] (by decide +kernel) (by decide +kernel)
set_option maxRecDepth 20000 in
theorem gX0_tell_X0_oneIf : GoodIn wsX0_tell (va_wsS RX0 67 yX0_oneIf wsX0_oneIf) := goodIn_app (goodIn_of _ (by decide +kernel)) ggX0_tell_X0_oneIf
set_option maxRecDepth 20000 in
theorem ggX0_tell_X0_coldTrials : GoodIn wsX0_tell wsX0_coldTrials := goodIn_r _ [29, 1, 30, 31, 32, 7, 33, 34, 35, 36, 37, 38, 39, 40, 41, 20, 21, 22, 51, 52, 53, 54, 55, 56, 57, 58, 59] (by decide +kernel) (by decide +kernel)
set_option maxRecDepth 20000 in
theorem gX0_tell_X0_coldTrials : GoodIn wsX0_tell (wsV RX0 71 RX0 yX0_coldTrials wsX0_coldTrials) := goodIn_app (goodIn_of _ (by decide +kernel)) ggX0_tell_X0_coldTrials
set_option maxRecDepth 20000 in
theorem ggX0_tell_X0_trialsAheadOfBest : GoodIn wsX0_tell wsX0_trialsAheadOfBest := goodIn_r _ [45, 1, 46, 2, 31, 32, 7, 33, 17, 18, 19, 20, 21, 22, 51, 52, 53, 54, 55, 56, 57, 58, 59] (by decide +kernel) (by decide +kernel)
set_option maxRecDepth 20000 in
theorem gX0_tell_X0_trialsAheadOfBest : GoodIn wsX0_tell (wsV RX0 74 RX0 yX0_trialsAheadOfBest wsX0_trialsAheadOfBest) := goodIn_app (goodIn_of _ (by decide +kernel)) ggX0_tell_X0_trialsAheadOfBest
set_option maxRecDepth 20000 in
theorem ggX0_tell_X0_latestChill : GoodIn wsX0_tell wsX0_latestChill := goodIn_r _ [50, 1, 30, 31, 32, 7, 33, 51, 52, 53, 54, 55, 56, 57, 58, 59] (by decide +kernel) (by decide +kernel)
set_option maxRecDepth 20000 in
theorem gX0_tell_X0_latestChill : GoodIn wsX0_tell (wsV RX0 77 RX0 yX0_latestChill wsX0_latestChill) := goodIn_app (goodIn_of _ (by decide +kernel)) ggX0_tell_X0_latestChill
theorem dX0_tell_0 : decode cX0_tell 0 = .ok (.aload_n 0, 1) := by decide +kernel
theorem dX0_tell_1 : decode cX0_tell 1 = .ok (.iload_n 1, 1) := by decide +kernel
theorem dX0_tell_2 : decode cX0_tell 2 = .ok (.invokevirtual 46, 3) := by decide +kernel
theorem dX0_tell_5 : decode cX0_tell 5 = .ok (.ifCond .ne 5, 3) := by decide +kernel
theorem dX0_tell_8 : decode cX0_tell 8 = .ok (.iconst (-1), 1) := by decide +kernel
theorem dX0_tell_9 : decode cX0_tell 9 = .ok (.ireturn, 1) := by decide +kernel
theorem dX0_tell_10 : decode cX0_tell 10 = .ok (.iload_n 2, 1) := by decide +kernel
theorem dX0_tell_11 : decode cX0_tell 11 = .ok (.tableswitch 89 0 6 #[41, 48, 55, 61, 71, 77, 83], 41) := by decide +kernel
theorem dX0_tell_52 : decode cX0_tell 52 = .ok (.aload_n 0, 1) := by decide +kernel
theorem dX0_tell_53 : decode cX0_tell 53 = .ok (.getfield 16, 3) := by decide +kernel
theorem dX0_tell_56 : decode cX0_tell 56 = .ok (.iload_n 1, 1) := by decide +kernel
theorem dX0_tell_57 : decode cX0_tell 57 = .ok (.iaload, 1) := by decide +kernel
theorem dX0_tell_58 : decode cX0_tell 58 = .ok (.ireturn, 1) := by decide +kernel
theorem dX0_tell_59 : decode cX0_tell 59 = .ok (.aload_n 0, 1) := by decide +kernel
theorem dX0_tell_60 : decode cX0_tell 60 = .ok (.getfield 19, 3) := by decide +kernel
theorem dX0_tell_63 : decode cX0_tell 63 = .ok (.iload_n 1, 1) := by decide +kernel
theorem dX0_tell_64 : decode cX0_tell 64 = .ok (.iaload, 1) := by decide +kernel
theorem dX0_tell_65 : decode cX0_tell 65 = .ok (.ireturn, 1) := by decide +kernel
theorem dX0_tell_66 : decode cX0_tell 66 = .ok (.aload_n 0, 1) := by decide +kernel
theorem dX0_tell_67 : decode cX0_tell 67 = .ok (.iload_n 1, 1) := by decide +kernel
theorem dX0_tell_68 : decode cX0_tell 68 = .ok (.invokevirtual 64, 3) := by decide +kernel
theorem dX0_tell_71 : decode cX0_tell 71 = .ok (.ireturn, 1) := by decide +kernel
theorem dX0_tell_72 : decode cX0_tell 72 = .ok (.aload_n 0, 1) := by decide +kernel
theorem dX0_tell_73 : decode cX0_tell 73 = .ok (.getfield 22, 3) := by decide +kernel
theorem dX0_tell_76 : decode cX0_tell 76 = .ok (.iload_n 1, 1) := by decide +kernel
theorem dX0_tell_77 : decode cX0_tell 77 = .ok (.baload, 1) := by decide +kernel
theorem dX0_tell_78 : decode cX0_tell 78 = .ok (.invokestatic 67, 3) := by decide +kernel
theorem dX0_tell_81 : decode cX0_tell 81 = .ok (.ireturn, 1) := by decide +kernel
theorem dX0_tell_82 : decode cX0_tell 82 = .ok (.aload_n 0, 1) := by decide +kernel
theorem dX0_tell_83 : decode cX0_tell 83 = .ok (.iload_n 1, 1) := by decide +kernel
theorem dX0_tell_84 : decode cX0_tell 84 = .ok (.invokevirtual 71, 3) := by decide +kernel
theorem dX0_tell_87 : decode cX0_tell 87 = .ok (.ireturn, 1) := by decide +kernel
theorem dX0_tell_88 : decode cX0_tell 88 = .ok (.aload_n 0, 1) := by decide +kernel
theorem dX0_tell_89 : decode cX0_tell 89 = .ok (.iload_n 1, 1) := by decide +kernel
theorem dX0_tell_90 : decode cX0_tell 90 = .ok (.invokevirtual 74, 3) := by decide +kernel
theorem dX0_tell_93 : decode cX0_tell 93 = .ok (.ireturn, 1) := by decide +kernel
theorem dX0_tell_94 : decode cX0_tell 94 = .ok (.aload_n 0, 1) := by decide +kernel
theorem dX0_tell_95 : decode cX0_tell 95 = .ok (.iload_n 1, 1) := by decide +kernel
theorem dX0_tell_96 : decode cX0_tell 96 = .ok (.invokevirtual 77, 3) := by decide +kernel
theorem dX0_tell_99 : decode cX0_tell 99 = .ok (.ireturn, 1) := by decide +kernel
theorem dX0_tell_100 : decode cX0_tell 100 = .ok (.iconst (-1), 1) := by decide +kernel
theorem dX0_tell_101 : decode cX0_tell 101 = .ok (.ireturn, 1) := by decide +kernel
set_option maxRecDepth 20000 in
theorem ggX0_ask_X0_isWithin : GoodIn wsX0_ask wsX0_isWithin := goodIn_r _ [5] (by decide +kernel) (by decide +kernel)
set_option maxRecDepth 20000 in
theorem gX0_ask_X0_isWithin : GoodIn wsX0_ask (va_wsS RX0 80 yX0_isWithin wsX0_isWithin) := goodIn_app (goodIn_of _ (by decide +kernel)) ggX0_ask_X0_isWithin
set_option maxRecDepth 20000 in
theorem ggX0_ask_X0_isClock : GoodIn wsX0_ask wsX0_isClock := goodIn_r _ [9, 10, 48, 49, 50, 51, 52, 53, 54, 55, 56] (by decide +kernel) (by decide +kernel)
set_option maxRecDepth 20000 in
theorem gX0_ask_X0_isClock : GoodIn wsX0_ask (wsV RX0 46 RX0 yX0_isClock wsX0_isClock) := goodIn_app (goodIn_of _ (by decide +kernel)) ggX0_ask_X0_isClock
set_option maxRecDepth 20000 in
theorem ggX0_ask_X0_holdsOfClocks : GoodIn wsX0_ask wsX0_holdsOfClocks := goodIn_r _ [14, 15, 16, 17, 4, 18, 19, 20, 21, 22, 23, 24, 25, 26, 27, 28, 29, 30, 31, 32, 33, 48, 49, 50, 51, 52, 53, 54, 55, 56] (by decide +kernel) (by decide +kernel)
set_option maxRecDepth 20000 in
theorem gX0_ask_X0_holdsOfClocks : GoodIn wsX0_ask (wsV RX0 84 RX0 yX0_holdsOfClocks wsX0_holdsOfClocks) := goodIn_app (goodIn_of _ (by decide +kernel)) ggX0_ask_X0_holdsOfClocks
set_option maxRecDepth 20000 in
theorem ggX0_ask_X0_oneIf : GoodIn wsX0_ask wsX0_oneIf := goodIn_r _ [36] (by decide +kernel) (by decide +kernel)
set_option maxRecDepth 20000 in
theorem gX0_ask_X0_oneIf : GoodIn wsX0_ask (va_wsS RX0 67 yX0_oneIf wsX0_oneIf) := goodIn_app (goodIn_of _ (by decide +kernel)) ggX0_ask_X0_oneIf
set_option maxRecDepth 20000 in
theorem ggX0_ask_X0_clocksInARow : GoodIn wsX0_ask wsX0_clocksInARow := goodIn_r _ [40, 10, 11, 12, 13, 4, 14, 15, 16, 17, 18, 19, 20, 21, 22, 23, 24, 25, 26, 27, 28, 29, 30, 31, 32, 33, 48, 49, 50, 51, 52, 53, 54, 55, 56] (by decide +kernel) (by decide +kernel)
set_option maxRecDepth 20000 in
theorem gX0_ask_X0_clocksInARow : GoodIn wsX0_ask (wsV RX0 88 RX0 yX0_clocksInARow wsX0_clocksInARow) := goodIn_app (goodIn_of _ (by decide +kernel)) ggX0_ask_X0_clocksInARow
set_option maxRecDepth 20000 in
theorem ggX0_ask_X0_sealsOn : GoodIn wsX0_ask wsX0_sealsOn := goodIn_r _ [44, 10, 1, 34, 35, 4, 36, 48, 49, 50, 51, 52, 53, 54, 55, 56] (by decide +kernel) (by decide +kernel)
set_option maxRecDepth 20000 in
theorem gX0_ask_X0_sealsOn : GoodIn wsX0_ask (wsV RX0 92 RX0 yX0_sealsOn wsX0_sealsOn) := goodIn_app (goodIn_of _ (by decide +kernel)) ggX0_ask_X0_sealsOn
set_option maxRecDepth 20000 in
theorem ggX0_ask_X0_bothWays : GoodIn wsX0_ask wsX0_bothWays := goodIn_r _ [47] (by decide +kernel) (by decide +kernel)
set_option maxRecDepth 20000 in
theorem gX0_ask_X0_bothWays : GoodIn wsX0_ask (va_wsS RX0 96 yX0_bothWays wsX0_bothWays) := goodIn_app (goodIn_of _ (by decide +kernel)) ggX0_ask_X0_bothWays
theorem dX0_ask_0 : decode cX0_ask 0 = .ok (.iload_n 1, 1) := by decide +kernel
theorem dX0_ask_1 : decode cX0_ask 1 = .ok (.iconst 0, 1) := by decide +kernel
theorem dX0_ask_2 : decode cX0_ask 2 = .ok (.iconst 1, 1) := by decide +kernel
theorem dX0_ask_3 : decode cX0_ask 3 = .ok (.invokestatic 80, 3) := by decide +kernel
theorem dX0_ask_6 : decode cX0_ask 6 = .ok (.ifCond .eq 12, 3) := by decide +kernel
theorem dX0_ask_9 : decode cX0_ask 9 = .ok (.iload_n 2, 1) := by decide +kernel
theorem dX0_ask_10 : decode cX0_ask 10 = .ok (.iconst 0, 1) := by decide +kernel
theorem dX0_ask_11 : decode cX0_ask 11 = .ok (.iconst 5, 1) := by decide +kernel
theorem dX0_ask_12 : decode cX0_ask 12 = .ok (.invokestatic 80, 3) := by decide +kernel
theorem dX0_ask_15 : decode cX0_ask 15 = .ok (.ifCond .ne 5, 3) := by decide +kernel
theorem dX0_ask_18 : decode cX0_ask 18 = .ok (.iconst (-1), 1) := by decide +kernel
theorem dX0_ask_19 : decode cX0_ask 19 = .ok (.ireturn, 1) := by decide +kernel
theorem dX0_ask_20 : decode cX0_ask 20 = .ok (.iload_n 3, 1) := by decide +kernel
theorem dX0_ask_21 : decode cX0_ask 21 = .ok (.iconst 0, 1) := by decide +kernel
theorem dX0_ask_22 : decode cX0_ask 22 = .ok (.iconst 5, 1) := by decide +kernel
theorem dX0_ask_23 : decode cX0_ask 23 = .ok (.invokestatic 80, 3) := by decide +kernel
theorem dX0_ask_26 : decode cX0_ask 26 = .ok (.ifCond .eq 21, 3) := by decide +kernel
theorem dX0_ask_29 : decode cX0_ask 29 = .ok (.aload_n 0, 1) := by decide +kernel
theorem dX0_ask_30 : decode cX0_ask 30 = .ok (.iload 4, 2) := by decide +kernel
theorem dX0_ask_32 : decode cX0_ask 32 = .ok (.invokevirtual 46, 3) := by decide +kernel
theorem dX0_ask_35 : decode cX0_ask 35 = .ok (.ifCond .eq 12, 3) := by decide +kernel
theorem dX0_ask_38 : decode cX0_ask 38 = .ok (.aload_n 0, 1) := by decide +kernel
theorem dX0_ask_39 : decode cX0_ask 39 = .ok (.iload 5, 2) := by decide +kernel
theorem dX0_ask_41 : decode cX0_ask 41 = .ok (.invokevirtual 46, 3) := by decide +kernel
theorem dX0_ask_44 : decode cX0_ask 44 = .ok (.ifCond .ne 5, 3) := by decide +kernel
theorem dX0_ask_47 : decode cX0_ask 47 = .ok (.iconst (-1), 1) := by decide +kernel
theorem dX0_ask_48 : decode cX0_ask 48 = .ok (.ireturn, 1) := by decide +kernel
theorem dX0_ask_49 : decode cX0_ask 49 = .ok (.aload_n 0, 1) := by decide +kernel
theorem dX0_ask_50 : decode cX0_ask 50 = .ok (.iload_n 1, 1) := by decide +kernel
theorem dX0_ask_51 : decode cX0_ask 51 = .ok (.iload_n 2, 1) := by decide +kernel
theorem dX0_ask_52 : decode cX0_ask 52 = .ok (.iload 4, 2) := by decide +kernel
theorem dX0_ask_54 : decode cX0_ask 54 = .ok (.iload 5, 2) := by decide +kernel
theorem dX0_ask_56 : decode cX0_ask 56 = .ok (.invokevirtual 84, 3) := by decide +kernel
theorem dX0_ask_59 : decode cX0_ask 59 = .ok (.istore 6, 2) := by decide +kernel
theorem dX0_ask_61 : decode cX0_ask 61 = .ok (.iload_n 3, 1) := by decide +kernel
theorem dX0_ask_62 : decode cX0_ask 62 = .ok (.tableswitch 92 0 4 #[34, 40, 54, 65, 78], 34) := by decide +kernel
theorem dX0_ask_96 : decode cX0_ask 96 = .ok (.iload 6, 2) := by decide +kernel
theorem dX0_ask_98 : decode cX0_ask 98 = .ok (.invokestatic 67, 3) := by decide +kernel
theorem dX0_ask_101 : decode cX0_ask 101 = .ok (.ireturn, 1) := by decide +kernel
theorem dX0_ask_102 : decode cX0_ask 102 = .ok (.iload 6, 2) := by decide +kernel
theorem dX0_ask_104 : decode cX0_ask 104 = .ok (.ifCond .ne 7, 3) := by decide +kernel
theorem dX0_ask_107 : decode cX0_ask 107 = .ok (.iconst 1, 1) := by decide +kernel
theorem dX0_ask_108 : decode cX0_ask 108 = .ok (.goto 4, 3) := by decide +kernel
theorem dX0_ask_111 : decode cX0_ask 111 = .ok (.iconst 0, 1) := by decide +kernel
theorem dX0_ask_112 : decode cX0_ask 112 = .ok (.invokestatic 67, 3) := by decide +kernel
theorem dX0_ask_115 : decode cX0_ask 115 = .ok (.ireturn, 1) := by decide +kernel
theorem dX0_ask_116 : decode cX0_ask 116 = .ok (.aload_n 0, 1) := by decide +kernel
theorem dX0_ask_117 : decode cX0_ask 117 = .ok (.iload_n 1, 1) := by decide +kernel
theorem dX0_ask_118 : decode cX0_ask 118 = .ok (.iload_n 2, 1) := by decide +kernel
theorem dX0_ask_119 : decode cX0_ask 119 = .ok (.iload 4, 2) := by decide +kernel
theorem dX0_ask_121 : decode cX0_ask 121 = .ok (.iload 5, 2) := by decide +kernel
theorem dX0_ask_123 : decode cX0_ask 123 = .ok (.invokevirtual 88, 3) := by decide +kernel
theorem dX0_ask_126 : decode cX0_ask 126 = .ok (.ireturn, 1) := by decide +kernel
theorem dX0_ask_127 : decode cX0_ask 127 = .ok (.iload 6, 2) := by decide +kernel
theorem dX0_ask_129 : decode cX0_ask 129 = .ok (.ifCond .eq 8, 3) := by decide +kernel
theorem dX0_ask_132 : decode cX0_ask 132 = .ok (.iload 4, 2) := by decide +kernel
theorem dX0_ask_134 : decode cX0_ask 134 = .ok (.goto 5, 3) := by decide +kernel
theorem dX0_ask_137 : decode cX0_ask 137 = .ok (.iload 5, 2) := by decide +kernel
theorem dX0_ask_139 : decode cX0_ask 139 = .ok (.ireturn, 1) := by decide +kernel
theorem dX0_ask_140 : decode cX0_ask 140 = .ok (.aload_n 0, 1) := by decide +kernel
theorem dX0_ask_141 : decode cX0_ask 141 = .ok (.getfield 22, 3) := by decide +kernel
theorem dX0_ask_144 : decode cX0_ask 144 = .ok (.iload 4, 2) := by decide +kernel
theorem dX0_ask_146 : decode cX0_ask 146 = .ok (.iload 6, 2) := by decide +kernel
theorem dX0_ask_148 : decode cX0_ask 148 = .ok (.bastore, 1) := by decide +kernel
theorem dX0_ask_149 : decode cX0_ask 149 = .ok (.aload_n 0, 1) := by decide +kernel
theorem dX0_ask_150 : decode cX0_ask 150 = .ok (.invokevirtual 92, 3) := by decide +kernel
theorem dX0_ask_153 : decode cX0_ask 153 = .ok (.ireturn, 1) := by decide +kernel
theorem dX0_ask_154 : decode cX0_ask 154 = .ok (.iload 6, 2) := by decide +kernel
theorem dX0_ask_156 : decode cX0_ask 156 = .ok (.aload_n 0, 1) := by decide +kernel
theorem dX0_ask_157 : decode cX0_ask 157 = .ok (.iload_n 1, 1) := by decide +kernel
theorem dX0_ask_158 : decode cX0_ask 158 = .ok (.iload_n 2, 1) := by decide +kernel
theorem dX0_ask_159 : decode cX0_ask 159 = .ok (.iload 5, 2) := by decide +kernel
theorem dX0_ask_161 : decode cX0_ask 161 = .ok (.iload 4, 2) := by decide +kernel
theorem dX0_ask_163 : decode cX0_ask 163 = .ok (.invokevirtual 84, 3) := by decide +kernel
theorem dX0_ask_166 : decode cX0_ask 166 = .ok (.invokestatic 96, 3) := by decide +kernel
theorem dX0_ask_169 : decode cX0_ask 169 = .ok (.ireturn, 1) := by decide +kernel
set_option maxRecDepth 20000 in
theorem ggX0_count_X0_trialsOfAll : GoodIn wsX0_count wsX0_trialsOfAll := goodIn_r _ [9, 1, 10, 33, 34, 35, 36, 37, 38, 39, 40, 41] (by decide +kernel) (by decide +kernel)
set_option maxRecDepth 20000 in
theorem gX0_count_X0_trialsOfAll : GoodIn wsX0_count (wsV RX0 100 RX0 yX0_trialsOfAll wsX0_trialsOfAll) := goodIn_app (goodIn_of _ (by decide +kernel)) ggX0_count_X0_trialsOfAll
set_option maxRecDepth 20000 in
theorem ggX0_count_X0_sealsOn : GoodIn wsX0_count wsX0_sealsOn := goodIn_r _ [14, 1, 15, 16, 17, 8, 18, 33, 34, 35, 36, 37, 38, 39, 40, 41] (by decide +kernel) (by decide +kernel)
set_option maxRecDepth 20000 in
theorem gX0_count_X0_sealsOn : GoodIn wsX0_count (wsV RX0 92 RX0 yX0_sealsOn wsX0_sealsOn) := goodIn_app (goodIn_of _ (by decide +kernel)) ggX0_count_X0_sealsOn
set_option maxRecDepth 20000 in
theorem ggX0_count_X0_firstOfTheBest : GoodIn wsX0_count wsX0_firstOfTheBest := goodIn_r _ [22, 1, 23, 24, 25, 8, 26, 27, 28, 29, 30, 31, 32, 33, 34, 35, 36, 37, 38, 39, 40, 41] (by decide +kernel) (by decide +kernel)
set_option maxRecDepth 20000 in
theorem gX0_count_X0_firstOfTheBest : GoodIn wsX0_count (wsV RX0 103 RX0 yX0_firstOfTheBest wsX0_firstOfTheBest) := goodIn_app (goodIn_of _ (by decide +kernel)) ggX0_count_X0_firstOfTheBest
theorem dX0_count_0 : decode cX0_count 0 = .ok (.iload_n 1, 1) := by decide +kernel
theorem dX0_count_1 : decode cX0_count 1 = .ok (.tableswitch 78 0 6 #[43, 48, 53, 58, 63, 68, 73], 43) := by decide +kernel
theorem dX0_count_44 : decode cX0_count 44 = .ok (.aload_n 0, 1) := by decide +kernel
theorem dX0_count_45 : decode cX0_count 45 = .ok (.getfield 26, 3) := by decide +kernel
theorem dX0_count_48 : decode cX0_count 48 = .ok (.ireturn, 1) := by decide +kernel
theorem dX0_count_49 : decode cX0_count 49 = .ok (.aload_n 0, 1) := by decide +kernel
theorem dX0_count_50 : decode cX0_count 50 = .ok (.getfield 33, 3) := by decide +kernel
theorem dX0_count_53 : decode cX0_count 53 = .ok (.ireturn, 1) := by decide +kernel
theorem dX0_count_54 : decode cX0_count 54 = .ok (.aload_n 0, 1) := by decide +kernel
theorem dX0_count_55 : decode cX0_count 55 = .ok (.getfield 30, 3) := by decide +kernel
theorem dX0_count_58 : decode cX0_count 58 = .ok (.ireturn, 1) := by decide +kernel
theorem dX0_count_59 : decode cX0_count 59 = .ok (.aload_n 0, 1) := by decide +kernel
theorem dX0_count_60 : decode cX0_count 60 = .ok (.getfield 36, 3) := by decide +kernel
theorem dX0_count_63 : decode cX0_count 63 = .ok (.ireturn, 1) := by decide +kernel
theorem dX0_count_64 : decode cX0_count 64 = .ok (.aload_n 0, 1) := by decide +kernel
theorem dX0_count_65 : decode cX0_count 65 = .ok (.invokevirtual 100, 3) := by decide +kernel
theorem dX0_count_68 : decode cX0_count 68 = .ok (.ireturn, 1) := by decide +kernel
theorem dX0_count_69 : decode cX0_count 69 = .ok (.aload_n 0, 1) := by decide +kernel
theorem dX0_count_70 : decode cX0_count 70 = .ok (.invokevirtual 92, 3) := by decide +kernel
theorem dX0_count_73 : decode cX0_count 73 = .ok (.ireturn, 1) := by decide +kernel
theorem dX0_count_74 : decode cX0_count 74 = .ok (.aload_n 0, 1) := by decide +kernel
theorem dX0_count_75 : decode cX0_count 75 = .ok (.invokevirtual 103, 3) := by decide +kernel
theorem dX0_count_78 : decode cX0_count 78 = .ok (.ireturn, 1) := by decide +kernel
theorem dX0_count_79 : decode cX0_count 79 = .ok (.iconst (-1), 1) := by decide +kernel
theorem dX0_count_80 : decode cX0_count 80 = .ok (.ireturn, 1) := by decide +kernel
theorem dX0_isClock_0 : decode cX0_isClock 0 = .ok (.iload_n 1, 1) := by decide +kernel
theorem dX0_isClock_1 : decode cX0_isClock 1 = .ok (.ifCond .lt 15, 3) := by decide +kernel
theorem dX0_isClock_4 : decode cX0_isClock 4 = .ok (.iload_n 1, 1) := by decide +kernel
theorem dX0_isClock_5 : decode cX0_isClock 5 = .ok (.aload_n 0, 1) := by decide +kernel
theorem dX0_isClock_6 : decode cX0_isClock 6 = .ok (.getfield 26, 3) := by decide +kernel
theorem dX0_isClock_9 : decode cX0_isClock 9 = .ok (.if_icmp .ge 7, 3) := by decide +kernel
theorem dX0_isClock_12 : decode cX0_isClock 12 = .ok (.iconst 1, 1) := by decide +kernel
theorem dX0_isClock_13 : decode cX0_isClock 13 = .ok (.goto 4, 3) := by decide +kernel
theorem dX0_isClock_16 : decode cX0_isClock 16 = .ok (.iconst 0, 1) := by decide +kernel
theorem dX0_isClock_17 : decode cX0_isClock 17 = .ok (.ireturn, 1) := by decide +kernel
set_option maxRecDepth 20000 in
theorem ggX0_isRate_X0_isWithin : GoodIn wsX0_isRate wsX0_isWithin := goodIn_r _ [4] (by decide +kernel) (by decide +kernel)
set_option maxRecDepth 20000 in
theorem gX0_isRate_X0_isWithin : GoodIn wsX0_isRate (va_wsS RX0 80 yX0_isWithin wsX0_isWithin) := goodIn_app (goodIn_of _ (by decide +kernel)) ggX0_isRate_X0_isWithin
theorem dX0_isRate_0 : decode cX0_isRate 0 = .ok (.iload_n 0, 1) := by decide +kernel
theorem dX0_isRate_1 : decode cX0_isRate 1 = .ok (.iconst (-1), 1) := by decide +kernel
theorem dX0_isRate_2 : decode cX0_isRate 2 = .ok (.if_icmp .eq 14, 3) := by decide +kernel
theorem dX0_isRate_5 : decode cX0_isRate 5 = .ok (.iload_n 0, 1) := by decide +kernel
theorem dX0_isRate_6 : decode cX0_isRate 6 = .ok (.iconst 0, 1) := by decide +kernel
theorem dX0_isRate_7 : decode cX0_isRate 7 = .ok (.sipush 999, 3) := by decide +kernel
theorem dX0_isRate_10 : decode cX0_isRate 10 = .ok (.invokestatic 80, 3) := by decide +kernel
theorem dX0_isRate_13 : decode cX0_isRate 13 = .ok (.ifCond .eq 7, 3) := by decide +kernel
theorem dX0_isRate_16 : decode cX0_isRate 16 = .ok (.iconst 1, 1) := by decide +kernel
theorem dX0_isRate_17 : decode cX0_isRate 17 = .ok (.goto 4, 3) := by decide +kernel
theorem dX0_isRate_20 : decode cX0_isRate 20 = .ok (.iconst 0, 1) := by decide +kernel
theorem dX0_isRate_21 : decode cX0_isRate 21 = .ok (.ireturn, 1) := by decide +kernel
set_option maxRecDepth 20000 in
theorem ggX0_isChill_X0_isWithin : GoodIn wsX0_isChill wsX0_isWithin := goodIn_r _ [4] (by decide +kernel) (by decide +kernel)
set_option maxRecDepth 20000 in
theorem gX0_isChill_X0_isWithin : GoodIn wsX0_isChill (va_wsS RX0 80 yX0_isWithin wsX0_isWithin) := goodIn_app (goodIn_of _ (by decide +kernel)) ggX0_isChill_X0_isWithin
theorem dX0_isChill_0 : decode cX0_isChill 0 = .ok (.iload_n 0, 1) := by decide +kernel
theorem dX0_isChill_1 : decode cX0_isChill 1 = .ok (.bipush 100, 2) := by decide +kernel
theorem dX0_isChill_3 : decode cX0_isChill 3 = .ok (.if_icmp .eq 14, 3) := by decide +kernel
theorem dX0_isChill_6 : decode cX0_isChill 6 = .ok (.iload_n 0, 1) := by decide +kernel
theorem dX0_isChill_7 : decode cX0_isChill 7 = .ok (.bipush (-99), 2) := by decide +kernel
theorem dX0_isChill_9 : decode cX0_isChill 9 = .ok (.bipush 99, 2) := by decide +kernel
theorem dX0_isChill_11 : decode cX0_isChill 11 = .ok (.invokestatic 80, 3) := by decide +kernel
theorem dX0_isChill_14 : decode cX0_isChill 14 = .ok (.ifCond .eq 7, 3) := by decide +kernel
theorem dX0_isChill_17 : decode cX0_isChill 17 = .ok (.iconst 1, 1) := by decide +kernel
theorem dX0_isChill_18 : decode cX0_isChill 18 = .ok (.goto 4, 3) := by decide +kernel
theorem dX0_isChill_21 : decode cX0_isChill 21 = .ok (.iconst 0, 1) := by decide +kernel
theorem dX0_isChill_22 : decode cX0_isChill 22 = .ok (.ireturn, 1) := by decide +kernel
theorem dX0_isWithin_0 : decode cX0_isWithin 0 = .ok (.iload_n 0, 1) := by decide +kernel
theorem dX0_isWithin_1 : decode cX0_isWithin 1 = .ok (.iload_n 1, 1) := by decide +kernel
theorem dX0_isWithin_2 : decode cX0_isWithin 2 = .ok (.if_icmp .lt 12, 3) := by decide +kernel
theorem dX0_isWithin_5 : decode cX0_isWithin 5 = .ok (.iload_n 0, 1) := by decide +kernel
theorem dX0_isWithin_6 : decode cX0_isWithin 6 = .ok (.iload_n 2, 1) := by decide +kernel
theorem dX0_isWithin_7 : decode cX0_isWithin 7 = .ok (.if_icmp .gt 7, 3) := by decide +kernel
theorem dX0_isWithin_10 : decode cX0_isWithin 10 = .ok (.iconst 1, 1) := by decide +kernel
theorem dX0_isWithin_11 : decode cX0_isWithin 11 = .ok (.goto 4, 3) := by decide +kernel
theorem dX0_isWithin_14 : decode cX0_isWithin 14 = .ok (.iconst 0, 1) := by decide +kernel
theorem dX0_isWithin_15 : decode cX0_isWithin 15 = .ok (.ireturn, 1) := by decide +kernel
theorem dX0_oneIf_0 : decode cX0_oneIf 0 = .ok (.iload_n 0, 1) := by decide +kernel
theorem dX0_oneIf_1 : decode cX0_oneIf 1 = .ok (.ifCond .eq 7, 3) := by decide +kernel
theorem dX0_oneIf_4 : decode cX0_oneIf 4 = .ok (.iconst 1, 1) := by decide +kernel
theorem dX0_oneIf_5 : decode cX0_oneIf 5 = .ok (.goto 4, 3) := by decide +kernel
theorem dX0_oneIf_8 : decode cX0_oneIf 8 = .ok (.iconst 0, 1) := by decide +kernel
theorem dX0_oneIf_9 : decode cX0_oneIf 9 = .ok (.ireturn, 1) := by decide +kernel
theorem dX0_slot_0 : decode cX0_slot 0 = .ok (.iload_n 0, 1) := by decide +kernel
theorem dX0_slot_1 : decode cX0_slot 1 = .ok (.bipush 6, 2) := by decide +kernel
theorem dX0_slot_3 : decode cX0_slot 3 = .ok (.imul, 1) := by decide +kernel
theorem dX0_slot_4 : decode cX0_slot 4 = .ok (.iload_n 1, 1) := by decide +kernel
theorem dX0_slot_5 : decode cX0_slot 5 = .ok (.iadd, 1) := by decide +kernel
theorem dX0_slot_6 : decode cX0_slot 6 = .ok (.ireturn, 1) := by decide +kernel
set_option maxRecDepth 20000 in
theorem ggX0_holdsOfRates_X0_holdsOfNumbers : GoodIn wsX0_holdsOfRates wsX0_holdsOfNumbers := goodIn_r _ [4] (by decide +kernel) (by decide +kernel)
set_option maxRecDepth 20000 in
theorem gX0_holdsOfRates_X0_holdsOfNumbers : GoodIn wsX0_holdsOfRates (va_wsS RX0 106 yX0_holdsOfNumbers wsX0_holdsOfNumbers) := goodIn_app (goodIn_of _ (by decide +kernel)) ggX0_holdsOfRates_X0_holdsOfNumbers
theorem dX0_holdsOfRates_0 : decode cX0_holdsOfRates 0 = .ok (.iload_n 1, 1) := by decide +kernel
theorem dX0_holdsOfRates_1 : decode cX0_holdsOfRates 1 = .ok (.iconst (-1), 1) := by decide +kernel
theorem dX0_holdsOfRates_2 : decode cX0_holdsOfRates 2 = .ok (.if_icmp .eq 8, 3) := by decide +kernel
theorem dX0_holdsOfRates_5 : decode cX0_holdsOfRates 5 = .ok (.iload_n 2, 1) := by decide +kernel
theorem dX0_holdsOfRates_6 : decode cX0_holdsOfRates 6 = .ok (.iconst (-1), 1) := by decide +kernel
theorem dX0_holdsOfRates_7 : decode cX0_holdsOfRates 7 = .ok (.if_icmp .ne 14, 3) := by decide +kernel
theorem dX0_holdsOfRates_10 : decode cX0_holdsOfRates 10 = .ok (.iload_n 0, 1) := by decide +kernel
theorem dX0_holdsOfRates_11 : decode cX0_holdsOfRates 11 = .ok (.iconst 5, 1) := by decide +kernel
theorem dX0_holdsOfRates_12 : decode cX0_holdsOfRates 12 = .ok (.if_icmp .ne 7, 3) := by decide +kernel
theorem dX0_holdsOfRates_15 : decode cX0_holdsOfRates 15 = .ok (.iconst 1, 1) := by decide +kernel
theorem dX0_holdsOfRates_16 : decode cX0_holdsOfRates 16 = .ok (.goto 4, 3) := by decide +kernel
theorem dX0_holdsOfRates_19 : decode cX0_holdsOfRates 19 = .ok (.iconst 0, 1) := by decide +kernel
theorem dX0_holdsOfRates_20 : decode cX0_holdsOfRates 20 = .ok (.ireturn, 1) := by decide +kernel
theorem dX0_holdsOfRates_21 : decode cX0_holdsOfRates 21 = .ok (.iload_n 0, 1) := by decide +kernel
theorem dX0_holdsOfRates_22 : decode cX0_holdsOfRates 22 = .ok (.iload_n 1, 1) := by decide +kernel
theorem dX0_holdsOfRates_23 : decode cX0_holdsOfRates 23 = .ok (.iload_n 2, 1) := by decide +kernel
theorem dX0_holdsOfRates_24 : decode cX0_holdsOfRates 24 = .ok (.invokestatic 106, 3) := by decide +kernel
theorem dX0_holdsOfRates_27 : decode cX0_holdsOfRates 27 = .ok (.ireturn, 1) := by decide +kernel
set_option maxRecDepth 20000 in
theorem ggX0_holdsOfChills_X0_holdsOfNumbers : GoodIn wsX0_holdsOfChills wsX0_holdsOfNumbers := goodIn_r _ [4] (by decide +kernel) (by decide +kernel)
set_option maxRecDepth 20000 in
theorem gX0_holdsOfChills_X0_holdsOfNumbers : GoodIn wsX0_holdsOfChills (va_wsS RX0 106 yX0_holdsOfNumbers wsX0_holdsOfNumbers) := goodIn_app (goodIn_of _ (by decide +kernel)) ggX0_holdsOfChills_X0_holdsOfNumbers
theorem dX0_holdsOfChills_0 : decode cX0_holdsOfChills 0 = .ok (.iload_n 1, 1) := by decide +kernel
theorem dX0_holdsOfChills_1 : decode cX0_holdsOfChills 1 = .ok (.bipush 100, 2) := by decide +kernel
theorem dX0_holdsOfChills_3 : decode cX0_holdsOfChills 3 = .ok (.if_icmp .eq 9, 3) := by decide +kernel
theorem dX0_holdsOfChills_6 : decode cX0_holdsOfChills 6 = .ok (.iload_n 2, 1) := by decide +kernel
theorem dX0_holdsOfChills_7 : decode cX0_holdsOfChills 7 = .ok (.bipush 100, 2) := by decide +kernel
theorem dX0_holdsOfChills_9 : decode cX0_holdsOfChills 9 = .ok (.if_icmp .ne 14, 3) := by decide +kernel
theorem dX0_holdsOfChills_12 : decode cX0_holdsOfChills 12 = .ok (.iload_n 0, 1) := by decide +kernel
theorem dX0_holdsOfChills_13 : decode cX0_holdsOfChills 13 = .ok (.iconst 5, 1) := by decide +kernel
theorem dX0_holdsOfChills_14 : decode cX0_holdsOfChills 14 = .ok (.if_icmp .ne 7, 3) := by decide +kernel
theorem dX0_holdsOfChills_17 : decode cX0_holdsOfChills 17 = .ok (.iconst 1, 1) := by decide +kernel
theorem dX0_holdsOfChills_18 : decode cX0_holdsOfChills 18 = .ok (.goto 4, 3) := by decide +kernel
theorem dX0_holdsOfChills_21 : decode cX0_holdsOfChills 21 = .ok (.iconst 0, 1) := by decide +kernel
theorem dX0_holdsOfChills_22 : decode cX0_holdsOfChills 22 = .ok (.ireturn, 1) := by decide +kernel
theorem dX0_holdsOfChills_23 : decode cX0_holdsOfChills 23 = .ok (.iload_n 0, 1) := by decide +kernel
theorem dX0_holdsOfChills_24 : decode cX0_holdsOfChills 24 = .ok (.iload_n 1, 1) := by decide +kernel
theorem dX0_holdsOfChills_25 : decode cX0_holdsOfChills 25 = .ok (.iload_n 2, 1) := by decide +kernel
theorem dX0_holdsOfChills_26 : decode cX0_holdsOfChills 26 = .ok (.invokestatic 106, 3) := by decide +kernel
theorem dX0_holdsOfChills_29 : decode cX0_holdsOfChills 29 = .ok (.ireturn, 1) := by decide +kernel
theorem dX0_holdsOfNumbers_0 : decode cX0_holdsOfNumbers 0 = .ok (.iload_n 0, 1) := by decide +kernel
theorem dX0_holdsOfNumbers_1 : decode cX0_holdsOfNumbers 1 = .ok (.tableswitch 90 0 4 #[35, 46, 57, 68, 79], 35) := by decide +kernel
theorem dX0_holdsOfNumbers_36 : decode cX0_holdsOfNumbers 36 = .ok (.iload_n 1, 1) := by decide +kernel
theorem dX0_holdsOfNumbers_37 : decode cX0_holdsOfNumbers 37 = .ok (.iload_n 2, 1) := by decide +kernel
theorem dX0_holdsOfNumbers_38 : decode cX0_holdsOfNumbers 38 = .ok (.if_icmp .ge 7, 3) := by decide +kernel
theorem dX0_holdsOfNumbers_41 : decode cX0_holdsOfNumbers 41 = .ok (.iconst 1, 1) := by decide +kernel
theorem dX0_holdsOfNumbers_42 : decode cX0_holdsOfNumbers 42 = .ok (.goto 4, 3) := by decide +kernel
theorem dX0_holdsOfNumbers_45 : decode cX0_holdsOfNumbers 45 = .ok (.iconst 0, 1) := by decide +kernel
theorem dX0_holdsOfNumbers_46 : decode cX0_holdsOfNumbers 46 = .ok (.ireturn, 1) := by decide +kernel
theorem dX0_holdsOfNumbers_47 : decode cX0_holdsOfNumbers 47 = .ok (.iload_n 1, 1) := by decide +kernel
theorem dX0_holdsOfNumbers_48 : decode cX0_holdsOfNumbers 48 = .ok (.iload_n 2, 1) := by decide +kernel
theorem dX0_holdsOfNumbers_49 : decode cX0_holdsOfNumbers 49 = .ok (.if_icmp .gt 7, 3) := by decide +kernel
theorem dX0_holdsOfNumbers_52 : decode cX0_holdsOfNumbers 52 = .ok (.iconst 1, 1) := by decide +kernel
theorem dX0_holdsOfNumbers_53 : decode cX0_holdsOfNumbers 53 = .ok (.goto 4, 3) := by decide +kernel
theorem dX0_holdsOfNumbers_56 : decode cX0_holdsOfNumbers 56 = .ok (.iconst 0, 1) := by decide +kernel
theorem dX0_holdsOfNumbers_57 : decode cX0_holdsOfNumbers 57 = .ok (.ireturn, 1) := by decide +kernel
theorem dX0_holdsOfNumbers_58 : decode cX0_holdsOfNumbers 58 = .ok (.iload_n 1, 1) := by decide +kernel
theorem dX0_holdsOfNumbers_59 : decode cX0_holdsOfNumbers 59 = .ok (.iload_n 2, 1) := by decide +kernel
theorem dX0_holdsOfNumbers_60 : decode cX0_holdsOfNumbers 60 = .ok (.if_icmp .le 7, 3) := by decide +kernel
theorem dX0_holdsOfNumbers_63 : decode cX0_holdsOfNumbers 63 = .ok (.iconst 1, 1) := by decide +kernel
theorem dX0_holdsOfNumbers_64 : decode cX0_holdsOfNumbers 64 = .ok (.goto 4, 3) := by decide +kernel
theorem dX0_holdsOfNumbers_67 : decode cX0_holdsOfNumbers 67 = .ok (.iconst 0, 1) := by decide +kernel
theorem dX0_holdsOfNumbers_68 : decode cX0_holdsOfNumbers 68 = .ok (.ireturn, 1) := by decide +kernel
theorem dX0_holdsOfNumbers_69 : decode cX0_holdsOfNumbers 69 = .ok (.iload_n 1, 1) := by decide +kernel
theorem dX0_holdsOfNumbers_70 : decode cX0_holdsOfNumbers 70 = .ok (.iload_n 2, 1) := by decide +kernel
theorem dX0_holdsOfNumbers_71 : decode cX0_holdsOfNumbers 71 = .ok (.if_icmp .lt 7, 3) := by decide +kernel
theorem dX0_holdsOfNumbers_74 : decode cX0_holdsOfNumbers 74 = .ok (.iconst 1, 1) := by decide +kernel
theorem dX0_holdsOfNumbers_75 : decode cX0_holdsOfNumbers 75 = .ok (.goto 4, 3) := by decide +kernel
theorem dX0_holdsOfNumbers_78 : decode cX0_holdsOfNumbers 78 = .ok (.iconst 0, 1) := by decide +kernel
theorem dX0_holdsOfNumbers_79 : decode cX0_holdsOfNumbers 79 = .ok (.ireturn, 1) := by decide +kernel
theorem dX0_holdsOfNumbers_80 : decode cX0_holdsOfNumbers 80 = .ok (.iload_n 1, 1) := by decide +kernel
theorem dX0_holdsOfNumbers_81 : decode cX0_holdsOfNumbers 81 = .ok (.iload_n 2, 1) := by decide +kernel
theorem dX0_holdsOfNumbers_82 : decode cX0_holdsOfNumbers 82 = .ok (.if_icmp .ne 7, 3) := by decide +kernel
theorem dX0_holdsOfNumbers_85 : decode cX0_holdsOfNumbers 85 = .ok (.iconst 1, 1) := by decide +kernel
theorem dX0_holdsOfNumbers_86 : decode cX0_holdsOfNumbers 86 = .ok (.goto 4, 3) := by decide +kernel
theorem dX0_holdsOfNumbers_89 : decode cX0_holdsOfNumbers 89 = .ok (.iconst 0, 1) := by decide +kernel
theorem dX0_holdsOfNumbers_90 : decode cX0_holdsOfNumbers 90 = .ok (.ireturn, 1) := by decide +kernel
theorem dX0_holdsOfNumbers_91 : decode cX0_holdsOfNumbers 91 = .ok (.iload_n 1, 1) := by decide +kernel
theorem dX0_holdsOfNumbers_92 : decode cX0_holdsOfNumbers 92 = .ok (.iload_n 2, 1) := by decide +kernel
theorem dX0_holdsOfNumbers_93 : decode cX0_holdsOfNumbers 93 = .ok (.if_icmp .eq 7, 3) := by decide +kernel
theorem dX0_holdsOfNumbers_96 : decode cX0_holdsOfNumbers 96 = .ok (.iconst 1, 1) := by decide +kernel
theorem dX0_holdsOfNumbers_97 : decode cX0_holdsOfNumbers 97 = .ok (.goto 4, 3) := by decide +kernel
theorem dX0_holdsOfNumbers_100 : decode cX0_holdsOfNumbers 100 = .ok (.iconst 0, 1) := by decide +kernel
theorem dX0_holdsOfNumbers_101 : decode cX0_holdsOfNumbers 101 = .ok (.ireturn, 1) := by decide +kernel
set_option maxRecDepth 20000 in
theorem ggX0_holdsOfClocks_X0_holdsOfRates : GoodIn wsX0_holdsOfClocks wsX0_holdsOfRates := goodIn_r _ [5, 6, 7, 4, 8] (by decide +kernel) (by decide +kernel)
set_option maxRecDepth 20000 in
theorem gX0_holdsOfClocks_X0_holdsOfRates : GoodIn wsX0_holdsOfClocks (va_wsS RX0 109 yX0_holdsOfRates wsX0_holdsOfRates) := goodIn_app (goodIn_of _ (by decide +kernel)) ggX0_holdsOfClocks_X0_holdsOfRates
set_option maxRecDepth 20000 in
theorem ggX0_holdsOfClocks_X0_latestChill : GoodIn wsX0_holdsOfClocks wsX0_latestChill := goodIn_r _ [12, 13, 14, 15, 16, 4, 17, 21, 22, 23, 24, 25, 26, 27, 28, 29] (by decide +kernel) (by decide +kernel)
set_option maxRecDepth 20000 in
theorem gX0_holdsOfClocks_X0_latestChill : GoodIn wsX0_holdsOfClocks (wsV RX0 77 RX0 yX0_latestChill wsX0_latestChill) := goodIn_app (goodIn_of _ (by decide +kernel)) ggX0_holdsOfClocks_X0_latestChill
set_option maxRecDepth 20000 in
theorem ggX0_holdsOfClocks_X0_holdsOfChills : GoodIn wsX0_holdsOfClocks wsX0_holdsOfChills := goodIn_r _ [20, 6, 7, 4, 8] (by decide +kernel) (by decide +kernel)
set_option maxRecDepth 20000 in
theorem gX0_holdsOfClocks_X0_holdsOfChills : GoodIn wsX0_holdsOfClocks (va_wsS RX0 112 yX0_holdsOfChills wsX0_holdsOfChills) := goodIn_app (goodIn_of _ (by decide +kernel)) ggX0_holdsOfClocks_X0_holdsOfChills
theorem dX0_holdsOfClocks_0 : decode cX0_holdsOfClocks 0 = .ok (.iload_n 1, 1) := by decide +kernel
theorem dX0_holdsOfClocks_1 : decode cX0_holdsOfClocks 1 = .ok (.ifCond .ne 21, 3) := by decide +kernel
theorem dX0_holdsOfClocks_4 : decode cX0_holdsOfClocks 4 = .ok (.iload_n 2, 1) := by decide +kernel
theorem dX0_holdsOfClocks_5 : decode cX0_holdsOfClocks 5 = .ok (.aload_n 0, 1) := by decide +kernel
theorem dX0_holdsOfClocks_6 : decode cX0_holdsOfClocks 6 = .ok (.getfield 19, 3) := by decide +kernel
theorem dX0_holdsOfClocks_9 : decode cX0_holdsOfClocks 9 = .ok (.iload_n 3, 1) := by decide +kernel
theorem dX0_holdsOfClocks_10 : decode cX0_holdsOfClocks 10 = .ok (.iaload, 1) := by decide +kernel
theorem dX0_holdsOfClocks_11 : decode cX0_holdsOfClocks 11 = .ok (.aload_n 0, 1) := by decide +kernel
theorem dX0_holdsOfClocks_12 : decode cX0_holdsOfClocks 12 = .ok (.getfield 19, 3) := by decide +kernel
theorem dX0_holdsOfClocks_15 : decode cX0_holdsOfClocks 15 = .ok (.iload 4, 2) := by decide +kernel
theorem dX0_holdsOfClocks_17 : decode cX0_holdsOfClocks 17 = .ok (.iaload, 1) := by decide +kernel
theorem dX0_holdsOfClocks_18 : decode cX0_holdsOfClocks 18 = .ok (.invokestatic 109, 3) := by decide +kernel
theorem dX0_holdsOfClocks_21 : decode cX0_holdsOfClocks 21 = .ok (.ireturn, 1) := by decide +kernel
theorem dX0_holdsOfClocks_22 : decode cX0_holdsOfClocks 22 = .ok (.iload_n 2, 1) := by decide +kernel
theorem dX0_holdsOfClocks_23 : decode cX0_holdsOfClocks 23 = .ok (.aload_n 0, 1) := by decide +kernel
theorem dX0_holdsOfClocks_24 : decode cX0_holdsOfClocks 24 = .ok (.iload_n 3, 1) := by decide +kernel
theorem dX0_holdsOfClocks_25 : decode cX0_holdsOfClocks 25 = .ok (.invokevirtual 77, 3) := by decide +kernel
theorem dX0_holdsOfClocks_28 : decode cX0_holdsOfClocks 28 = .ok (.aload_n 0, 1) := by decide +kernel
theorem dX0_holdsOfClocks_29 : decode cX0_holdsOfClocks 29 = .ok (.iload 4, 2) := by decide +kernel
theorem dX0_holdsOfClocks_31 : decode cX0_holdsOfClocks 31 = .ok (.invokevirtual 77, 3) := by decide +kernel
theorem dX0_holdsOfClocks_34 : decode cX0_holdsOfClocks 34 = .ok (.invokestatic 112, 3) := by decide +kernel
theorem dX0_holdsOfClocks_37 : decode cX0_holdsOfClocks 37 = .ok (.ireturn, 1) := by decide +kernel
set_option maxRecDepth 20000 in
theorem ggX0_isCold_X0_holdsOfChills : GoodIn wsX0_isCold wsX0_holdsOfChills := goodIn_r _ [5, 6, 7, 4, 8] (by decide +kernel) (by decide +kernel)
set_option maxRecDepth 20000 in
theorem gX0_isCold_X0_holdsOfChills : GoodIn wsX0_isCold (va_wsS RX0 112 yX0_holdsOfChills wsX0_holdsOfChills) := goodIn_app (goodIn_of _ (by decide +kernel)) ggX0_isCold_X0_holdsOfChills
theorem dX0_isCold_0 : decode cX0_isCold 0 = .ok (.iconst 1, 1) := by decide +kernel
theorem dX0_isCold_1 : decode cX0_isCold 1 = .ok (.iload_n 1, 1) := by decide +kernel
theorem dX0_isCold_2 : decode cX0_isCold 2 = .ok (.aload_n 0, 1) := by decide +kernel
theorem dX0_isCold_3 : decode cX0_isCold 3 = .ok (.getfield 36, 3) := by decide +kernel
theorem dX0_isCold_6 : decode cX0_isCold 6 = .ok (.invokestatic 112, 3) := by decide +kernel
theorem dX0_isCold_9 : decode cX0_isCold 9 = .ok (.ireturn, 1) := by decide +kernel
set_option maxRecDepth 20000 in
theorem ggX0_betters_X0_holdsOfRates : GoodIn wsX0_betters wsX0_holdsOfRates := goodIn_r _ [4, 5, 6, 3, 7] (by decide +kernel) (by decide +kernel)
set_option maxRecDepth 20000 in
theorem gX0_betters_X0_holdsOfRates : GoodIn wsX0_betters (va_wsS RX0 109 yX0_holdsOfRates wsX0_holdsOfRates) := goodIn_app (goodIn_of _ (by decide +kernel)) ggX0_betters_X0_holdsOfRates
theorem dX0_betters_0 : decode cX0_betters 0 = .ok (.iload_n 0, 1) := by decide +kernel
theorem dX0_betters_1 : decode cX0_betters 1 = .ok (.iconst (-1), 1) := by decide +kernel
theorem dX0_betters_2 : decode cX0_betters 2 = .ok (.if_icmp .eq 16, 3) := by decide +kernel
theorem dX0_betters_5 : decode cX0_betters 5 = .ok (.iconst 1, 1) := by decide +kernel
theorem dX0_betters_6 : decode cX0_betters 6 = .ok (.iload_n 1, 1) := by decide +kernel
theorem dX0_betters_7 : decode cX0_betters 7 = .ok (.iload_n 0, 1) := by decide +kernel
theorem dX0_betters_8 : decode cX0_betters 8 = .ok (.invokestatic 109, 3) := by decide +kernel
theorem dX0_betters_11 : decode cX0_betters 11 = .ok (.ifCond .ne 7, 3) := by decide +kernel
theorem dX0_betters_14 : decode cX0_betters 14 = .ok (.iconst 1, 1) := by decide +kernel
theorem dX0_betters_15 : decode cX0_betters 15 = .ok (.goto 4, 3) := by decide +kernel
theorem dX0_betters_18 : decode cX0_betters 18 = .ok (.iconst 0, 1) := by decide +kernel
theorem dX0_betters_19 : decode cX0_betters 19 = .ok (.ireturn, 1) := by decide +kernel
set_option maxRecDepth 20000 in
theorem ggX0_marksOf_X0_isCold : GoodIn wsX0_marksOf wsX0_isCold := goodIn_r _ [8, 9, 10, 11, 7, 12, 13, 14, 15, 22, 23, 24, 25, 26, 27, 28, 29, 30] (by decide +kernel) (by decide +kernel)
set_option maxRecDepth 20000 in
theorem gX0_marksOf_X0_isCold : GoodIn wsX0_marksOf (wsV RX0 115 RX0 yX0_isCold wsX0_isCold) := goodIn_app (goodIn_of _ (by decide +kernel)) ggX0_marksOf_X0_isCold
set_option maxRecDepth 20000 in
theorem ggX0_marksOf_X0_holdsOfRates : GoodIn wsX0_marksOf wsX0_holdsOfRates := goodIn_r _ [18, 13, 14, 7, 15] (by decide +kernel) (by decide +kernel)
set_option maxRecDepth 20000 in
theorem gX0_marksOf_X0_holdsOfRates : GoodIn wsX0_marksOf (va_wsS RX0 109 yX0_holdsOfRates wsX0_holdsOfRates) := goodIn_app (goodIn_of _ (by decide +kernel)) ggX0_marksOf_X0_holdsOfRates
set_option maxRecDepth 20000 in
theorem ggX0_marksOf_X0_betters : GoodIn wsX0_marksOf wsX0_betters := goodIn_r _ [21, 16, 17, 7, 18, 13, 14, 15] (by decide +kernel) (by decide +kernel)
set_option maxRecDepth 20000 in
theorem gX0_marksOf_X0_betters : GoodIn wsX0_marksOf (va_wsS RX0 118 yX0_betters wsX0_betters) := goodIn_app (goodIn_of _ (by decide +kernel)) ggX0_marksOf_X0_betters
theorem dX0_marksOf_0 : decode cX0_marksOf 0 = .ok (.iconst 0, 1) := by decide +kernel
theorem dX0_marksOf_1 : decode cX0_marksOf 1 = .ok (.istore 4, 2) := by decide +kernel
theorem dX0_marksOf_3 : decode cX0_marksOf 3 = .ok (.aload_n 0, 1) := by decide +kernel
theorem dX0_marksOf_4 : decode cX0_marksOf 4 = .ok (.iload_n 3, 1) := by decide +kernel
theorem dX0_marksOf_5 : decode cX0_marksOf 5 = .ok (.invokevirtual 115, 3) := by decide +kernel
theorem dX0_marksOf_8 : decode cX0_marksOf 8 = .ok (.ifCond .eq 6, 3) := by decide +kernel
theorem dX0_marksOf_11 : decode cX0_marksOf 11 = .ok (.iinc 4 1, 3) := by decide +kernel
theorem dX0_marksOf_14 : decode cX0_marksOf 14 = .ok (.iconst 1, 1) := by decide +kernel
theorem dX0_marksOf_15 : decode cX0_marksOf 15 = .ok (.iload_n 2, 1) := by decide +kernel
theorem dX0_marksOf_16 : decode cX0_marksOf 16 = .ok (.aload_n 0, 1) := by decide +kernel
theorem dX0_marksOf_17 : decode cX0_marksOf 17 = .ok (.getfield 30, 3) := by decide +kernel
theorem dX0_marksOf_20 : decode cX0_marksOf 20 = .ok (.invokestatic 109, 3) := by decide +kernel
theorem dX0_marksOf_23 : decode cX0_marksOf 23 = .ok (.ifCond .eq 6, 3) := by decide +kernel
theorem dX0_marksOf_26 : decode cX0_marksOf 26 = .ok (.iinc 4 2, 3) := by decide +kernel
theorem dX0_marksOf_29 : decode cX0_marksOf 29 = .ok (.iload_n 2, 1) := by decide +kernel
theorem dX0_marksOf_30 : decode cX0_marksOf 30 = .ok (.aload_n 0, 1) := by decide +kernel
theorem dX0_marksOf_31 : decode cX0_marksOf 31 = .ok (.getfield 19, 3) := by decide +kernel
theorem dX0_marksOf_34 : decode cX0_marksOf 34 = .ok (.iload_n 1, 1) := by decide +kernel
theorem dX0_marksOf_35 : decode cX0_marksOf 35 = .ok (.iaload, 1) := by decide +kernel
theorem dX0_marksOf_36 : decode cX0_marksOf 36 = .ok (.invokestatic 118, 3) := by decide +kernel
theorem dX0_marksOf_39 : decode cX0_marksOf 39 = .ok (.ifCond .eq 6, 3) := by decide +kernel
theorem dX0_marksOf_42 : decode cX0_marksOf 42 = .ok (.iinc 4 4, 3) := by decide +kernel
theorem dX0_marksOf_45 : decode cX0_marksOf 45 = .ok (.aload_n 0, 1) := by decide +kernel
theorem dX0_marksOf_46 : decode cX0_marksOf 46 = .ok (.iload_n 3, 1) := by decide +kernel
theorem dX0_marksOf_47 : decode cX0_marksOf 47 = .ok (.invokevirtual 115, 3) := by decide +kernel
theorem dX0_marksOf_50 : decode cX0_marksOf 50 = .ok (.ifCond .eq 17, 3) := by decide +kernel
theorem dX0_marksOf_53 : decode cX0_marksOf 53 = .ok (.iload_n 2, 1) := by decide +kernel
theorem dX0_marksOf_54 : decode cX0_marksOf 54 = .ok (.aload_n 0, 1) := by decide +kernel
theorem dX0_marksOf_55 : decode cX0_marksOf 55 = .ok (.getfield 33, 3) := by decide +kernel
theorem dX0_marksOf_58 : decode cX0_marksOf 58 = .ok (.invokestatic 118, 3) := by decide +kernel
theorem dX0_marksOf_61 : decode cX0_marksOf 61 = .ok (.ifCond .eq 6, 3) := by decide +kernel
theorem dX0_marksOf_64 : decode cX0_marksOf 64 = .ok (.iinc 4 8, 3) := by decide +kernel
theorem dX0_marksOf_67 : decode cX0_marksOf 67 = .ok (.iload 4, 2) := by decide +kernel
theorem dX0_marksOf_69 : decode cX0_marksOf 69 = .ok (.ireturn, 1) := by decide +kernel
set_option maxRecDepth 20000 in
theorem ggX0_leastRate_X0_slot : GoodIn wsX0_leastRate wsX0_slot := goodIn_r _ [6] (by decide +kernel) (by decide +kernel)
set_option maxRecDepth 20000 in
theorem gX0_leastRate_X0_slot : GoodIn wsX0_leastRate (va_wsS RX0 53 yX0_slot wsX0_slot) := goodIn_app (goodIn_of _ (by decide +kernel)) ggX0_leastRate_X0_slot
set_option maxRecDepth 20000 in
theorem ggX0_leastRate_X0_betters : GoodIn wsX0_leastRate wsX0_betters := goodIn_r _ [9, 10, 11, 5, 12, 13, 14, 15] (by decide +kernel) (by decide +kernel)
set_option maxRecDepth 20000 in
theorem gX0_leastRate_X0_betters : GoodIn wsX0_leastRate (va_wsS RX0 118 yX0_betters wsX0_betters) := goodIn_app (goodIn_of _ (by decide +kernel)) ggX0_leastRate_X0_betters
theorem dX0_leastRate_0 : decode cX0_leastRate 0 = .ok (.iconst (-1), 1) := by decide +kernel
theorem dX0_leastRate_1 : decode cX0_leastRate 1 = .ok (.istore_n 2, 1) := by decide +kernel
theorem dX0_leastRate_2 : decode cX0_leastRate 2 = .ok (.iconst 0, 1) := by decide +kernel
theorem dX0_leastRate_3 : decode cX0_leastRate 3 = .ok (.istore_n 3, 1) := by decide +kernel
theorem dX0_leastRate_4 : decode cX0_leastRate 4 = .ok (.iload_n 3, 1) := by decide +kernel
theorem dX0_leastRate_5 : decode cX0_leastRate 5 = .ok (.aload_n 0, 1) := by decide +kernel
theorem dX0_leastRate_6 : decode cX0_leastRate 6 = .ok (.getfield 16, 3) := by decide +kernel
theorem dX0_leastRate_9 : decode cX0_leastRate 9 = .ok (.iload_n 1, 1) := by decide +kernel
theorem dX0_leastRate_10 : decode cX0_leastRate 10 = .ok (.iaload, 1) := by decide +kernel
theorem dX0_leastRate_11 : decode cX0_leastRate 11 = .ok (.if_icmp .ge 33, 3) := by decide +kernel
theorem dX0_leastRate_14 : decode cX0_leastRate 14 = .ok (.aload_n 0, 1) := by decide +kernel
theorem dX0_leastRate_15 : decode cX0_leastRate 15 = .ok (.getfield 9, 3) := by decide +kernel
theorem dX0_leastRate_18 : decode cX0_leastRate 18 = .ok (.iload_n 1, 1) := by decide +kernel
theorem dX0_leastRate_19 : decode cX0_leastRate 19 = .ok (.iload_n 3, 1) := by decide +kernel
theorem dX0_leastRate_20 : decode cX0_leastRate 20 = .ok (.invokestatic 53, 3) := by decide +kernel
theorem dX0_leastRate_23 : decode cX0_leastRate 23 = .ok (.iaload, 1) := by decide +kernel
theorem dX0_leastRate_24 : decode cX0_leastRate 24 = .ok (.istore 4, 2) := by decide +kernel
theorem dX0_leastRate_26 : decode cX0_leastRate 26 = .ok (.iload 4, 2) := by decide +kernel
theorem dX0_leastRate_28 : decode cX0_leastRate 28 = .ok (.iload_n 2, 1) := by decide +kernel
theorem dX0_leastRate_29 : decode cX0_leastRate 29 = .ok (.invokestatic 118, 3) := by decide +kernel
theorem dX0_leastRate_32 : decode cX0_leastRate 32 = .ok (.ifCond .eq 6, 3) := by decide +kernel
theorem dX0_leastRate_35 : decode cX0_leastRate 35 = .ok (.iload 4, 2) := by decide +kernel
theorem dX0_leastRate_37 : decode cX0_leastRate 37 = .ok (.istore_n 2, 1) := by decide +kernel
theorem dX0_leastRate_38 : decode cX0_leastRate 38 = .ok (.iinc 3 1, 3) := by decide +kernel
theorem dX0_leastRate_41 : decode cX0_leastRate 41 = .ok (.goto (-37), 3) := by decide +kernel
theorem dX0_leastRate_44 : decode cX0_leastRate 44 = .ok (.iload_n 2, 1) := by decide +kernel
theorem dX0_leastRate_45 : decode cX0_leastRate 45 = .ok (.ireturn, 1) := by decide +kernel
set_option maxRecDepth 20000 in
theorem ggX0_clocksAhead_X0_goesAhead : GoodIn wsX0_clocksAhead wsX0_goesAhead := goodIn_r _ [6, 7, 8, 9, 5, 10, 11, 12, 13, 14, 15, 16, 17, 18, 19, 20, 21, 22, 23, 24, 25] (by decide +kernel) (by decide +kernel)
set_option maxRecDepth 20000 in
theorem gX0_clocksAhead_X0_goesAhead : GoodIn wsX0_clocksAhead (wsV RX0 122 RX0 yX0_goesAhead wsX0_goesAhead) := goodIn_app (goodIn_of _ (by decide +kernel)) ggX0_clocksAhead_X0_goesAhead
theorem dX0_clocksAhead_0 : decode cX0_clocksAhead 0 = .ok (.iconst 0, 1) := by decide +kernel
theorem dX0_clocksAhead_1 : decode cX0_clocksAhead 1 = .ok (.istore_n 2, 1) := by decide +kernel
theorem dX0_clocksAhead_2 : decode cX0_clocksAhead 2 = .ok (.iconst 0, 1) := by decide +kernel
theorem dX0_clocksAhead_3 : decode cX0_clocksAhead 3 = .ok (.istore_n 3, 1) := by decide +kernel
theorem dX0_clocksAhead_4 : decode cX0_clocksAhead 4 = .ok (.iload_n 3, 1) := by decide +kernel
theorem dX0_clocksAhead_5 : decode cX0_clocksAhead 5 = .ok (.aload_n 0, 1) := by decide +kernel
theorem dX0_clocksAhead_6 : decode cX0_clocksAhead 6 = .ok (.getfield 26, 3) := by decide +kernel
theorem dX0_clocksAhead_9 : decode cX0_clocksAhead 9 = .ok (.if_icmp .ge 21, 3) := by decide +kernel
theorem dX0_clocksAhead_12 : decode cX0_clocksAhead 12 = .ok (.aload_n 0, 1) := by decide +kernel
theorem dX0_clocksAhead_13 : decode cX0_clocksAhead 13 = .ok (.iload_n 3, 1) := by decide +kernel
theorem dX0_clocksAhead_14 : decode cX0_clocksAhead 14 = .ok (.iload_n 1, 1) := by decide +kernel
theorem dX0_clocksAhead_15 : decode cX0_clocksAhead 15 = .ok (.invokevirtual 122, 3) := by decide +kernel
theorem dX0_clocksAhead_18 : decode cX0_clocksAhead 18 = .ok (.ifCond .eq 6, 3) := by decide +kernel
theorem dX0_clocksAhead_21 : decode cX0_clocksAhead 21 = .ok (.iinc 2 1, 3) := by decide +kernel
theorem dX0_clocksAhead_24 : decode cX0_clocksAhead 24 = .ok (.iinc 3 1, 3) := by decide +kernel
theorem dX0_clocksAhead_27 : decode cX0_clocksAhead 27 = .ok (.goto (-23), 3) := by decide +kernel
theorem dX0_clocksAhead_30 : decode cX0_clocksAhead 30 = .ok (.iload_n 2, 1) := by decide +kernel
theorem dX0_clocksAhead_31 : decode cX0_clocksAhead 31 = .ok (.ireturn, 1) := by decide +kernel
set_option maxRecDepth 20000 in
theorem ggX0_goesAhead_X0_betters : GoodIn wsX0_goesAhead wsX0_betters := goodIn_r _ [5, 6, 7, 4, 8, 9, 10, 11] (by decide +kernel) (by decide +kernel)
set_option maxRecDepth 20000 in
theorem gX0_goesAhead_X0_betters : GoodIn wsX0_goesAhead (va_wsS RX0 118 yX0_betters wsX0_betters) := goodIn_app (goodIn_of _ (by decide +kernel)) ggX0_goesAhead_X0_betters
theorem dX0_goesAhead_0 : decode cX0_goesAhead 0 = .ok (.aload_n 0, 1) := by decide +kernel
theorem dX0_goesAhead_1 : decode cX0_goesAhead 1 = .ok (.getfield 19, 3) := by decide +kernel
theorem dX0_goesAhead_4 : decode cX0_goesAhead 4 = .ok (.iload_n 1, 1) := by decide +kernel
theorem dX0_goesAhead_5 : decode cX0_goesAhead 5 = .ok (.iaload, 1) := by decide +kernel
theorem dX0_goesAhead_6 : decode cX0_goesAhead 6 = .ok (.aload_n 0, 1) := by decide +kernel
theorem dX0_goesAhead_7 : decode cX0_goesAhead 7 = .ok (.getfield 19, 3) := by decide +kernel
theorem dX0_goesAhead_10 : decode cX0_goesAhead 10 = .ok (.iload_n 2, 1) := by decide +kernel
theorem dX0_goesAhead_11 : decode cX0_goesAhead 11 = .ok (.iaload, 1) := by decide +kernel
theorem dX0_goesAhead_12 : decode cX0_goesAhead 12 = .ok (.if_icmp .ne 14, 3) := by decide +kernel
theorem dX0_goesAhead_15 : decode cX0_goesAhead 15 = .ok (.iload_n 1, 1) := by decide +kernel
theorem dX0_goesAhead_16 : decode cX0_goesAhead 16 = .ok (.iload_n 2, 1) := by decide +kernel
theorem dX0_goesAhead_17 : decode cX0_goesAhead 17 = .ok (.if_icmp .ge 7, 3) := by decide +kernel
theorem dX0_goesAhead_20 : decode cX0_goesAhead 20 = .ok (.iconst 1, 1) := by decide +kernel
theorem dX0_goesAhead_21 : decode cX0_goesAhead 21 = .ok (.goto 4, 3) := by decide +kernel
theorem dX0_goesAhead_24 : decode cX0_goesAhead 24 = .ok (.iconst 0, 1) := by decide +kernel
theorem dX0_goesAhead_25 : decode cX0_goesAhead 25 = .ok (.ireturn, 1) := by decide +kernel
theorem dX0_goesAhead_26 : decode cX0_goesAhead 26 = .ok (.aload_n 0, 1) := by decide +kernel
theorem dX0_goesAhead_27 : decode cX0_goesAhead 27 = .ok (.getfield 19, 3) := by decide +kernel
theorem dX0_goesAhead_30 : decode cX0_goesAhead 30 = .ok (.iload_n 1, 1) := by decide +kernel
theorem dX0_goesAhead_31 : decode cX0_goesAhead 31 = .ok (.iaload, 1) := by decide +kernel
theorem dX0_goesAhead_32 : decode cX0_goesAhead 32 = .ok (.aload_n 0, 1) := by decide +kernel
theorem dX0_goesAhead_33 : decode cX0_goesAhead 33 = .ok (.getfield 19, 3) := by decide +kernel
theorem dX0_goesAhead_36 : decode cX0_goesAhead 36 = .ok (.iload_n 2, 1) := by decide +kernel
theorem dX0_goesAhead_37 : decode cX0_goesAhead 37 = .ok (.iaload, 1) := by decide +kernel
theorem dX0_goesAhead_38 : decode cX0_goesAhead 38 = .ok (.invokestatic 118, 3) := by decide +kernel
theorem dX0_goesAhead_41 : decode cX0_goesAhead 41 = .ok (.ireturn, 1) := by decide +kernel
set_option maxRecDepth 20000 in
theorem ggX0_rank_X0_betters : GoodIn wsX0_rank wsX0_betters := goodIn_r _ [6, 7, 8, 5, 9, 10, 11, 12] (by decide +kernel) (by decide +kernel)
set_option maxRecDepth 20000 in
theorem gX0_rank_X0_betters : GoodIn wsX0_rank (va_wsS RX0 118 yX0_betters wsX0_betters) := goodIn_app (goodIn_of _ (by decide +kernel)) ggX0_rank_X0_betters
theorem dX0_rank_0 : decode cX0_rank 0 = .ok (.iconst 0, 1) := by decide +kernel
theorem dX0_rank_1 : decode cX0_rank 1 = .ok (.istore_n 2, 1) := by decide +kernel
theorem dX0_rank_2 : decode cX0_rank 2 = .ok (.iconst 0, 1) := by decide +kernel
theorem dX0_rank_3 : decode cX0_rank 3 = .ok (.istore_n 3, 1) := by decide +kernel
theorem dX0_rank_4 : decode cX0_rank 4 = .ok (.iload_n 3, 1) := by decide +kernel
theorem dX0_rank_5 : decode cX0_rank 5 = .ok (.aload_n 0, 1) := by decide +kernel
theorem dX0_rank_6 : decode cX0_rank 6 = .ok (.getfield 26, 3) := by decide +kernel
theorem dX0_rank_9 : decode cX0_rank 9 = .ok (.if_icmp .ge 30, 3) := by decide +kernel
theorem dX0_rank_12 : decode cX0_rank 12 = .ok (.aload_n 0, 1) := by decide +kernel
theorem dX0_rank_13 : decode cX0_rank 13 = .ok (.getfield 19, 3) := by decide +kernel
theorem dX0_rank_16 : decode cX0_rank 16 = .ok (.iload_n 3, 1) := by decide +kernel
theorem dX0_rank_17 : decode cX0_rank 17 = .ok (.iaload, 1) := by decide +kernel
theorem dX0_rank_18 : decode cX0_rank 18 = .ok (.aload_n 0, 1) := by decide +kernel
theorem dX0_rank_19 : decode cX0_rank 19 = .ok (.getfield 19, 3) := by decide +kernel
theorem dX0_rank_22 : decode cX0_rank 22 = .ok (.iload_n 1, 1) := by decide +kernel
theorem dX0_rank_23 : decode cX0_rank 23 = .ok (.iaload, 1) := by decide +kernel
theorem dX0_rank_24 : decode cX0_rank 24 = .ok (.invokestatic 118, 3) := by decide +kernel
theorem dX0_rank_27 : decode cX0_rank 27 = .ok (.ifCond .eq 6, 3) := by decide +kernel
theorem dX0_rank_30 : decode cX0_rank 30 = .ok (.iinc 2 1, 3) := by decide +kernel
theorem dX0_rank_33 : decode cX0_rank 33 = .ok (.iinc 3 1, 3) := by decide +kernel
theorem dX0_rank_36 : decode cX0_rank 36 = .ok (.goto (-32), 3) := by decide +kernel
theorem dX0_rank_39 : decode cX0_rank 39 = .ok (.iload_n 2, 1) := by decide +kernel
theorem dX0_rank_40 : decode cX0_rank 40 = .ok (.ireturn, 1) := by decide +kernel
end
section
set_option maxRecDepth 20000 in
theorem ggX0_coldTrials_X0_slot : GoodIn wsX0_coldTrials wsX0_slot := goodIn_r _ [6] (by decide +kernel) (by decide +kernel)
set_option maxRecDepth 20000 in
theorem gX0_coldTrials_X0_slot : GoodIn wsX0_coldTrials (va_wsS RX0 53 yX0_slot wsX0_slot) := goodIn_app (goodIn_of _ (by decide +kernel)) ggX0_coldTrials_X0_slot
set_option maxRecDepth 20000 in
theorem ggX0_coldTrials_X0_isCold : GoodIn wsX0_coldTrials wsX0_isCold := goodIn_r _ [10, 11, 12, 13, 5, 14, 15, 16, 17, 18, 19, 20, 21, 22, 23, 24, 25, 26] (by decide +kernel) (by decide +kernel)
set_option maxRecDepth 20000 in
theorem gX0_coldTrials_X0_isCold : GoodIn wsX0_coldTrials (wsV RX0 115 RX0 yX0_isCold wsX0_isCold) := goodIn_app (goodIn_of _ (by decide +kernel)) ggX0_coldTrials_X0_isCold
theorem dX0_coldTrials_0 : decode cX0_coldTrials 0 = .ok (.iconst 0, 1) := by decide +kernel
theorem dX0_coldTrials_1 : decode cX0_coldTrials 1 = .ok (.istore_n 2, 1) := by decide +kernel
theorem dX0_coldTrials_2 : decode cX0_coldTrials 2 = .ok (.iconst 0, 1) := by decide +kernel
theorem dX0_coldTrials_3 : decode cX0_coldTrials 3 = .ok (.istore_n 3, 1) := by decide +kernel
theorem dX0_coldTrials_4 : decode cX0_coldTrials 4 = .ok (.iload_n 3, 1) := by decide +kernel
theorem dX0_coldTrials_5 : decode cX0_coldTrials 5 = .ok (.aload_n 0, 1) := by decide +kernel
theorem dX0_coldTrials_6 : decode cX0_coldTrials 6 = .ok (.getfield 16, 3) := by decide +kernel
theorem dX0_coldTrials_9 : decode cX0_coldTrials 9 = .ok (.iload_n 1, 1) := by decide +kernel
theorem dX0_coldTrials_10 : decode cX0_coldTrials 10 = .ok (.iaload, 1) := by decide +kernel
theorem dX0_coldTrials_11 : decode cX0_coldTrials 11 = .ok (.if_icmp .ge 29, 3) := by decide +kernel
theorem dX0_coldTrials_14 : decode cX0_coldTrials 14 = .ok (.aload_n 0, 1) := by decide +kernel
theorem dX0_coldTrials_15 : decode cX0_coldTrials 15 = .ok (.aload_n 0, 1) := by decide +kernel
theorem dX0_coldTrials_16 : decode cX0_coldTrials 16 = .ok (.getfield 13, 3) := by decide +kernel
theorem dX0_coldTrials_19 : decode cX0_coldTrials 19 = .ok (.iload_n 1, 1) := by decide +kernel
theorem dX0_coldTrials_20 : decode cX0_coldTrials 20 = .ok (.iload_n 3, 1) := by decide +kernel
theorem dX0_coldTrials_21 : decode cX0_coldTrials 21 = .ok (.invokestatic 53, 3) := by decide +kernel
theorem dX0_coldTrials_24 : decode cX0_coldTrials 24 = .ok (.iaload, 1) := by decide +kernel
theorem dX0_coldTrials_25 : decode cX0_coldTrials 25 = .ok (.invokevirtual 115, 3) := by decide +kernel
theorem dX0_coldTrials_28 : decode cX0_coldTrials 28 = .ok (.ifCond .eq 6, 3) := by decide +kernel
theorem dX0_coldTrials_31 : decode cX0_coldTrials 31 = .ok (.iinc 2 1, 3) := by decide +kernel
theorem dX0_coldTrials_34 : decode cX0_coldTrials 34 = .ok (.iinc 3 1, 3) := by decide +kernel
theorem dX0_coldTrials_37 : decode cX0_coldTrials 37 = .ok (.goto (-33), 3) := by decide +kernel
theorem dX0_coldTrials_40 : decode cX0_coldTrials 40 = .ok (.iload_n 2, 1) := by decide +kernel
theorem dX0_coldTrials_41 : decode cX0_coldTrials 41 = .ok (.ireturn, 1) := by decide +kernel
set_option maxRecDepth 20000 in
theorem ggX0_trialsAheadOfBest_X0_slot : GoodIn wsX0_trialsAheadOfBest wsX0_slot := goodIn_r _ [7] (by decide +kernel) (by decide +kernel)
set_option maxRecDepth 20000 in
theorem gX0_trialsAheadOfBest_X0_slot : GoodIn wsX0_trialsAheadOfBest (va_wsS RX0 53 yX0_slot wsX0_slot) := goodIn_app (goodIn_of _ (by decide +kernel)) ggX0_trialsAheadOfBest_X0_slot
set_option maxRecDepth 20000 in
theorem ggX0_trialsAheadOfBest_X0_holdsOfRates : GoodIn wsX0_trialsAheadOfBest wsX0_holdsOfRates := goodIn_r _ [10, 11, 12, 6, 13] (by decide +kernel) (by decide +kernel)
set_option maxRecDepth 20000 in
theorem gX0_trialsAheadOfBest_X0_holdsOfRates : GoodIn wsX0_trialsAheadOfBest (va_wsS RX0 109 yX0_holdsOfRates wsX0_holdsOfRates) := goodIn_app (goodIn_of _ (by decide +kernel)) ggX0_trialsAheadOfBest_X0_holdsOfRates
theorem dX0_trialsAheadOfBest_0 : decode cX0_trialsAheadOfBest 0 = .ok (.iconst 0, 1) := by decide +kernel
theorem dX0_trialsAheadOfBest_1 : decode cX0_trialsAheadOfBest 1 = .ok (.istore_n 2, 1) := by decide +kernel
theorem dX0_trialsAheadOfBest_2 : decode cX0_trialsAheadOfBest 2 = .ok (.iload_n 2, 1) := by decide +kernel
theorem dX0_trialsAheadOfBest_3 : decode cX0_trialsAheadOfBest 3 = .ok (.aload_n 0, 1) := by decide +kernel
theorem dX0_trialsAheadOfBest_4 : decode cX0_trialsAheadOfBest 4 = .ok (.getfield 16, 3) := by decide +kernel
theorem dX0_trialsAheadOfBest_7 : decode cX0_trialsAheadOfBest 7 = .ok (.iload_n 1, 1) := by decide +kernel
theorem dX0_trialsAheadOfBest_8 : decode cX0_trialsAheadOfBest 8 = .ok (.iaload, 1) := by decide +kernel
theorem dX0_trialsAheadOfBest_9 : decode cX0_trialsAheadOfBest 9 = .ok (.if_icmp .ge 32, 3) := by decide +kernel
theorem dX0_trialsAheadOfBest_12 : decode cX0_trialsAheadOfBest 12 = .ok (.iconst 2, 1) := by decide +kernel
theorem dX0_trialsAheadOfBest_13 : decode cX0_trialsAheadOfBest 13 = .ok (.aload_n 0, 1) := by decide +kernel
theorem dX0_trialsAheadOfBest_14 : decode cX0_trialsAheadOfBest 14 = .ok (.getfield 9, 3) := by decide +kernel
theorem dX0_trialsAheadOfBest_17 : decode cX0_trialsAheadOfBest 17 = .ok (.iload_n 1, 1) := by decide +kernel
theorem dX0_trialsAheadOfBest_18 : decode cX0_trialsAheadOfBest 18 = .ok (.iload_n 2, 1) := by decide +kernel
theorem dX0_trialsAheadOfBest_19 : decode cX0_trialsAheadOfBest 19 = .ok (.invokestatic 53, 3) := by decide +kernel
theorem dX0_trialsAheadOfBest_22 : decode cX0_trialsAheadOfBest 22 = .ok (.iaload, 1) := by decide +kernel
theorem dX0_trialsAheadOfBest_23 : decode cX0_trialsAheadOfBest 23 = .ok (.aload_n 0, 1) := by decide +kernel
theorem dX0_trialsAheadOfBest_24 : decode cX0_trialsAheadOfBest 24 = .ok (.getfield 19, 3) := by decide +kernel
theorem dX0_trialsAheadOfBest_27 : decode cX0_trialsAheadOfBest 27 = .ok (.iload_n 1, 1) := by decide +kernel
theorem dX0_trialsAheadOfBest_28 : decode cX0_trialsAheadOfBest 28 = .ok (.iaload, 1) := by decide +kernel
theorem dX0_trialsAheadOfBest_29 : decode cX0_trialsAheadOfBest 29 = .ok (.invokestatic 109, 3) := by decide +kernel
theorem dX0_trialsAheadOfBest_32 : decode cX0_trialsAheadOfBest 32 = .ok (.ifCond .eq 9, 3) := by decide +kernel
theorem dX0_trialsAheadOfBest_35 : decode cX0_trialsAheadOfBest 35 = .ok (.iinc 2 1, 3) := by decide +kernel
theorem dX0_trialsAheadOfBest_38 : decode cX0_trialsAheadOfBest 38 = .ok (.goto (-36), 3) := by decide +kernel
theorem dX0_trialsAheadOfBest_41 : decode cX0_trialsAheadOfBest 41 = .ok (.iload_n 2, 1) := by decide +kernel
theorem dX0_trialsAheadOfBest_42 : decode cX0_trialsAheadOfBest 42 = .ok (.ireturn, 1) := by decide +kernel
set_option maxRecDepth 20000 in
theorem ggX0_latestChill_X0_slot : GoodIn wsX0_latestChill wsX0_slot := goodIn_r _ [6] (by decide +kernel) (by decide +kernel)
set_option maxRecDepth 20000 in
theorem gX0_latestChill_X0_slot : GoodIn wsX0_latestChill (va_wsS RX0 53 yX0_slot wsX0_slot) := goodIn_app (goodIn_of _ (by decide +kernel)) ggX0_latestChill_X0_slot
theorem dX0_latestChill_0 : decode cX0_latestChill 0 = .ok (.aload_n 0, 1) := by decide +kernel
theorem dX0_latestChill_1 : decode cX0_latestChill 1 = .ok (.getfield 16, 3) := by decide +kernel
theorem dX0_latestChill_4 : decode cX0_latestChill 4 = .ok (.iload_n 1, 1) := by decide +kernel
theorem dX0_latestChill_5 : decode cX0_latestChill 5 = .ok (.iaload, 1) := by decide +kernel
theorem dX0_latestChill_6 : decode cX0_latestChill 6 = .ok (.ifCond .gt 6, 3) := by decide +kernel
theorem dX0_latestChill_9 : decode cX0_latestChill 9 = .ok (.bipush 100, 2) := by decide +kernel
theorem dX0_latestChill_11 : decode cX0_latestChill 11 = .ok (.ireturn, 1) := by decide +kernel
theorem dX0_latestChill_12 : decode cX0_latestChill 12 = .ok (.aload_n 0, 1) := by decide +kernel
theorem dX0_latestChill_13 : decode cX0_latestChill 13 = .ok (.getfield 13, 3) := by decide +kernel
theorem dX0_latestChill_16 : decode cX0_latestChill 16 = .ok (.iload_n 1, 1) := by decide +kernel
theorem dX0_latestChill_17 : decode cX0_latestChill 17 = .ok (.aload_n 0, 1) := by decide +kernel
theorem dX0_latestChill_18 : decode cX0_latestChill 18 = .ok (.getfield 16, 3) := by decide +kernel
theorem dX0_latestChill_21 : decode cX0_latestChill 21 = .ok (.iload_n 1, 1) := by decide +kernel
theorem dX0_latestChill_22 : decode cX0_latestChill 22 = .ok (.iaload, 1) := by decide +kernel
theorem dX0_latestChill_23 : decode cX0_latestChill 23 = .ok (.iconst 1, 1) := by decide +kernel
theorem dX0_latestChill_24 : decode cX0_latestChill 24 = .ok (.isub, 1) := by decide +kernel
theorem dX0_latestChill_25 : decode cX0_latestChill 25 = .ok (.invokestatic 53, 3) := by decide +kernel
theorem dX0_latestChill_28 : decode cX0_latestChill 28 = .ok (.iaload, 1) := by decide +kernel
theorem dX0_latestChill_29 : decode cX0_latestChill 29 = .ok (.ireturn, 1) := by decide +kernel
set_option maxRecDepth 20000 in
theorem ggX0_clocksInARow_X0_holdsOfClocks : GoodIn wsX0_clocksInARow wsX0_holdsOfClocks := goodIn_r _ [6, 7, 8, 9, 5, 10, 11, 12, 13, 14, 15, 16, 17, 18, 19, 20, 21, 22, 23, 24, 25, 26, 27, 28, 29, 30, 31, 32, 33, 34] (by decide +kernel) (by decide +kernel)
set_option maxRecDepth 20000 in
theorem gX0_clocksInARow_X0_holdsOfClocks : GoodIn wsX0_clocksInARow (wsV RX0 84 RX0 yX0_holdsOfClocks wsX0_holdsOfClocks) := goodIn_app (goodIn_of _ (by decide +kernel)) ggX0_clocksInARow_X0_holdsOfClocks
theorem dX0_clocksInARow_0 : decode cX0_clocksInARow 0 = .ok (.iload_n 3, 1) := by decide +kernel
theorem dX0_clocksInARow_1 : decode cX0_clocksInARow 1 = .ok (.istore 5, 2) := by decide +kernel
theorem dX0_clocksInARow_3 : decode cX0_clocksInARow 3 = .ok (.iload 5, 2) := by decide +kernel
theorem dX0_clocksInARow_5 : decode cX0_clocksInARow 5 = .ok (.aload_n 0, 1) := by decide +kernel
theorem dX0_clocksInARow_6 : decode cX0_clocksInARow 6 = .ok (.getfield 26, 3) := by decide +kernel
theorem dX0_clocksInARow_9 : decode cX0_clocksInARow 9 = .ok (.if_icmp .ge 22, 3) := by decide +kernel
theorem dX0_clocksInARow_12 : decode cX0_clocksInARow 12 = .ok (.aload_n 0, 1) := by decide +kernel
theorem dX0_clocksInARow_13 : decode cX0_clocksInARow 13 = .ok (.iload_n 1, 1) := by decide +kernel
theorem dX0_clocksInARow_14 : decode cX0_clocksInARow 14 = .ok (.iload_n 2, 1) := by decide +kernel
theorem dX0_clocksInARow_15 : decode cX0_clocksInARow 15 = .ok (.iload 5, 2) := by decide +kernel
theorem dX0_clocksInARow_17 : decode cX0_clocksInARow 17 = .ok (.iload 4, 2) := by decide +kernel
theorem dX0_clocksInARow_19 : decode cX0_clocksInARow 19 = .ok (.invokevirtual 84, 3) := by decide +kernel
theorem dX0_clocksInARow_22 : decode cX0_clocksInARow 22 = .ok (.ifCond .eq 9, 3) := by decide +kernel
theorem dX0_clocksInARow_25 : decode cX0_clocksInARow 25 = .ok (.iinc 5 1, 3) := by decide +kernel
theorem dX0_clocksInARow_28 : decode cX0_clocksInARow 28 = .ok (.goto (-25), 3) := by decide +kernel
theorem dX0_clocksInARow_31 : decode cX0_clocksInARow 31 = .ok (.iload 5, 2) := by decide +kernel
theorem dX0_clocksInARow_33 : decode cX0_clocksInARow 33 = .ok (.iload_n 3, 1) := by decide +kernel
theorem dX0_clocksInARow_34 : decode cX0_clocksInARow 34 = .ok (.isub, 1) := by decide +kernel
theorem dX0_clocksInARow_35 : decode cX0_clocksInARow 35 = .ok (.ireturn, 1) := by decide +kernel
theorem dX0_bothWays_0 : decode cX0_bothWays 0 = .ok (.iload_n 0, 1) := by decide +kernel
theorem dX0_bothWays_1 : decode cX0_bothWays 1 = .ok (.ifCond .eq 9, 3) := by decide +kernel
theorem dX0_bothWays_4 : decode cX0_bothWays 4 = .ok (.iload_n 1, 1) := by decide +kernel
theorem dX0_bothWays_5 : decode cX0_bothWays 5 = .ok (.ifCond .eq 5, 3) := by decide +kernel
theorem dX0_bothWays_8 : decode cX0_bothWays 8 = .ok (.iconst 1, 1) := by decide +kernel
theorem dX0_bothWays_9 : decode cX0_bothWays 9 = .ok (.ireturn, 1) := by decide +kernel
theorem dX0_bothWays_10 : decode cX0_bothWays 10 = .ok (.iload_n 0, 1) := by decide +kernel
theorem dX0_bothWays_11 : decode cX0_bothWays 11 = .ok (.ifCond .ne 7, 3) := by decide +kernel
theorem dX0_bothWays_14 : decode cX0_bothWays 14 = .ok (.iload_n 1, 1) := by decide +kernel
theorem dX0_bothWays_15 : decode cX0_bothWays 15 = .ok (.ifCond .eq 7, 3) := by decide +kernel
theorem dX0_bothWays_18 : decode cX0_bothWays 18 = .ok (.iconst 2, 1) := by decide +kernel
theorem dX0_bothWays_19 : decode cX0_bothWays 19 = .ok (.goto 4, 3) := by decide +kernel
theorem dX0_bothWays_22 : decode cX0_bothWays 22 = .ok (.iconst 0, 1) := by decide +kernel
theorem dX0_bothWays_23 : decode cX0_bothWays 23 = .ok (.ireturn, 1) := by decide +kernel
set_option maxRecDepth 20000 in
theorem ggX0_sealsOn_X0_oneIf : GoodIn wsX0_sealsOn wsX0_oneIf := goodIn_r _ [6] (by decide +kernel) (by decide +kernel)
set_option maxRecDepth 20000 in
theorem gX0_sealsOn_X0_oneIf : GoodIn wsX0_sealsOn (va_wsS RX0 67 yX0_oneIf wsX0_oneIf) := goodIn_app (goodIn_of _ (by decide +kernel)) ggX0_sealsOn_X0_oneIf
theorem dX0_sealsOn_0 : decode cX0_sealsOn 0 = .ok (.iconst 0, 1) := by decide +kernel
theorem dX0_sealsOn_1 : decode cX0_sealsOn 1 = .ok (.istore_n 1, 1) := by decide +kernel
theorem dX0_sealsOn_2 : decode cX0_sealsOn 2 = .ok (.iconst 0, 1) := by decide +kernel
theorem dX0_sealsOn_3 : decode cX0_sealsOn 3 = .ok (.istore_n 2, 1) := by decide +kernel
theorem dX0_sealsOn_4 : decode cX0_sealsOn 4 = .ok (.iload_n 2, 1) := by decide +kernel
theorem dX0_sealsOn_5 : decode cX0_sealsOn 5 = .ok (.aload_n 0, 1) := by decide +kernel
theorem dX0_sealsOn_6 : decode cX0_sealsOn 6 = .ok (.getfield 26, 3) := by decide +kernel
theorem dX0_sealsOn_9 : decode cX0_sealsOn 9 = .ok (.if_icmp .ge 21, 3) := by decide +kernel
theorem dX0_sealsOn_12 : decode cX0_sealsOn 12 = .ok (.iload_n 1, 1) := by decide +kernel
theorem dX0_sealsOn_13 : decode cX0_sealsOn 13 = .ok (.aload_n 0, 1) := by decide +kernel
theorem dX0_sealsOn_14 : decode cX0_sealsOn 14 = .ok (.getfield 22, 3) := by decide +kernel
theorem dX0_sealsOn_17 : decode cX0_sealsOn 17 = .ok (.iload_n 2, 1) := by decide +kernel
theorem dX0_sealsOn_18 : decode cX0_sealsOn 18 = .ok (.baload, 1) := by decide +kernel
theorem dX0_sealsOn_19 : decode cX0_sealsOn 19 = .ok (.invokestatic 67, 3) := by decide +kernel
theorem dX0_sealsOn_22 : decode cX0_sealsOn 22 = .ok (.iadd, 1) := by decide +kernel
theorem dX0_sealsOn_23 : decode cX0_sealsOn 23 = .ok (.istore_n 1, 1) := by decide +kernel
theorem dX0_sealsOn_24 : decode cX0_sealsOn 24 = .ok (.iinc 2 1, 3) := by decide +kernel
theorem dX0_sealsOn_27 : decode cX0_sealsOn 27 = .ok (.goto (-23), 3) := by decide +kernel
theorem dX0_sealsOn_30 : decode cX0_sealsOn 30 = .ok (.iload_n 1, 1) := by decide +kernel
theorem dX0_sealsOn_31 : decode cX0_sealsOn 31 = .ok (.ireturn, 1) := by decide +kernel
theorem dX0_trialsOfAll_0 : decode cX0_trialsOfAll 0 = .ok (.iconst 0, 1) := by decide +kernel
theorem dX0_trialsOfAll_1 : decode cX0_trialsOfAll 1 = .ok (.istore_n 1, 1) := by decide +kernel
theorem dX0_trialsOfAll_2 : decode cX0_trialsOfAll 2 = .ok (.iconst 0, 1) := by decide +kernel
theorem dX0_trialsOfAll_3 : decode cX0_trialsOfAll 3 = .ok (.istore_n 2, 1) := by decide +kernel
theorem dX0_trialsOfAll_4 : decode cX0_trialsOfAll 4 = .ok (.iload_n 2, 1) := by decide +kernel
theorem dX0_trialsOfAll_5 : decode cX0_trialsOfAll 5 = .ok (.aload_n 0, 1) := by decide +kernel
theorem dX0_trialsOfAll_6 : decode cX0_trialsOfAll 6 = .ok (.getfield 26, 3) := by decide +kernel
theorem dX0_trialsOfAll_9 : decode cX0_trialsOfAll 9 = .ok (.if_icmp .ge 18, 3) := by decide +kernel
theorem dX0_trialsOfAll_12 : decode cX0_trialsOfAll 12 = .ok (.iload_n 1, 1) := by decide +kernel
theorem dX0_trialsOfAll_13 : decode cX0_trialsOfAll 13 = .ok (.aload_n 0, 1) := by decide +kernel
theorem dX0_trialsOfAll_14 : decode cX0_trialsOfAll 14 = .ok (.getfield 16, 3) := by decide +kernel
theorem dX0_trialsOfAll_17 : decode cX0_trialsOfAll 17 = .ok (.iload_n 2, 1) := by decide +kernel
theorem dX0_trialsOfAll_18 : decode cX0_trialsOfAll 18 = .ok (.iaload, 1) := by decide +kernel
theorem dX0_trialsOfAll_19 : decode cX0_trialsOfAll 19 = .ok (.iadd, 1) := by decide +kernel
theorem dX0_trialsOfAll_20 : decode cX0_trialsOfAll 20 = .ok (.istore_n 1, 1) := by decide +kernel
theorem dX0_trialsOfAll_21 : decode cX0_trialsOfAll 21 = .ok (.iinc 2 1, 3) := by decide +kernel
theorem dX0_trialsOfAll_24 : decode cX0_trialsOfAll 24 = .ok (.goto (-20), 3) := by decide +kernel
theorem dX0_trialsOfAll_27 : decode cX0_trialsOfAll 27 = .ok (.iload_n 1, 1) := by decide +kernel
theorem dX0_trialsOfAll_28 : decode cX0_trialsOfAll 28 = .ok (.ireturn, 1) := by decide +kernel
set_option maxRecDepth 20000 in
theorem ggX0_firstOfTheBest_X0_betters : GoodIn wsX0_firstOfTheBest wsX0_betters := goodIn_r _ [6, 7, 8, 5, 9, 10, 11, 12] (by decide +kernel) (by decide +kernel)
set_option maxRecDepth 20000 in
theorem gX0_firstOfTheBest_X0_betters : GoodIn wsX0_firstOfTheBest (va_wsS RX0 118 yX0_betters wsX0_betters) := goodIn_app (goodIn_of _ (by decide +kernel)) ggX0_firstOfTheBest_X0_betters
theorem dX0_firstOfTheBest_0 : decode cX0_firstOfTheBest 0 = .ok (.iconst (-1), 1) := by decide +kernel
theorem dX0_firstOfTheBest_1 : decode cX0_firstOfTheBest 1 = .ok (.istore_n 1, 1) := by decide +kernel
theorem dX0_firstOfTheBest_2 : decode cX0_firstOfTheBest 2 = .ok (.iconst (-1), 1) := by decide +kernel
theorem dX0_firstOfTheBest_3 : decode cX0_firstOfTheBest 3 = .ok (.istore_n 2, 1) := by decide +kernel
theorem dX0_firstOfTheBest_4 : decode cX0_firstOfTheBest 4 = .ok (.iconst 0, 1) := by decide +kernel
theorem dX0_firstOfTheBest_5 : decode cX0_firstOfTheBest 5 = .ok (.istore_n 3, 1) := by decide +kernel
theorem dX0_firstOfTheBest_6 : decode cX0_firstOfTheBest 6 = .ok (.iload_n 3, 1) := by decide +kernel
theorem dX0_firstOfTheBest_7 : decode cX0_firstOfTheBest 7 = .ok (.aload_n 0, 1) := by decide +kernel
theorem dX0_firstOfTheBest_8 : decode cX0_firstOfTheBest 8 = .ok (.getfield 26, 3) := by decide +kernel
theorem dX0_firstOfTheBest_11 : decode cX0_firstOfTheBest 11 = .ok (.if_icmp .ge 31, 3) := by decide +kernel
theorem dX0_firstOfTheBest_14 : decode cX0_firstOfTheBest 14 = .ok (.aload_n 0, 1) := by decide +kernel
theorem dX0_firstOfTheBest_15 : decode cX0_firstOfTheBest 15 = .ok (.getfield 19, 3) := by decide +kernel
theorem dX0_firstOfTheBest_18 : decode cX0_firstOfTheBest 18 = .ok (.iload_n 3, 1) := by decide +kernel
theorem dX0_firstOfTheBest_19 : decode cX0_firstOfTheBest 19 = .ok (.iaload, 1) := by decide +kernel
theorem dX0_firstOfTheBest_20 : decode cX0_firstOfTheBest 20 = .ok (.iload_n 2, 1) := by decide +kernel
theorem dX0_firstOfTheBest_21 : decode cX0_firstOfTheBest 21 = .ok (.invokestatic 118, 3) := by decide +kernel
theorem dX0_firstOfTheBest_24 : decode cX0_firstOfTheBest 24 = .ok (.ifCond .eq 12, 3) := by decide +kernel
theorem dX0_firstOfTheBest_27 : decode cX0_firstOfTheBest 27 = .ok (.iload_n 3, 1) := by decide +kernel
theorem dX0_firstOfTheBest_28 : decode cX0_firstOfTheBest 28 = .ok (.istore_n 1, 1) := by decide +kernel
theorem dX0_firstOfTheBest_29 : decode cX0_firstOfTheBest 29 = .ok (.aload_n 0, 1) := by decide +kernel
theorem dX0_firstOfTheBest_30 : decode cX0_firstOfTheBest 30 = .ok (.getfield 19, 3) := by decide +kernel
theorem dX0_firstOfTheBest_33 : decode cX0_firstOfTheBest 33 = .ok (.iload_n 3, 1) := by decide +kernel
theorem dX0_firstOfTheBest_34 : decode cX0_firstOfTheBest 34 = .ok (.iaload, 1) := by decide +kernel
theorem dX0_firstOfTheBest_35 : decode cX0_firstOfTheBest 35 = .ok (.istore_n 2, 1) := by decide +kernel
theorem dX0_firstOfTheBest_36 : decode cX0_firstOfTheBest 36 = .ok (.iinc 3 1, 3) := by decide +kernel
theorem dX0_firstOfTheBest_39 : decode cX0_firstOfTheBest 39 = .ok (.goto (-33), 3) := by decide +kernel
theorem dX0_firstOfTheBest_42 : decode cX0_firstOfTheBest 42 = .ok (.iload_n 1, 1) := by decide +kernel
theorem dX0_firstOfTheBest_43 : decode cX0_firstOfTheBest 43 = .ok (.ireturn, 1) := by decide +kernel
theorem dX1_init_0 : decode cX1_init 0 = .ok (.aload_n 0, 1) := by decide +kernel
theorem dX1_init_1 : decode cX1_init 1 = .ok (.invokespecial 1, 3) := by decide +kernel
theorem dX1_init_4 : decode cX1_init 4 = .ok (.aload_n 0, 1) := by decide +kernel
theorem dX1_init_5 : decode cX1_init 5 = .ok (.iconst (-1), 1) := by decide +kernel
theorem dX1_init_6 : decode cX1_init 6 = .ok (.putfield 9, 3) := by decide +kernel
theorem dX1_init_9 : decode cX1_init 9 = .ok (.aload_n 0, 1) := by decide +kernel
theorem dX1_init_10 : decode cX1_init 10 = .ok (.bipush 100, 2) := by decide +kernel
theorem dX1_init_12 : decode cX1_init 12 = .ok (.putfield 13, 3) := by decide +kernel
theorem dX1_init_15 : decode cX1_init 15 = .ok (.aload_n 0, 1) := by decide +kernel
theorem dX1_init_16 : decode cX1_init 16 = .ok (.iconst (-1), 1) := by decide +kernel
theorem dX1_init_17 : decode cX1_init 17 = .ok (.putfield 16, 3) := by decide +kernel
theorem dX1_init_20 : decode cX1_init 20 = .ok (.aload_n 0, 1) := by decide +kernel
theorem dX1_init_21 : decode cX1_init 21 = .ok (.bipush 8, 2) := by decide +kernel
theorem dX1_init_23 : decode cX1_init 23 = .ok (.newarray .int, 2) := by decide +kernel
theorem dX1_init_25 : decode cX1_init 25 = .ok (.putfield 19, 3) := by decide +kernel
theorem dX1_init_28 : decode cX1_init 28 = .ok (.aload_n 0, 1) := by decide +kernel
theorem dX1_init_29 : decode cX1_init 29 = .ok (.bipush 8, 2) := by decide +kernel
theorem dX1_init_31 : decode cX1_init 31 = .ok (.newarray .int, 2) := by decide +kernel
theorem dX1_init_33 : decode cX1_init 33 = .ok (.putfield 23, 3) := by decide +kernel
theorem dX1_init_36 : decode cX1_init 36 = .ok (.aload_n 0, 1) := by decide +kernel
theorem dX1_init_37 : decode cX1_init 37 = .ok (.bipush 8, 2) := by decide +kernel
theorem dX1_init_39 : decode cX1_init 39 = .ok (.newarray .int, 2) := by decide +kernel
theorem dX1_init_41 : decode cX1_init 41 = .ok (.putfield 26, 3) := by decide +kernel
theorem dX1_init_44 : decode cX1_init 44 = .ok (.aload_n 0, 1) := by decide +kernel
theorem dX1_init_45 : decode cX1_init 45 = .ok (.bipush 48, 2) := by decide +kernel
theorem dX1_init_47 : decode cX1_init 47 = .ok (.newarray .int, 2) := by decide +kernel
theorem dX1_init_49 : decode cX1_init 49 = .ok (.putfield 29, 3) := by decide +kernel
theorem dX1_init_52 : decode cX1_init 52 = .ok (.aload_n 0, 1) := by decide +kernel
theorem dX1_init_53 : decode cX1_init 53 = .ok (.bipush 48, 2) := by decide +kernel
theorem dX1_init_55 : decode cX1_init 55 = .ok (.newarray .int, 2) := by decide +kernel
theorem dX1_init_57 : decode cX1_init 57 = .ok (.putfield 32, 3) := by decide +kernel
theorem dX1_init_60 : decode cX1_init 60 = .ok (.return_, 1) := by decide +kernel
theorem dX1_isClock_0 : decode cX1_isClock 0 = .ok (.iload_n 1, 1) := by decide +kernel
theorem dX1_isClock_1 : decode cX1_isClock 1 = .ok (.ifCond .lt 15, 3) := by decide +kernel
theorem dX1_isClock_4 : decode cX1_isClock 4 = .ok (.iload_n 1, 1) := by decide +kernel
theorem dX1_isClock_5 : decode cX1_isClock 5 = .ok (.aload_n 0, 1) := by decide +kernel
theorem dX1_isClock_6 : decode cX1_isClock 6 = .ok (.getfield 35, 3) := by decide +kernel
theorem dX1_isClock_9 : decode cX1_isClock 9 = .ok (.if_icmp .ge 7, 3) := by decide +kernel
theorem dX1_isClock_12 : decode cX1_isClock 12 = .ok (.iconst 1, 1) := by decide +kernel
theorem dX1_isClock_13 : decode cX1_isClock 13 = .ok (.goto 4, 3) := by decide +kernel
theorem dX1_isClock_16 : decode cX1_isClock 16 = .ok (.iconst 0, 1) := by decide +kernel
theorem dX1_isClock_17 : decode cX1_isClock 17 = .ok (.ireturn, 1) := by decide +kernel
theorem dX1_isRate_0 : decode cX1_isRate 0 = .ok (.iload_n 0, 1) := by decide +kernel
theorem dX1_isRate_1 : decode cX1_isRate 1 = .ok (.iconst (-1), 1) := by decide +kernel
theorem dX1_isRate_2 : decode cX1_isRate 2 = .ok (.if_icmp .lt 14, 3) := by decide +kernel
theorem dX1_isRate_5 : decode cX1_isRate 5 = .ok (.iload_n 0, 1) := by decide +kernel
theorem dX1_isRate_6 : decode cX1_isRate 6 = .ok (.sipush 999, 3) := by decide +kernel
theorem dX1_isRate_9 : decode cX1_isRate 9 = .ok (.if_icmp .gt 7, 3) := by decide +kernel
theorem dX1_isRate_12 : decode cX1_isRate 12 = .ok (.iconst 1, 1) := by decide +kernel
theorem dX1_isRate_13 : decode cX1_isRate 13 = .ok (.goto 4, 3) := by decide +kernel
theorem dX1_isRate_16 : decode cX1_isRate 16 = .ok (.iconst 0, 1) := by decide +kernel
theorem dX1_isRate_17 : decode cX1_isRate 17 = .ok (.ireturn, 1) := by decide +kernel
theorem dX1_isChill_0 : decode cX1_isChill 0 = .ok (.iload_n 0, 1) := by decide +kernel
theorem dX1_isChill_1 : decode cX1_isChill 1 = .ok (.bipush (-99), 2) := by decide +kernel
theorem dX1_isChill_3 : decode cX1_isChill 3 = .ok (.if_icmp .lt 13, 3) := by decide +kernel
theorem dX1_isChill_6 : decode cX1_isChill 6 = .ok (.iload_n 0, 1) := by decide +kernel
theorem dX1_isChill_7 : decode cX1_isChill 7 = .ok (.bipush 100, 2) := by decide +kernel
theorem dX1_isChill_9 : decode cX1_isChill 9 = .ok (.if_icmp .gt 7, 3) := by decide +kernel
theorem dX1_isChill_12 : decode cX1_isChill 12 = .ok (.iconst 1, 1) := by decide +kernel
theorem dX1_isChill_13 : decode cX1_isChill 13 = .ok (.goto 4, 3) := by decide +kernel
theorem dX1_isChill_16 : decode cX1_isChill 16 = .ok (.iconst 0, 1) := by decide +kernel
theorem dX1_isChill_17 : decode cX1_isChill 17 = .ok (.ireturn, 1) := by decide +kernel
theorem dX1_holds_0 : decode cX1_holds 0 = .ok (.iload_n 1, 1) := by decide +kernel
theorem dX1_holds_1 : decode cX1_holds 1 = .ok (.iload_n 3, 1) := by decide +kernel
theorem dX1_holds_2 : decode cX1_holds 2 = .ok (.if_icmp .eq 8, 3) := by decide +kernel
theorem dX1_holds_5 : decode cX1_holds 5 = .ok (.iload_n 2, 1) := by decide +kernel
theorem dX1_holds_6 : decode cX1_holds 6 = .ok (.iload_n 3, 1) := by decide +kernel
theorem dX1_holds_7 : decode cX1_holds 7 = .ok (.if_icmp .ne 14, 3) := by decide +kernel
theorem dX1_holds_10 : decode cX1_holds 10 = .ok (.iload_n 0, 1) := by decide +kernel
theorem dX1_holds_11 : decode cX1_holds 11 = .ok (.iconst 5, 1) := by decide +kernel
theorem dX1_holds_12 : decode cX1_holds 12 = .ok (.if_icmp .ne 7, 3) := by decide +kernel
theorem dX1_holds_15 : decode cX1_holds 15 = .ok (.iconst 1, 1) := by decide +kernel
theorem dX1_holds_16 : decode cX1_holds 16 = .ok (.goto 4, 3) := by decide +kernel
theorem dX1_holds_19 : decode cX1_holds 19 = .ok (.iconst 0, 1) := by decide +kernel
theorem dX1_holds_20 : decode cX1_holds 20 = .ok (.ireturn, 1) := by decide +kernel
theorem dX1_holds_21 : decode cX1_holds 21 = .ok (.iload_n 0, 1) := by decide +kernel
theorem dX1_holds_22 : decode cX1_holds 22 = .ok (.tableswitch 89 0 4 #[34, 45, 56, 67, 78], 34) := by decide +kernel
theorem dX1_holds_56 : decode cX1_holds 56 = .ok (.iload_n 1, 1) := by decide +kernel
theorem dX1_holds_57 : decode cX1_holds 57 = .ok (.iload_n 2, 1) := by decide +kernel
theorem dX1_holds_58 : decode cX1_holds 58 = .ok (.if_icmp .ge 7, 3) := by decide +kernel
theorem dX1_holds_61 : decode cX1_holds 61 = .ok (.iconst 1, 1) := by decide +kernel
theorem dX1_holds_62 : decode cX1_holds 62 = .ok (.goto 4, 3) := by decide +kernel
theorem dX1_holds_65 : decode cX1_holds 65 = .ok (.iconst 0, 1) := by decide +kernel
theorem dX1_holds_66 : decode cX1_holds 66 = .ok (.ireturn, 1) := by decide +kernel
theorem dX1_holds_67 : decode cX1_holds 67 = .ok (.iload_n 1, 1) := by decide +kernel
theorem dX1_holds_68 : decode cX1_holds 68 = .ok (.iload_n 2, 1) := by decide +kernel
theorem dX1_holds_69 : decode cX1_holds 69 = .ok (.if_icmp .gt 7, 3) := by decide +kernel
theorem dX1_holds_72 : decode cX1_holds 72 = .ok (.iconst 1, 1) := by decide +kernel
theorem dX1_holds_73 : decode cX1_holds 73 = .ok (.goto 4, 3) := by decide +kernel
theorem dX1_holds_76 : decode cX1_holds 76 = .ok (.iconst 0, 1) := by decide +kernel
theorem dX1_holds_77 : decode cX1_holds 77 = .ok (.ireturn, 1) := by decide +kernel
theorem dX1_holds_78 : decode cX1_holds 78 = .ok (.iload_n 1, 1) := by decide +kernel
theorem dX1_holds_79 : decode cX1_holds 79 = .ok (.iload_n 2, 1) := by decide +kernel
theorem dX1_holds_80 : decode cX1_holds 80 = .ok (.if_icmp .le 7, 3) := by decide +kernel
theorem dX1_holds_83 : decode cX1_holds 83 = .ok (.iconst 1, 1) := by decide +kernel
theorem dX1_holds_84 : decode cX1_holds 84 = .ok (.goto 4, 3) := by decide +kernel
theorem dX1_holds_87 : decode cX1_holds 87 = .ok (.iconst 0, 1) := by decide +kernel
theorem dX1_holds_88 : decode cX1_holds 88 = .ok (.ireturn, 1) := by decide +kernel
theorem dX1_holds_89 : decode cX1_holds 89 = .ok (.iload_n 1, 1) := by decide +kernel
theorem dX1_holds_90 : decode cX1_holds 90 = .ok (.iload_n 2, 1) := by decide +kernel
theorem dX1_holds_91 : decode cX1_holds 91 = .ok (.if_icmp .lt 7, 3) := by decide +kernel
theorem dX1_holds_94 : decode cX1_holds 94 = .ok (.iconst 1, 1) := by decide +kernel
theorem dX1_holds_95 : decode cX1_holds 95 = .ok (.goto 4, 3) := by decide +kernel
theorem dX1_holds_98 : decode cX1_holds 98 = .ok (.iconst 0, 1) := by decide +kernel
theorem dX1_holds_99 : decode cX1_holds 99 = .ok (.ireturn, 1) := by decide +kernel
theorem dX1_holds_100 : decode cX1_holds 100 = .ok (.iload_n 1, 1) := by decide +kernel
theorem dX1_holds_101 : decode cX1_holds 101 = .ok (.iload_n 2, 1) := by decide +kernel
theorem dX1_holds_102 : decode cX1_holds 102 = .ok (.if_icmp .ne 7, 3) := by decide +kernel
theorem dX1_holds_105 : decode cX1_holds 105 = .ok (.iconst 1, 1) := by decide +kernel
theorem dX1_holds_106 : decode cX1_holds 106 = .ok (.goto 4, 3) := by decide +kernel
theorem dX1_holds_109 : decode cX1_holds 109 = .ok (.iconst 0, 1) := by decide +kernel
theorem dX1_holds_110 : decode cX1_holds 110 = .ok (.ireturn, 1) := by decide +kernel
theorem dX1_holds_111 : decode cX1_holds 111 = .ok (.iload_n 1, 1) := by decide +kernel
theorem dX1_holds_112 : decode cX1_holds 112 = .ok (.iload_n 2, 1) := by decide +kernel
theorem dX1_holds_113 : decode cX1_holds 113 = .ok (.if_icmp .eq 7, 3) := by decide +kernel
theorem dX1_holds_116 : decode cX1_holds 116 = .ok (.iconst 1, 1) := by decide +kernel
theorem dX1_holds_117 : decode cX1_holds 117 = .ok (.goto 4, 3) := by decide +kernel
theorem dX1_holds_120 : decode cX1_holds 120 = .ok (.iconst 0, 1) := by decide +kernel
theorem dX1_holds_121 : decode cX1_holds 121 = .ok (.ireturn, 1) := by decide +kernel
theorem dX1_admit_0 : decode cX1_admit 0 = .ok (.aload_n 0, 1) := by decide +kernel
theorem dX1_admit_1 : decode cX1_admit 1 = .ok (.getfield 35, 3) := by decide +kernel
theorem dX1_admit_4 : decode cX1_admit 4 = .ok (.bipush 8, 2) := by decide +kernel
theorem dX1_admit_6 : decode cX1_admit 6 = .ok (.if_icmp .ne 5, 3) := by decide +kernel
theorem dX1_admit_9 : decode cX1_admit 9 = .ok (.iconst (-1), 1) := by decide +kernel
theorem dX1_admit_10 : decode cX1_admit 10 = .ok (.ireturn, 1) := by decide +kernel
theorem dX1_admit_11 : decode cX1_admit 11 = .ok (.aload_n 0, 1) := by decide +kernel
theorem dX1_admit_12 : decode cX1_admit 12 = .ok (.getfield 19, 3) := by decide +kernel
theorem dX1_admit_15 : decode cX1_admit 15 = .ok (.aload_n 0, 1) := by decide +kernel
theorem dX1_admit_16 : decode cX1_admit 16 = .ok (.getfield 35, 3) := by decide +kernel
theorem dX1_admit_19 : decode cX1_admit 19 = .ok (.iconst 0, 1) := by decide +kernel
theorem dX1_admit_20 : decode cX1_admit 20 = .ok (.iastore, 1) := by decide +kernel
theorem dX1_admit_21 : decode cX1_admit 21 = .ok (.aload_n 0, 1) := by decide +kernel
theorem dX1_admit_22 : decode cX1_admit 22 = .ok (.getfield 23, 3) := by decide +kernel
theorem dX1_admit_25 : decode cX1_admit 25 = .ok (.aload_n 0, 1) := by decide +kernel
theorem dX1_admit_26 : decode cX1_admit 26 = .ok (.getfield 35, 3) := by decide +kernel
theorem dX1_admit_29 : decode cX1_admit 29 = .ok (.iconst (-1), 1) := by decide +kernel
theorem dX1_admit_30 : decode cX1_admit 30 = .ok (.iastore, 1) := by decide +kernel
theorem dX1_admit_31 : decode cX1_admit 31 = .ok (.aload_n 0, 1) := by decide +kernel
theorem dX1_admit_32 : decode cX1_admit 32 = .ok (.getfield 26, 3) := by decide +kernel
theorem dX1_admit_35 : decode cX1_admit 35 = .ok (.aload_n 0, 1) := by decide +kernel
theorem dX1_admit_36 : decode cX1_admit 36 = .ok (.getfield 35, 3) := by decide +kernel
theorem dX1_admit_39 : decode cX1_admit 39 = .ok (.iconst 0, 1) := by decide +kernel
theorem dX1_admit_40 : decode cX1_admit 40 = .ok (.iastore, 1) := by decide +kernel
theorem dX1_admit_41 : decode cX1_admit 41 = .ok (.aload_n 0, 1) := by decide +kernel
theorem dX1_admit_42 : decode cX1_admit 42 = .ok (.dup, 1) := by decide +kernel
theorem dX1_admit_43 : decode cX1_admit 43 = .ok (.getfield 35, 3) := by decide +kernel
theorem dX1_admit_46 : decode cX1_admit 46 = .ok (.iconst 1, 1) := by decide +kernel
theorem dX1_admit_47 : decode cX1_admit 47 = .ok (.iadd, 1) := by decide +kernel
theorem dX1_admit_48 : decode cX1_admit 48 = .ok (.putfield 35, 3) := by decide +kernel
theorem dX1_admit_51 : decode cX1_admit 51 = .ok (.aload_n 0, 1) := by decide +kernel
theorem dX1_admit_52 : decode cX1_admit 52 = .ok (.getfield 35, 3) := by decide +kernel
theorem dX1_admit_55 : decode cX1_admit 55 = .ok (.iconst 1, 1) := by decide +kernel
theorem dX1_admit_56 : decode cX1_admit 56 = .ok (.isub, 1) := by decide +kernel
theorem dX1_admit_57 : decode cX1_admit 57 = .ok (.ireturn, 1) := by decide +kernel
set_option maxRecDepth 20000 in
theorem ggX1_prize_X1_isRate : GoodIn wsX1_prize wsX1_isRate := goodIn_r _ [5] (by decide +kernel) (by decide +kernel)
set_option maxRecDepth 20000 in
theorem gX1_prize_X1_isRate : GoodIn wsX1_prize (va_wsS RX1 38 yX1_isRate wsX1_isRate) := goodIn_app (goodIn_of _ (by decide +kernel)) ggX1_prize_X1_isRate
theorem dX1_prize_0 : decode cX1_prize 0 = .ok (.iload_n 1, 1) := by decide +kernel
theorem dX1_prize_1 : decode cX1_prize 1 = .ok (.invokestatic 38, 3) := by decide +kernel
theorem dX1_prize_4 : decode cX1_prize 4 = .ok (.ifCond .ne 5, 3) := by decide +kernel
theorem dX1_prize_7 : decode cX1_prize 7 = .ok (.iconst 0, 1) := by decide +kernel
theorem dX1_prize_8 : decode cX1_prize 8 = .ok (.ireturn, 1) := by decide +kernel
theorem dX1_prize_9 : decode cX1_prize 9 = .ok (.aload_n 0, 1) := by decide +kernel
theorem dX1_prize_10 : decode cX1_prize 10 = .ok (.iload_n 1, 1) := by decide +kernel
theorem dX1_prize_11 : decode cX1_prize 11 = .ok (.putfield 9, 3) := by decide +kernel
theorem dX1_prize_14 : decode cX1_prize 14 = .ok (.iconst 1, 1) := by decide +kernel
theorem dX1_prize_15 : decode cX1_prize 15 = .ok (.ireturn, 1) := by decide +kernel
set_option maxRecDepth 20000 in
theorem ggX1_frost_X1_isChill : GoodIn wsX1_frost wsX1_isChill := goodIn_r _ [5] (by decide +kernel) (by decide +kernel)
set_option maxRecDepth 20000 in
theorem gX1_frost_X1_isChill : GoodIn wsX1_frost (va_wsS RX1 42 yX1_isChill wsX1_isChill) := goodIn_app (goodIn_of _ (by decide +kernel)) ggX1_frost_X1_isChill
theorem dX1_frost_0 : decode cX1_frost 0 = .ok (.iload_n 1, 1) := by decide +kernel
theorem dX1_frost_1 : decode cX1_frost 1 = .ok (.invokestatic 42, 3) := by decide +kernel
theorem dX1_frost_4 : decode cX1_frost 4 = .ok (.ifCond .ne 5, 3) := by decide +kernel
theorem dX1_frost_7 : decode cX1_frost 7 = .ok (.iconst 0, 1) := by decide +kernel
theorem dX1_frost_8 : decode cX1_frost 8 = .ok (.ireturn, 1) := by decide +kernel
theorem dX1_frost_9 : decode cX1_frost 9 = .ok (.aload_n 0, 1) := by decide +kernel
theorem dX1_frost_10 : decode cX1_frost 10 = .ok (.iload_n 1, 1) := by decide +kernel
theorem dX1_frost_11 : decode cX1_frost 11 = .ok (.putfield 13, 3) := by decide +kernel
theorem dX1_frost_14 : decode cX1_frost 14 = .ok (.iconst 1, 1) := by decide +kernel
theorem dX1_frost_15 : decode cX1_frost 15 = .ok (.ireturn, 1) := by decide +kernel
set_option maxRecDepth 20000 in
theorem ggX1_isCold_X1_holds : GoodIn wsX1_isCold wsX1_holds := goodIn_r _ [5] (by decide +kernel) (by decide +kernel)
set_option maxRecDepth 20000 in
theorem gX1_isCold_X1_holds : GoodIn wsX1_isCold (va_wsS RX1 45 yX1_holds wsX1_holds) := goodIn_app (goodIn_of _ (by decide +kernel)) ggX1_isCold_X1_holds
theorem dX1_isCold_0 : decode cX1_isCold 0 = .ok (.iconst 1, 1) := by decide +kernel
theorem dX1_isCold_1 : decode cX1_isCold 1 = .ok (.iload_n 1, 1) := by decide +kernel
theorem dX1_isCold_2 : decode cX1_isCold 2 = .ok (.aload_n 0, 1) := by decide +kernel
theorem dX1_isCold_3 : decode cX1_isCold 3 = .ok (.getfield 13, 3) := by decide +kernel
theorem dX1_isCold_6 : decode cX1_isCold 6 = .ok (.bipush 100, 2) := by decide +kernel
theorem dX1_isCold_8 : decode cX1_isCold 8 = .ok (.invokestatic 45, 3) := by decide +kernel
theorem dX1_isCold_11 : decode cX1_isCold 11 = .ok (.ireturn, 1) := by decide +kernel
set_option maxRecDepth 20000 in
theorem ggX1_beats_X1_holds : GoodIn wsX1_beats wsX1_holds := goodIn_r _ [4] (by decide +kernel) (by decide +kernel)
set_option maxRecDepth 20000 in
theorem gX1_beats_X1_holds : GoodIn wsX1_beats (va_wsS RX1 45 yX1_holds wsX1_holds) := goodIn_app (goodIn_of _ (by decide +kernel)) ggX1_beats_X1_holds
theorem dX1_beats_0 : decode cX1_beats 0 = .ok (.iload_n 0, 1) := by decide +kernel
theorem dX1_beats_1 : decode cX1_beats 1 = .ok (.iconst (-1), 1) := by decide +kernel
theorem dX1_beats_2 : decode cX1_beats 2 = .ok (.if_icmp .eq 17, 3) := by decide +kernel
theorem dX1_beats_5 : decode cX1_beats 5 = .ok (.iconst 1, 1) := by decide +kernel
theorem dX1_beats_6 : decode cX1_beats 6 = .ok (.iload_n 1, 1) := by decide +kernel
theorem dX1_beats_7 : decode cX1_beats 7 = .ok (.iload_n 0, 1) := by decide +kernel
theorem dX1_beats_8 : decode cX1_beats 8 = .ok (.iconst (-1), 1) := by decide +kernel
theorem dX1_beats_9 : decode cX1_beats 9 = .ok (.invokestatic 45, 3) := by decide +kernel
theorem dX1_beats_12 : decode cX1_beats 12 = .ok (.ifCond .ne 7, 3) := by decide +kernel
theorem dX1_beats_15 : decode cX1_beats 15 = .ok (.iconst 1, 1) := by decide +kernel
theorem dX1_beats_16 : decode cX1_beats 16 = .ok (.goto 4, 3) := by decide +kernel
theorem dX1_beats_19 : decode cX1_beats 19 = .ok (.iconst 0, 1) := by decide +kernel
theorem dX1_beats_20 : decode cX1_beats 20 = .ok (.ireturn, 1) := by decide +kernel
set_option maxRecDepth 20000 in
theorem ggX1_trial_X1_isClock : GoodIn wsX1_trial wsX1_isClock := goodIn_r _ [11, 12, 30, 31, 32, 33, 34, 35, 36, 37, 38] (by decide +kernel) (by decide +kernel)
set_option maxRecDepth 20000 in
theorem gX1_trial_X1_isClock : GoodIn wsX1_trial (wsV RX1 49 RX1 yX1_isClock wsX1_isClock) := goodIn_app (goodIn_of _ (by decide +kernel)) ggX1_trial_X1_isClock
set_option maxRecDepth 20000 in
theorem ggX1_trial_X1_isRate : GoodIn wsX1_trial wsX1_isRate := goodIn_r _ [15] (by decide +kernel) (by decide +kernel)
set_option maxRecDepth 20000 in
theorem gX1_trial_X1_isRate : GoodIn wsX1_trial (va_wsS RX1 38 yX1_isRate wsX1_isRate) := goodIn_app (goodIn_of _ (by decide +kernel)) ggX1_trial_X1_isRate
set_option maxRecDepth 20000 in
theorem ggX1_trial_X1_isChill : GoodIn wsX1_trial wsX1_isChill := goodIn_r _ [18] (by decide +kernel) (by decide +kernel)
set_option maxRecDepth 20000 in
theorem gX1_trial_X1_isChill : GoodIn wsX1_trial (va_wsS RX1 42 yX1_isChill wsX1_isChill) := goodIn_app (goodIn_of _ (by decide +kernel)) ggX1_trial_X1_isChill
set_option maxRecDepth 20000 in
theorem ggX1_trial_X1_isCold : GoodIn wsX1_trial wsX1_isCold := goodIn_r _ [22, 23, 24, 25, 10, 26, 30, 31, 32, 33, 34, 35, 36, 37, 38] (by decide +kernel) (by decide +kernel)
set_option maxRecDepth 20000 in
theorem gX1_trial_X1_isCold : GoodIn wsX1_trial (wsV RX1 52 RX1 yX1_isCold wsX1_isCold) := goodIn_app (goodIn_of _ (by decide +kernel)) ggX1_trial_X1_isCold
set_option maxRecDepth 20000 in
theorem ggX1_trial_X1_holds : GoodIn wsX1_trial wsX1_holds := goodIn_r _ [26] (by decide +kernel) (by decide +kernel)
set_option maxRecDepth 20000 in
theorem gX1_trial_X1_holds : GoodIn wsX1_trial (va_wsS RX1 45 yX1_holds wsX1_holds) := goodIn_app (goodIn_of _ (by decide +kernel)) ggX1_trial_X1_holds
set_option maxRecDepth 20000 in
theorem ggX1_trial_X1_beats : GoodIn wsX1_trial wsX1_beats := goodIn_r _ [29, 24, 25, 10, 26] (by decide +kernel) (by decide +kernel)
set_option maxRecDepth 20000 in
theorem gX1_trial_X1_beats : GoodIn wsX1_trial (va_wsS RX1 55 yX1_beats wsX1_beats) := goodIn_app (goodIn_of _ (by decide +kernel)) ggX1_trial_X1_beats
theorem dX1_trial_0 : decode cX1_trial 0 = .ok (.aload_n 0, 1) := by decide +kernel
theorem dX1_trial_1 : decode cX1_trial 1 = .ok (.iload_n 1, 1) := by decide +kernel
theorem dX1_trial_2 : decode cX1_trial 2 = .ok (.invokevirtual 49, 3) := by decide +kernel
theorem dX1_trial_5 : decode cX1_trial 5 = .ok (.ifCond .eq 28, 3) := by decide +kernel
theorem dX1_trial_8 : decode cX1_trial 8 = .ok (.aload_n 0, 1) := by decide +kernel
theorem dX1_trial_9 : decode cX1_trial 9 = .ok (.getfield 19, 3) := by decide +kernel
theorem dX1_trial_12 : decode cX1_trial 12 = .ok (.iload_n 1, 1) := by decide +kernel
theorem dX1_trial_13 : decode cX1_trial 13 = .ok (.iaload, 1) := by decide +kernel
theorem dX1_trial_14 : decode cX1_trial 14 = .ok (.bipush 6, 2) := by decide +kernel
theorem dX1_trial_16 : decode cX1_trial 16 = .ok (.if_icmp .eq 17, 3) := by decide +kernel
theorem dX1_trial_19 : decode cX1_trial 19 = .ok (.iload_n 2, 1) := by decide +kernel
theorem dX1_trial_20 : decode cX1_trial 20 = .ok (.invokestatic 38, 3) := by decide +kernel
theorem dX1_trial_23 : decode cX1_trial 23 = .ok (.ifCond .eq 10, 3) := by decide +kernel
theorem dX1_trial_26 : decode cX1_trial 26 = .ok (.iload_n 3, 1) := by decide +kernel
theorem dX1_trial_27 : decode cX1_trial 27 = .ok (.invokestatic 42, 3) := by decide +kernel
theorem dX1_trial_30 : decode cX1_trial 30 = .ok (.ifCond .ne 5, 3) := by decide +kernel
theorem dX1_trial_33 : decode cX1_trial 33 = .ok (.iconst (-1), 1) := by decide +kernel
theorem dX1_trial_34 : decode cX1_trial 34 = .ok (.ireturn, 1) := by decide +kernel
theorem dX1_trial_35 : decode cX1_trial 35 = .ok (.bipush 6, 2) := by decide +kernel
theorem dX1_trial_37 : decode cX1_trial 37 = .ok (.iload_n 1, 1) := by decide +kernel
theorem dX1_trial_38 : decode cX1_trial 38 = .ok (.imul, 1) := by decide +kernel
theorem dX1_trial_39 : decode cX1_trial 39 = .ok (.aload_n 0, 1) := by decide +kernel
theorem dX1_trial_40 : decode cX1_trial 40 = .ok (.getfield 19, 3) := by decide +kernel
theorem dX1_trial_43 : decode cX1_trial 43 = .ok (.iload_n 1, 1) := by decide +kernel
theorem dX1_trial_44 : decode cX1_trial 44 = .ok (.iaload, 1) := by decide +kernel
theorem dX1_trial_45 : decode cX1_trial 45 = .ok (.iadd, 1) := by decide +kernel
theorem dX1_trial_46 : decode cX1_trial 46 = .ok (.istore 4, 2) := by decide +kernel
theorem dX1_trial_48 : decode cX1_trial 48 = .ok (.aload_n 0, 1) := by decide +kernel
theorem dX1_trial_49 : decode cX1_trial 49 = .ok (.getfield 29, 3) := by decide +kernel
theorem dX1_trial_52 : decode cX1_trial 52 = .ok (.iload 4, 2) := by decide +kernel
theorem dX1_trial_54 : decode cX1_trial 54 = .ok (.iload_n 2, 1) := by decide +kernel
theorem dX1_trial_55 : decode cX1_trial 55 = .ok (.iastore, 1) := by decide +kernel
theorem dX1_trial_56 : decode cX1_trial 56 = .ok (.aload_n 0, 1) := by decide +kernel
theorem dX1_trial_57 : decode cX1_trial 57 = .ok (.getfield 32, 3) := by decide +kernel
theorem dX1_trial_60 : decode cX1_trial 60 = .ok (.iload 4, 2) := by decide +kernel
theorem dX1_trial_62 : decode cX1_trial 62 = .ok (.iload_n 3, 1) := by decide +kernel
theorem dX1_trial_63 : decode cX1_trial 63 = .ok (.iastore, 1) := by decide +kernel
theorem dX1_trial_64 : decode cX1_trial 64 = .ok (.aload_n 0, 1) := by decide +kernel
theorem dX1_trial_65 : decode cX1_trial 65 = .ok (.getfield 19, 3) := by decide +kernel
theorem dX1_trial_68 : decode cX1_trial 68 = .ok (.iload_n 1, 1) := by decide +kernel
theorem dX1_trial_69 : decode cX1_trial 69 = .ok (.dup2, 1) := by decide +kernel
theorem dX1_trial_70 : decode cX1_trial 70 = .ok (.iaload, 1) := by decide +kernel
theorem dX1_trial_71 : decode cX1_trial 71 = .ok (.iconst 1, 1) := by decide +kernel
theorem dX1_trial_72 : decode cX1_trial 72 = .ok (.iadd, 1) := by decide +kernel
theorem dX1_trial_73 : decode cX1_trial 73 = .ok (.iastore, 1) := by decide +kernel
theorem dX1_trial_74 : decode cX1_trial 74 = .ok (.aload_n 0, 1) := by decide +kernel
theorem dX1_trial_75 : decode cX1_trial 75 = .ok (.iload_n 3, 1) := by decide +kernel
theorem dX1_trial_76 : decode cX1_trial 76 = .ok (.invokevirtual 52, 3) := by decide +kernel
theorem dX1_trial_79 : decode cX1_trial 79 = .ok (.istore 5, 2) := by decide +kernel
theorem dX1_trial_81 : decode cX1_trial 81 = .ok (.iconst 1, 1) := by decide +kernel
theorem dX1_trial_82 : decode cX1_trial 82 = .ok (.iload_n 2, 1) := by decide +kernel
theorem dX1_trial_83 : decode cX1_trial 83 = .ok (.aload_n 0, 1) := by decide +kernel
theorem dX1_trial_84 : decode cX1_trial 84 = .ok (.getfield 9, 3) := by decide +kernel
theorem dX1_trial_87 : decode cX1_trial 87 = .ok (.iconst (-1), 1) := by decide +kernel
theorem dX1_trial_88 : decode cX1_trial 88 = .ok (.invokestatic 45, 3) := by decide +kernel
theorem dX1_trial_91 : decode cX1_trial 91 = .ok (.istore 6, 2) := by decide +kernel
theorem dX1_trial_93 : decode cX1_trial 93 = .ok (.iload_n 2, 1) := by decide +kernel
theorem dX1_trial_94 : decode cX1_trial 94 = .ok (.aload_n 0, 1) := by decide +kernel
theorem dX1_trial_95 : decode cX1_trial 95 = .ok (.getfield 23, 3) := by decide +kernel
theorem dX1_trial_98 : decode cX1_trial 98 = .ok (.iload_n 1, 1) := by decide +kernel
theorem dX1_trial_99 : decode cX1_trial 99 = .ok (.iaload, 1) := by decide +kernel
theorem dX1_trial_100 : decode cX1_trial 100 = .ok (.invokestatic 55, 3) := by decide +kernel
theorem dX1_trial_103 : decode cX1_trial 103 = .ok (.istore 7, 2) := by decide +kernel
theorem dX1_trial_105 : decode cX1_trial 105 = .ok (.iload 5, 2) := by decide +kernel
theorem dX1_trial_107 : decode cX1_trial 107 = .ok (.ifCond .eq 18, 3) := by decide +kernel
theorem dX1_trial_110 : decode cX1_trial 110 = .ok (.iload_n 2, 1) := by decide +kernel
theorem dX1_trial_111 : decode cX1_trial 111 = .ok (.aload_n 0, 1) := by decide +kernel
theorem dX1_trial_112 : decode cX1_trial 112 = .ok (.getfield 16, 3) := by decide +kernel
theorem dX1_trial_115 : decode cX1_trial 115 = .ok (.invokestatic 55, 3) := by decide +kernel
theorem dX1_trial_118 : decode cX1_trial 118 = .ok (.ifCond .eq 7, 3) := by decide +kernel
theorem dX1_trial_121 : decode cX1_trial 121 = .ok (.iconst 1, 1) := by decide +kernel
theorem dX1_trial_122 : decode cX1_trial 122 = .ok (.goto 4, 3) := by decide +kernel
theorem dX1_trial_125 : decode cX1_trial 125 = .ok (.iconst 0, 1) := by decide +kernel
theorem dX1_trial_126 : decode cX1_trial 126 = .ok (.istore 8, 2) := by decide +kernel
theorem dX1_trial_128 : decode cX1_trial 128 = .ok (.aload_n 0, 1) := by decide +kernel
theorem dX1_trial_129 : decode cX1_trial 129 = .ok (.getfield 23, 3) := by decide +kernel
theorem dX1_trial_132 : decode cX1_trial 132 = .ok (.iload_n 1, 1) := by decide +kernel
theorem dX1_trial_133 : decode cX1_trial 133 = .ok (.iload 7, 2) := by decide +kernel
theorem dX1_trial_135 : decode cX1_trial 135 = .ok (.ifCond .eq 7, 3) := by decide +kernel
theorem dX1_trial_138 : decode cX1_trial 138 = .ok (.iload_n 2, 1) := by decide +kernel
theorem dX1_trial_139 : decode cX1_trial 139 = .ok (.goto 9, 3) := by decide +kernel
theorem dX1_trial_142 : decode cX1_trial 142 = .ok (.aload_n 0, 1) := by decide +kernel
theorem dX1_trial_143 : decode cX1_trial 143 = .ok (.getfield 23, 3) := by decide +kernel
theorem dX1_trial_146 : decode cX1_trial 146 = .ok (.iload_n 1, 1) := by decide +kernel
theorem dX1_trial_147 : decode cX1_trial 147 = .ok (.iaload, 1) := by decide +kernel
theorem dX1_trial_148 : decode cX1_trial 148 = .ok (.iastore, 1) := by decide +kernel
theorem dX1_trial_149 : decode cX1_trial 149 = .ok (.aload_n 0, 1) := by decide +kernel
theorem dX1_trial_150 : decode cX1_trial 150 = .ok (.iload 8, 2) := by decide +kernel
theorem dX1_trial_152 : decode cX1_trial 152 = .ok (.ifCond .eq 7, 3) := by decide +kernel
theorem dX1_trial_155 : decode cX1_trial 155 = .ok (.iload_n 2, 1) := by decide +kernel
theorem dX1_trial_156 : decode cX1_trial 156 = .ok (.goto 7, 3) := by decide +kernel
theorem dX1_trial_159 : decode cX1_trial 159 = .ok (.aload_n 0, 1) := by decide +kernel
theorem dX1_trial_160 : decode cX1_trial 160 = .ok (.getfield 16, 3) := by decide +kernel
theorem dX1_trial_163 : decode cX1_trial 163 = .ok (.putfield 16, 3) := by decide +kernel
theorem dX1_trial_166 : decode cX1_trial 166 = .ok (.iload 5, 2) := by decide +kernel
theorem dX1_trial_168 : decode cX1_trial 168 = .ok (.ifCond .eq 7, 3) := by decide +kernel
theorem dX1_trial_171 : decode cX1_trial 171 = .ok (.iconst 1, 1) := by decide +kernel
theorem dX1_trial_172 : decode cX1_trial 172 = .ok (.goto 4, 3) := by decide +kernel
theorem dX1_trial_175 : decode cX1_trial 175 = .ok (.iconst 0, 1) := by decide +kernel
theorem dX1_trial_176 : decode cX1_trial 176 = .ok (.iload 6, 2) := by decide +kernel
theorem dX1_trial_178 : decode cX1_trial 178 = .ok (.ifCond .eq 7, 3) := by decide +kernel
theorem dX1_trial_181 : decode cX1_trial 181 = .ok (.iconst 2, 1) := by decide +kernel
theorem dX1_trial_182 : decode cX1_trial 182 = .ok (.goto 4, 3) := by decide +kernel
theorem dX1_trial_185 : decode cX1_trial 185 = .ok (.iconst 0, 1) := by decide +kernel
theorem dX1_trial_186 : decode cX1_trial 186 = .ok (.iadd, 1) := by decide +kernel
theorem dX1_trial_187 : decode cX1_trial 187 = .ok (.iload 7, 2) := by decide +kernel
theorem dX1_trial_189 : decode cX1_trial 189 = .ok (.ifCond .eq 7, 3) := by decide +kernel
theorem dX1_trial_192 : decode cX1_trial 192 = .ok (.iconst 4, 1) := by decide +kernel
theorem dX1_trial_193 : decode cX1_trial 193 = .ok (.goto 4, 3) := by decide +kernel
theorem dX1_trial_196 : decode cX1_trial 196 = .ok (.iconst 0, 1) := by decide +kernel
theorem dX1_trial_197 : decode cX1_trial 197 = .ok (.iadd, 1) := by decide +kernel
theorem dX1_trial_198 : decode cX1_trial 198 = .ok (.iload 8, 2) := by decide +kernel
theorem dX1_trial_200 : decode cX1_trial 200 = .ok (.ifCond .eq 8, 3) := by decide +kernel
theorem dX1_trial_203 : decode cX1_trial 203 = .ok (.bipush 8, 2) := by decide +kernel
theorem dX1_trial_205 : decode cX1_trial 205 = .ok (.goto 4, 3) := by decide +kernel
theorem dX1_trial_208 : decode cX1_trial 208 = .ok (.iconst 0, 1) := by decide +kernel
theorem dX1_trial_209 : decode cX1_trial 209 = .ok (.iadd, 1) := by decide +kernel
theorem dX1_trial_210 : decode cX1_trial 210 = .ok (.ireturn, 1) := by decide +kernel
set_option maxRecDepth 20000 in
theorem ggX1_annul_X1_isClock : GoodIn wsX1_annul wsX1_isClock := goodIn_r _ [8, 9, 16, 17, 18, 19, 20, 21, 22, 23, 24] (by decide +kernel) (by decide +kernel)
set_option maxRecDepth 20000 in
theorem gX1_annul_X1_isClock : GoodIn wsX1_annul (wsV RX1 49 RX1 yX1_isClock wsX1_isClock) := goodIn_app (goodIn_of _ (by decide +kernel)) ggX1_annul_X1_isClock
set_option maxRecDepth 20000 in
theorem ggX1_annul_X1_beats : GoodIn wsX1_annul wsX1_beats := goodIn_r _ [12, 13, 14, 7, 15] (by decide +kernel) (by decide +kernel)
set_option maxRecDepth 20000 in
theorem gX1_annul_X1_beats : GoodIn wsX1_annul (va_wsS RX1 55 yX1_beats wsX1_beats) := goodIn_app (goodIn_of _ (by decide +kernel)) ggX1_annul_X1_beats
theorem dX1_annul_0 : decode cX1_annul 0 = .ok (.aload_n 0, 1) := by decide +kernel
theorem dX1_annul_1 : decode cX1_annul 1 = .ok (.iload_n 1, 1) := by decide +kernel
theorem dX1_annul_2 : decode cX1_annul 2 = .ok (.invokevirtual 49, 3) := by decide +kernel
theorem dX1_annul_5 : decode cX1_annul 5 = .ok (.ifCond .eq 12, 3) := by decide +kernel
theorem dX1_annul_8 : decode cX1_annul 8 = .ok (.aload_n 0, 1) := by decide +kernel
theorem dX1_annul_9 : decode cX1_annul 9 = .ok (.getfield 19, 3) := by decide +kernel
theorem dX1_annul_12 : decode cX1_annul 12 = .ok (.iload_n 1, 1) := by decide +kernel
theorem dX1_annul_13 : decode cX1_annul 13 = .ok (.iaload, 1) := by decide +kernel
theorem dX1_annul_14 : decode cX1_annul 14 = .ok (.ifCond .ne 5, 3) := by decide +kernel
theorem dX1_annul_17 : decode cX1_annul 17 = .ok (.iconst (-1), 1) := by decide +kernel
theorem dX1_annul_18 : decode cX1_annul 18 = .ok (.ireturn, 1) := by decide +kernel
theorem dX1_annul_19 : decode cX1_annul 19 = .ok (.aload_n 0, 1) := by decide +kernel
theorem dX1_annul_20 : decode cX1_annul 20 = .ok (.getfield 19, 3) := by decide +kernel
theorem dX1_annul_23 : decode cX1_annul 23 = .ok (.iload_n 1, 1) := by decide +kernel
theorem dX1_annul_24 : decode cX1_annul 24 = .ok (.dup2, 1) := by decide +kernel
theorem dX1_annul_25 : decode cX1_annul 25 = .ok (.iaload, 1) := by decide +kernel
theorem dX1_annul_26 : decode cX1_annul 26 = .ok (.iconst 1, 1) := by decide +kernel
theorem dX1_annul_27 : decode cX1_annul 27 = .ok (.isub, 1) := by decide +kernel
theorem dX1_annul_28 : decode cX1_annul 28 = .ok (.iastore, 1) := by decide +kernel
theorem dX1_annul_29 : decode cX1_annul 29 = .ok (.aload_n 0, 1) := by decide +kernel
theorem dX1_annul_30 : decode cX1_annul 30 = .ok (.getfield 23, 3) := by decide +kernel
theorem dX1_annul_33 : decode cX1_annul 33 = .ok (.iload_n 1, 1) := by decide +kernel
theorem dX1_annul_34 : decode cX1_annul 34 = .ok (.iconst (-1), 1) := by decide +kernel
theorem dX1_annul_35 : decode cX1_annul 35 = .ok (.iastore, 1) := by decide +kernel
theorem dX1_annul_36 : decode cX1_annul 36 = .ok (.iconst 0, 1) := by decide +kernel
theorem dX1_annul_37 : decode cX1_annul 37 = .ok (.istore_n 2, 1) := by decide +kernel
theorem dX1_annul_38 : decode cX1_annul 38 = .ok (.iload_n 2, 1) := by decide +kernel
theorem dX1_annul_39 : decode cX1_annul 39 = .ok (.aload_n 0, 1) := by decide +kernel
theorem dX1_annul_40 : decode cX1_annul 40 = .ok (.getfield 19, 3) := by decide +kernel
theorem dX1_annul_43 : decode cX1_annul 43 = .ok (.iload_n 1, 1) := by decide +kernel
theorem dX1_annul_44 : decode cX1_annul 44 = .ok (.iaload, 1) := by decide +kernel
theorem dX1_annul_45 : decode cX1_annul 45 = .ok (.if_icmp .ge 50, 3) := by decide +kernel
theorem dX1_annul_48 : decode cX1_annul 48 = .ok (.aload_n 0, 1) := by decide +kernel
theorem dX1_annul_49 : decode cX1_annul 49 = .ok (.getfield 29, 3) := by decide +kernel
theorem dX1_annul_52 : decode cX1_annul 52 = .ok (.bipush 6, 2) := by decide +kernel
theorem dX1_annul_54 : decode cX1_annul 54 = .ok (.iload_n 1, 1) := by decide +kernel
theorem dX1_annul_55 : decode cX1_annul 55 = .ok (.imul, 1) := by decide +kernel
theorem dX1_annul_56 : decode cX1_annul 56 = .ok (.iload_n 2, 1) := by decide +kernel
theorem dX1_annul_57 : decode cX1_annul 57 = .ok (.iadd, 1) := by decide +kernel
theorem dX1_annul_58 : decode cX1_annul 58 = .ok (.iaload, 1) := by decide +kernel
theorem dX1_annul_59 : decode cX1_annul 59 = .ok (.istore_n 3, 1) := by decide +kernel
theorem dX1_annul_60 : decode cX1_annul 60 = .ok (.aload_n 0, 1) := by decide +kernel
theorem dX1_annul_61 : decode cX1_annul 61 = .ok (.getfield 23, 3) := by decide +kernel
theorem dX1_annul_64 : decode cX1_annul 64 = .ok (.iload_n 1, 1) := by decide +kernel
theorem dX1_annul_65 : decode cX1_annul 65 = .ok (.iload_n 3, 1) := by decide +kernel
theorem dX1_annul_66 : decode cX1_annul 66 = .ok (.aload_n 0, 1) := by decide +kernel
theorem dX1_annul_67 : decode cX1_annul 67 = .ok (.getfield 23, 3) := by decide +kernel
theorem dX1_annul_70 : decode cX1_annul 70 = .ok (.iload_n 1, 1) := by decide +kernel
theorem dX1_annul_71 : decode cX1_annul 71 = .ok (.iaload, 1) := by decide +kernel
theorem dX1_annul_72 : decode cX1_annul 72 = .ok (.invokestatic 55, 3) := by decide +kernel
theorem dX1_annul_75 : decode cX1_annul 75 = .ok (.ifCond .eq 7, 3) := by decide +kernel
theorem dX1_annul_78 : decode cX1_annul 78 = .ok (.iload_n 3, 1) := by decide +kernel
theorem dX1_annul_79 : decode cX1_annul 79 = .ok (.goto 9, 3) := by decide +kernel
theorem dX1_annul_82 : decode cX1_annul 82 = .ok (.aload_n 0, 1) := by decide +kernel
theorem dX1_annul_83 : decode cX1_annul 83 = .ok (.getfield 23, 3) := by decide +kernel
theorem dX1_annul_86 : decode cX1_annul 86 = .ok (.iload_n 1, 1) := by decide +kernel
theorem dX1_annul_87 : decode cX1_annul 87 = .ok (.iaload, 1) := by decide +kernel
theorem dX1_annul_88 : decode cX1_annul 88 = .ok (.iastore, 1) := by decide +kernel
theorem dX1_annul_89 : decode cX1_annul 89 = .ok (.iinc 2 1, 3) := by decide +kernel
theorem dX1_annul_92 : decode cX1_annul 92 = .ok (.goto (-54), 3) := by decide +kernel
theorem dX1_annul_95 : decode cX1_annul 95 = .ok (.aload_n 0, 1) := by decide +kernel
theorem dX1_annul_96 : decode cX1_annul 96 = .ok (.getfield 19, 3) := by decide +kernel
theorem dX1_annul_99 : decode cX1_annul 99 = .ok (.iload_n 1, 1) := by decide +kernel
theorem dX1_annul_100 : decode cX1_annul 100 = .ok (.iaload, 1) := by decide +kernel
theorem dX1_annul_101 : decode cX1_annul 101 = .ok (.ireturn, 1) := by decide +kernel
set_option maxRecDepth 20000 in
theorem ggX1_isAhead_X1_beats : GoodIn wsX1_isAhead wsX1_beats := goodIn_r _ [5, 6, 7, 4, 8] (by decide +kernel) (by decide +kernel)
set_option maxRecDepth 20000 in
theorem gX1_isAhead_X1_beats : GoodIn wsX1_isAhead (va_wsS RX1 55 yX1_beats wsX1_beats) := goodIn_app (goodIn_of _ (by decide +kernel)) ggX1_isAhead_X1_beats
theorem dX1_isAhead_0 : decode cX1_isAhead 0 = .ok (.aload_n 0, 1) := by decide +kernel
theorem dX1_isAhead_1 : decode cX1_isAhead 1 = .ok (.getfield 23, 3) := by decide +kernel
theorem dX1_isAhead_4 : decode cX1_isAhead 4 = .ok (.iload_n 1, 1) := by decide +kernel
theorem dX1_isAhead_5 : decode cX1_isAhead 5 = .ok (.iaload, 1) := by decide +kernel
theorem dX1_isAhead_6 : decode cX1_isAhead 6 = .ok (.aload_n 0, 1) := by decide +kernel
theorem dX1_isAhead_7 : decode cX1_isAhead 7 = .ok (.getfield 23, 3) := by decide +kernel
theorem dX1_isAhead_10 : decode cX1_isAhead 10 = .ok (.iload_n 2, 1) := by decide +kernel
theorem dX1_isAhead_11 : decode cX1_isAhead 11 = .ok (.iaload, 1) := by decide +kernel
theorem dX1_isAhead_12 : decode cX1_isAhead 12 = .ok (.if_icmp .ne 14, 3) := by decide +kernel
theorem dX1_isAhead_15 : decode cX1_isAhead 15 = .ok (.iload_n 1, 1) := by decide +kernel
theorem dX1_isAhead_16 : decode cX1_isAhead 16 = .ok (.iload_n 2, 1) := by decide +kernel
theorem dX1_isAhead_17 : decode cX1_isAhead 17 = .ok (.if_icmp .ge 7, 3) := by decide +kernel
theorem dX1_isAhead_20 : decode cX1_isAhead 20 = .ok (.iconst 1, 1) := by decide +kernel
theorem dX1_isAhead_21 : decode cX1_isAhead 21 = .ok (.goto 4, 3) := by decide +kernel
theorem dX1_isAhead_24 : decode cX1_isAhead 24 = .ok (.iconst 0, 1) := by decide +kernel
theorem dX1_isAhead_25 : decode cX1_isAhead 25 = .ok (.ireturn, 1) := by decide +kernel
theorem dX1_isAhead_26 : decode cX1_isAhead 26 = .ok (.aload_n 0, 1) := by decide +kernel
theorem dX1_isAhead_27 : decode cX1_isAhead 27 = .ok (.getfield 23, 3) := by decide +kernel
theorem dX1_isAhead_30 : decode cX1_isAhead 30 = .ok (.iload_n 1, 1) := by decide +kernel
theorem dX1_isAhead_31 : decode cX1_isAhead 31 = .ok (.iaload, 1) := by decide +kernel
theorem dX1_isAhead_32 : decode cX1_isAhead 32 = .ok (.aload_n 0, 1) := by decide +kernel
theorem dX1_isAhead_33 : decode cX1_isAhead 33 = .ok (.getfield 23, 3) := by decide +kernel
theorem dX1_isAhead_36 : decode cX1_isAhead 36 = .ok (.iload_n 2, 1) := by decide +kernel
theorem dX1_isAhead_37 : decode cX1_isAhead 37 = .ok (.iaload, 1) := by decide +kernel
theorem dX1_isAhead_38 : decode cX1_isAhead 38 = .ok (.invokestatic 55, 3) := by decide +kernel
theorem dX1_isAhead_41 : decode cX1_isAhead 41 = .ok (.ireturn, 1) := by decide +kernel
set_option maxRecDepth 20000 in
theorem ggX1_ahead_X1_isAhead : GoodIn wsX1_ahead wsX1_isAhead := goodIn_r _ [6, 7, 8, 9, 5, 10, 11, 12, 13, 14, 15, 16, 17, 18, 19, 20, 21, 22] (by decide +kernel) (by decide +kernel)
set_option maxRecDepth 20000 in
theorem gX1_ahead_X1_isAhead : GoodIn wsX1_ahead (wsV RX1 59 RX1 yX1_isAhead wsX1_isAhead) := goodIn_app (goodIn_of _ (by decide +kernel)) ggX1_ahead_X1_isAhead
theorem dX1_ahead_0 : decode cX1_ahead 0 = .ok (.iconst 0, 1) := by decide +kernel
theorem dX1_ahead_1 : decode cX1_ahead 1 = .ok (.istore_n 2, 1) := by decide +kernel
theorem dX1_ahead_2 : decode cX1_ahead 2 = .ok (.iconst 0, 1) := by decide +kernel
theorem dX1_ahead_3 : decode cX1_ahead 3 = .ok (.istore_n 3, 1) := by decide +kernel
theorem dX1_ahead_4 : decode cX1_ahead 4 = .ok (.iload_n 3, 1) := by decide +kernel
theorem dX1_ahead_5 : decode cX1_ahead 5 = .ok (.aload_n 0, 1) := by decide +kernel
theorem dX1_ahead_6 : decode cX1_ahead 6 = .ok (.getfield 35, 3) := by decide +kernel
theorem dX1_ahead_9 : decode cX1_ahead 9 = .ok (.if_icmp .ge 31, 3) := by decide +kernel
theorem dX1_ahead_12 : decode cX1_ahead 12 = .ok (.iload_n 2, 1) := by decide +kernel
theorem dX1_ahead_13 : decode cX1_ahead 13 = .ok (.iload_n 3, 1) := by decide +kernel
theorem dX1_ahead_14 : decode cX1_ahead 14 = .ok (.iload_n 1, 1) := by decide +kernel
theorem dX1_ahead_15 : decode cX1_ahead 15 = .ok (.if_icmp .eq 16, 3) := by decide +kernel
theorem dX1_ahead_18 : decode cX1_ahead 18 = .ok (.aload_n 0, 1) := by decide +kernel
theorem dX1_ahead_19 : decode cX1_ahead 19 = .ok (.iload_n 3, 1) := by decide +kernel
theorem dX1_ahead_20 : decode cX1_ahead 20 = .ok (.iload_n 1, 1) := by decide +kernel
theorem dX1_ahead_21 : decode cX1_ahead 21 = .ok (.invokevirtual 59, 3) := by decide +kernel
theorem dX1_ahead_24 : decode cX1_ahead 24 = .ok (.ifCond .eq 7, 3) := by decide +kernel
theorem dX1_ahead_27 : decode cX1_ahead 27 = .ok (.iconst 1, 1) := by decide +kernel
theorem dX1_ahead_28 : decode cX1_ahead 28 = .ok (.goto 4, 3) := by decide +kernel
theorem dX1_ahead_31 : decode cX1_ahead 31 = .ok (.iconst 0, 1) := by decide +kernel
theorem dX1_ahead_32 : decode cX1_ahead 32 = .ok (.iadd, 1) := by decide +kernel
theorem dX1_ahead_33 : decode cX1_ahead 33 = .ok (.istore_n 2, 1) := by decide +kernel
theorem dX1_ahead_34 : decode cX1_ahead 34 = .ok (.iinc 3 1, 3) := by decide +kernel
theorem dX1_ahead_37 : decode cX1_ahead 37 = .ok (.goto (-33), 3) := by decide +kernel
theorem dX1_ahead_40 : decode cX1_ahead 40 = .ok (.iload_n 2, 1) := by decide +kernel
theorem dX1_ahead_41 : decode cX1_ahead 41 = .ok (.ireturn, 1) := by decide +kernel
set_option maxRecDepth 20000 in
theorem ggX1_place_X1_ahead : GoodIn wsX1_place wsX1_ahead := goodIn_r _ [6, 1, 7, 8, 9, 5, 10, 11, 12, 13, 14, 15, 16, 17, 18, 19, 20, 21, 22, 23, 24, 25, 26] (by decide +kernel) (by decide +kernel)
set_option maxRecDepth 20000 in
theorem gX1_place_X1_ahead : GoodIn wsX1_place (wsV RX1 62 RX1 yX1_ahead wsX1_ahead) := goodIn_app (goodIn_of _ (by decide +kernel)) ggX1_place_X1_ahead
theorem dX1_place_0 : decode cX1_place 0 = .ok (.iconst (-1), 1) := by decide +kernel
theorem dX1_place_1 : decode cX1_place 1 = .ok (.istore_n 2, 1) := by decide +kernel
theorem dX1_place_2 : decode cX1_place 2 = .ok (.iconst 0, 1) := by decide +kernel
theorem dX1_place_3 : decode cX1_place 3 = .ok (.istore_n 3, 1) := by decide +kernel
theorem dX1_place_4 : decode cX1_place 4 = .ok (.iload_n 3, 1) := by decide +kernel
theorem dX1_place_5 : decode cX1_place 5 = .ok (.aload_n 0, 1) := by decide +kernel
theorem dX1_place_6 : decode cX1_place 6 = .ok (.getfield 35, 3) := by decide +kernel
theorem dX1_place_9 : decode cX1_place 9 = .ok (.if_icmp .ge 24, 3) := by decide +kernel
theorem dX1_place_12 : decode cX1_place 12 = .ok (.aload_n 0, 1) := by decide +kernel
theorem dX1_place_13 : decode cX1_place 13 = .ok (.iload_n 3, 1) := by decide +kernel
theorem dX1_place_14 : decode cX1_place 14 = .ok (.invokevirtual 62, 3) := by decide +kernel
theorem dX1_place_17 : decode cX1_place 17 = .ok (.iload_n 1, 1) := by decide +kernel
theorem dX1_place_18 : decode cX1_place 18 = .ok (.if_icmp .ne 7, 3) := by decide +kernel
theorem dX1_place_21 : decode cX1_place 21 = .ok (.iload_n 3, 1) := by decide +kernel
theorem dX1_place_22 : decode cX1_place 22 = .ok (.goto 4, 3) := by decide +kernel
theorem dX1_place_25 : decode cX1_place 25 = .ok (.iload_n 2, 1) := by decide +kernel
theorem dX1_place_26 : decode cX1_place 26 = .ok (.istore_n 2, 1) := by decide +kernel
theorem dX1_place_27 : decode cX1_place 27 = .ok (.iinc 3 1, 3) := by decide +kernel
theorem dX1_place_30 : decode cX1_place 30 = .ok (.goto (-26), 3) := by decide +kernel
theorem dX1_place_33 : decode cX1_place 33 = .ok (.iload_n 2, 1) := by decide +kernel
theorem dX1_place_34 : decode cX1_place 34 = .ok (.ireturn, 1) := by decide +kernel
theorem dX1_chill_0 : decode cX1_chill 0 = .ok (.aload_n 0, 1) := by decide +kernel
theorem dX1_chill_1 : decode cX1_chill 1 = .ok (.getfield 19, 3) := by decide +kernel
theorem dX1_chill_4 : decode cX1_chill 4 = .ok (.iload_n 1, 1) := by decide +kernel
theorem dX1_chill_5 : decode cX1_chill 5 = .ok (.iaload, 1) := by decide +kernel
theorem dX1_chill_6 : decode cX1_chill 6 = .ok (.ifCond .ne 8, 3) := by decide +kernel
theorem dX1_chill_9 : decode cX1_chill 9 = .ok (.bipush 100, 2) := by decide +kernel
theorem dX1_chill_11 : decode cX1_chill 11 = .ok (.goto 21, 3) := by decide +kernel
theorem dX1_chill_14 : decode cX1_chill 14 = .ok (.aload_n 0, 1) := by decide +kernel
theorem dX1_chill_15 : decode cX1_chill 15 = .ok (.getfield 32, 3) := by decide +kernel
theorem dX1_chill_18 : decode cX1_chill 18 = .ok (.bipush 6, 2) := by decide +kernel
theorem dX1_chill_20 : decode cX1_chill 20 = .ok (.iload_n 1, 1) := by decide +kernel
theorem dX1_chill_21 : decode cX1_chill 21 = .ok (.imul, 1) := by decide +kernel
theorem dX1_chill_22 : decode cX1_chill 22 = .ok (.aload_n 0, 1) := by decide +kernel
theorem dX1_chill_23 : decode cX1_chill 23 = .ok (.getfield 19, 3) := by decide +kernel
theorem dX1_chill_26 : decode cX1_chill 26 = .ok (.iload_n 1, 1) := by decide +kernel
theorem dX1_chill_27 : decode cX1_chill 27 = .ok (.iaload, 1) := by decide +kernel
theorem dX1_chill_28 : decode cX1_chill 28 = .ok (.iadd, 1) := by decide +kernel
theorem dX1_chill_29 : decode cX1_chill 29 = .ok (.iconst 1, 1) := by decide +kernel
theorem dX1_chill_30 : decode cX1_chill 30 = .ok (.isub, 1) := by decide +kernel
theorem dX1_chill_31 : decode cX1_chill 31 = .ok (.iaload, 1) := by decide +kernel
theorem dX1_chill_32 : decode cX1_chill 32 = .ok (.ireturn, 1) := by decide +kernel
set_option maxRecDepth 20000 in
theorem ggX1_rank_X1_holds : GoodIn wsX1_rank wsX1_holds := goodIn_r _ [6] (by decide +kernel) (by decide +kernel)
set_option maxRecDepth 20000 in
theorem gX1_rank_X1_holds : GoodIn wsX1_rank (va_wsS RX1 45 yX1_holds wsX1_holds) := goodIn_app (goodIn_of _ (by decide +kernel)) ggX1_rank_X1_holds
theorem dX1_rank_0 : decode cX1_rank 0 = .ok (.iconst 0, 1) := by decide +kernel
theorem dX1_rank_1 : decode cX1_rank 1 = .ok (.istore_n 2, 1) := by decide +kernel
theorem dX1_rank_2 : decode cX1_rank 2 = .ok (.iconst 0, 1) := by decide +kernel
theorem dX1_rank_3 : decode cX1_rank 3 = .ok (.istore_n 3, 1) := by decide +kernel
theorem dX1_rank_4 : decode cX1_rank 4 = .ok (.iload_n 3, 1) := by decide +kernel
theorem dX1_rank_5 : decode cX1_rank 5 = .ok (.aload_n 0, 1) := by decide +kernel
theorem dX1_rank_6 : decode cX1_rank 6 = .ok (.getfield 35, 3) := by decide +kernel
theorem dX1_rank_9 : decode cX1_rank 9 = .ok (.if_icmp .ge 65, 3) := by decide +kernel
theorem dX1_rank_12 : decode cX1_rank 12 = .ok (.iload_n 2, 1) := by decide +kernel
theorem dX1_rank_13 : decode cX1_rank 13 = .ok (.iload_n 3, 1) := by decide +kernel
theorem dX1_rank_14 : decode cX1_rank 14 = .ok (.iload_n 1, 1) := by decide +kernel
theorem dX1_rank_15 : decode cX1_rank 15 = .ok (.if_icmp .eq 50, 3) := by decide +kernel
theorem dX1_rank_18 : decode cX1_rank 18 = .ok (.aload_n 0, 1) := by decide +kernel
theorem dX1_rank_19 : decode cX1_rank 19 = .ok (.getfield 23, 3) := by decide +kernel
theorem dX1_rank_22 : decode cX1_rank 22 = .ok (.iload_n 1, 1) := by decide +kernel
end
section
theorem dX1_rank_23 : decode cX1_rank 23 = .ok (.iaload, 1) := by decide +kernel
theorem dX1_rank_24 : decode cX1_rank 24 = .ok (.iconst (-1), 1) := by decide +kernel
theorem dX1_rank_25 : decode cX1_rank 25 = .ok (.if_icmp .ne 16, 3) := by decide +kernel
theorem dX1_rank_28 : decode cX1_rank 28 = .ok (.aload_n 0, 1) := by decide +kernel
theorem dX1_rank_29 : decode cX1_rank 29 = .ok (.getfield 23, 3) := by decide +kernel
theorem dX1_rank_32 : decode cX1_rank 32 = .ok (.iload_n 3, 1) := by decide +kernel
theorem dX1_rank_33 : decode cX1_rank 33 = .ok (.iaload, 1) := by decide +kernel
theorem dX1_rank_34 : decode cX1_rank 34 = .ok (.iconst (-1), 1) := by decide +kernel
theorem dX1_rank_35 : decode cX1_rank 35 = .ok (.if_icmp .eq 30, 3) := by decide +kernel
theorem dX1_rank_38 : decode cX1_rank 38 = .ok (.goto 23, 3) := by decide +kernel
theorem dX1_rank_41 : decode cX1_rank 41 = .ok (.iconst 0, 1) := by decide +kernel
theorem dX1_rank_42 : decode cX1_rank 42 = .ok (.aload_n 0, 1) := by decide +kernel
theorem dX1_rank_43 : decode cX1_rank 43 = .ok (.getfield 23, 3) := by decide +kernel
theorem dX1_rank_46 : decode cX1_rank 46 = .ok (.iload_n 3, 1) := by decide +kernel
theorem dX1_rank_47 : decode cX1_rank 47 = .ok (.iaload, 1) := by decide +kernel
theorem dX1_rank_48 : decode cX1_rank 48 = .ok (.aload_n 0, 1) := by decide +kernel
theorem dX1_rank_49 : decode cX1_rank 49 = .ok (.getfield 23, 3) := by decide +kernel
theorem dX1_rank_52 : decode cX1_rank 52 = .ok (.iload_n 1, 1) := by decide +kernel
theorem dX1_rank_53 : decode cX1_rank 53 = .ok (.iaload, 1) := by decide +kernel
theorem dX1_rank_54 : decode cX1_rank 54 = .ok (.iconst (-1), 1) := by decide +kernel
theorem dX1_rank_55 : decode cX1_rank 55 = .ok (.invokestatic 45, 3) := by decide +kernel
theorem dX1_rank_58 : decode cX1_rank 58 = .ok (.ifCond .eq 7, 3) := by decide +kernel
theorem dX1_rank_61 : decode cX1_rank 61 = .ok (.iconst 1, 1) := by decide +kernel
theorem dX1_rank_62 : decode cX1_rank 62 = .ok (.goto 4, 3) := by decide +kernel
theorem dX1_rank_65 : decode cX1_rank 65 = .ok (.iconst 0, 1) := by decide +kernel
theorem dX1_rank_66 : decode cX1_rank 66 = .ok (.iadd, 1) := by decide +kernel
theorem dX1_rank_67 : decode cX1_rank 67 = .ok (.istore_n 2, 1) := by decide +kernel
theorem dX1_rank_68 : decode cX1_rank 68 = .ok (.iinc 3 1, 3) := by decide +kernel
theorem dX1_rank_71 : decode cX1_rank 71 = .ok (.goto (-67), 3) := by decide +kernel
theorem dX1_rank_74 : decode cX1_rank 74 = .ok (.iload_n 2, 1) := by decide +kernel
theorem dX1_rank_75 : decode cX1_rank 75 = .ok (.ireturn, 1) := by decide +kernel
set_option maxRecDepth 20000 in
theorem ggX1_cold_X1_isCold : GoodIn wsX1_cold wsX1_isCold := goodIn_r _ [7, 8, 9, 10, 6, 11, 12, 13, 14, 15, 16, 17, 18, 19, 20] (by decide +kernel) (by decide +kernel)
set_option maxRecDepth 20000 in
theorem gX1_cold_X1_isCold : GoodIn wsX1_cold (wsV RX1 52 RX1 yX1_isCold wsX1_isCold) := goodIn_app (goodIn_of _ (by decide +kernel)) ggX1_cold_X1_isCold
theorem dX1_cold_0 : decode cX1_cold 0 = .ok (.iconst 0, 1) := by decide +kernel
theorem dX1_cold_1 : decode cX1_cold 1 = .ok (.istore_n 2, 1) := by decide +kernel
theorem dX1_cold_2 : decode cX1_cold 2 = .ok (.iconst 0, 1) := by decide +kernel
theorem dX1_cold_3 : decode cX1_cold 3 = .ok (.istore_n 3, 1) := by decide +kernel
theorem dX1_cold_4 : decode cX1_cold 4 = .ok (.iload_n 3, 1) := by decide +kernel
theorem dX1_cold_5 : decode cX1_cold 5 = .ok (.aload_n 0, 1) := by decide +kernel
theorem dX1_cold_6 : decode cX1_cold 6 = .ok (.getfield 19, 3) := by decide +kernel
theorem dX1_cold_9 : decode cX1_cold 9 = .ok (.iload_n 1, 1) := by decide +kernel
theorem dX1_cold_10 : decode cX1_cold 10 = .ok (.iaload, 1) := by decide +kernel
theorem dX1_cold_11 : decode cX1_cold 11 = .ok (.if_icmp .ge 35, 3) := by decide +kernel
theorem dX1_cold_14 : decode cX1_cold 14 = .ok (.iload_n 2, 1) := by decide +kernel
theorem dX1_cold_15 : decode cX1_cold 15 = .ok (.aload_n 0, 1) := by decide +kernel
theorem dX1_cold_16 : decode cX1_cold 16 = .ok (.aload_n 0, 1) := by decide +kernel
theorem dX1_cold_17 : decode cX1_cold 17 = .ok (.getfield 32, 3) := by decide +kernel
theorem dX1_cold_20 : decode cX1_cold 20 = .ok (.bipush 6, 2) := by decide +kernel
theorem dX1_cold_22 : decode cX1_cold 22 = .ok (.iload_n 1, 1) := by decide +kernel
theorem dX1_cold_23 : decode cX1_cold 23 = .ok (.imul, 1) := by decide +kernel
theorem dX1_cold_24 : decode cX1_cold 24 = .ok (.iload_n 3, 1) := by decide +kernel
theorem dX1_cold_25 : decode cX1_cold 25 = .ok (.iadd, 1) := by decide +kernel
theorem dX1_cold_26 : decode cX1_cold 26 = .ok (.iaload, 1) := by decide +kernel
theorem dX1_cold_27 : decode cX1_cold 27 = .ok (.invokevirtual 52, 3) := by decide +kernel
theorem dX1_cold_30 : decode cX1_cold 30 = .ok (.ifCond .eq 7, 3) := by decide +kernel
theorem dX1_cold_33 : decode cX1_cold 33 = .ok (.iconst 1, 1) := by decide +kernel
theorem dX1_cold_34 : decode cX1_cold 34 = .ok (.goto 4, 3) := by decide +kernel
theorem dX1_cold_37 : decode cX1_cold 37 = .ok (.iconst 0, 1) := by decide +kernel
theorem dX1_cold_38 : decode cX1_cold 38 = .ok (.iadd, 1) := by decide +kernel
theorem dX1_cold_39 : decode cX1_cold 39 = .ok (.istore_n 2, 1) := by decide +kernel
theorem dX1_cold_40 : decode cX1_cold 40 = .ok (.iinc 3 1, 3) := by decide +kernel
theorem dX1_cold_43 : decode cX1_cold 43 = .ok (.goto (-39), 3) := by decide +kernel
theorem dX1_cold_46 : decode cX1_cold 46 = .ok (.iload_n 2, 1) := by decide +kernel
theorem dX1_cold_47 : decode cX1_cold 47 = .ok (.ireturn, 1) := by decide +kernel
set_option maxRecDepth 20000 in
theorem ggX1_more_X1_holds : GoodIn wsX1_more wsX1_holds := goodIn_r _ [7] (by decide +kernel) (by decide +kernel)
set_option maxRecDepth 20000 in
theorem gX1_more_X1_holds : GoodIn wsX1_more (va_wsS RX1 45 yX1_holds wsX1_holds) := goodIn_app (goodIn_of _ (by decide +kernel)) ggX1_more_X1_holds
theorem dX1_more_0 : decode cX1_more 0 = .ok (.iconst 0, 1) := by decide +kernel
theorem dX1_more_1 : decode cX1_more 1 = .ok (.istore_n 2, 1) := by decide +kernel
theorem dX1_more_2 : decode cX1_more 2 = .ok (.iload_n 2, 1) := by decide +kernel
theorem dX1_more_3 : decode cX1_more 3 = .ok (.aload_n 0, 1) := by decide +kernel
theorem dX1_more_4 : decode cX1_more 4 = .ok (.getfield 19, 3) := by decide +kernel
theorem dX1_more_7 : decode cX1_more 7 = .ok (.iload_n 1, 1) := by decide +kernel
theorem dX1_more_8 : decode cX1_more 8 = .ok (.iaload, 1) := by decide +kernel
theorem dX1_more_9 : decode cX1_more 9 = .ok (.if_icmp .ge 34, 3) := by decide +kernel
theorem dX1_more_12 : decode cX1_more 12 = .ok (.iconst 2, 1) := by decide +kernel
theorem dX1_more_13 : decode cX1_more 13 = .ok (.aload_n 0, 1) := by decide +kernel
theorem dX1_more_14 : decode cX1_more 14 = .ok (.getfield 29, 3) := by decide +kernel
theorem dX1_more_17 : decode cX1_more 17 = .ok (.bipush 6, 2) := by decide +kernel
theorem dX1_more_19 : decode cX1_more 19 = .ok (.iload_n 1, 1) := by decide +kernel
theorem dX1_more_20 : decode cX1_more 20 = .ok (.imul, 1) := by decide +kernel
theorem dX1_more_21 : decode cX1_more 21 = .ok (.iload_n 2, 1) := by decide +kernel
theorem dX1_more_22 : decode cX1_more 22 = .ok (.iadd, 1) := by decide +kernel
theorem dX1_more_23 : decode cX1_more 23 = .ok (.iaload, 1) := by decide +kernel
theorem dX1_more_24 : decode cX1_more 24 = .ok (.aload_n 0, 1) := by decide +kernel
theorem dX1_more_25 : decode cX1_more 25 = .ok (.getfield 23, 3) := by decide +kernel
theorem dX1_more_28 : decode cX1_more 28 = .ok (.iload_n 1, 1) := by decide +kernel
theorem dX1_more_29 : decode cX1_more 29 = .ok (.iaload, 1) := by decide +kernel
theorem dX1_more_30 : decode cX1_more 30 = .ok (.iconst (-1), 1) := by decide +kernel
theorem dX1_more_31 : decode cX1_more 31 = .ok (.invokestatic 45, 3) := by decide +kernel
theorem dX1_more_34 : decode cX1_more 34 = .ok (.ifCond .eq 9, 3) := by decide +kernel
theorem dX1_more_37 : decode cX1_more 37 = .ok (.iinc 2 1, 3) := by decide +kernel
theorem dX1_more_40 : decode cX1_more 40 = .ok (.goto (-38), 3) := by decide +kernel
theorem dX1_more_43 : decode cX1_more 43 = .ok (.iload_n 2, 1) := by decide +kernel
theorem dX1_more_44 : decode cX1_more 44 = .ok (.ireturn, 1) := by decide +kernel
set_option maxRecDepth 20000 in
theorem ggX1_tell_X1_isClock : GoodIn wsX1_tell wsX1_isClock := goodIn_r _ [8, 9, 36, 37, 38, 39, 40, 41, 42, 43, 44] (by decide +kernel) (by decide +kernel)
set_option maxRecDepth 20000 in
theorem gX1_tell_X1_isClock : GoodIn wsX1_tell (wsV RX1 49 RX1 yX1_isClock wsX1_isClock) := goodIn_app (goodIn_of _ (by decide +kernel)) ggX1_tell_X1_isClock
set_option maxRecDepth 20000 in
theorem ggX1_tell_X1_rank : GoodIn wsX1_tell wsX1_rank := goodIn_r _ [13, 9, 2, 14, 15, 7, 16, 36, 37, 38, 39, 40, 41, 42, 43, 44] (by decide +kernel) (by decide +kernel)
set_option maxRecDepth 20000 in
theorem gX1_tell_X1_rank : GoodIn wsX1_tell (wsV RX1 66 RX1 yX1_rank wsX1_rank) := goodIn_app (goodIn_of _ (by decide +kernel)) ggX1_tell_X1_rank
set_option maxRecDepth 20000 in
theorem ggX1_tell_X1_cold : GoodIn wsX1_tell wsX1_cold := goodIn_r _ [20, 1, 21, 22, 23, 24, 7, 25, 26, 14, 15, 16, 36, 37, 38, 39, 40, 41, 42, 43, 44] (by decide +kernel) (by decide +kernel)
set_option maxRecDepth 20000 in
theorem gX1_tell_X1_cold : GoodIn wsX1_tell (wsV RX1 69 RX1 yX1_cold wsX1_cold) := goodIn_app (goodIn_of _ (by decide +kernel)) ggX1_tell_X1_cold
set_option maxRecDepth 20000 in
theorem ggX1_tell_X1_more : GoodIn wsX1_tell wsX1_more := goodIn_r _ [30, 1, 31, 2, 14, 15, 7, 16, 36, 37, 38, 39, 40, 41, 42, 43, 44] (by decide +kernel) (by decide +kernel)
set_option maxRecDepth 20000 in
theorem gX1_tell_X1_more : GoodIn wsX1_tell (wsV RX1 72 RX1 yX1_more wsX1_more) := goodIn_app (goodIn_of _ (by decide +kernel)) ggX1_tell_X1_more
set_option maxRecDepth 20000 in
theorem ggX1_tell_X1_chill : GoodIn wsX1_tell wsX1_chill := goodIn_r _ [35, 1, 21, 36, 37, 38, 39, 40, 41, 42, 43, 44] (by decide +kernel) (by decide +kernel)
set_option maxRecDepth 20000 in
theorem gX1_tell_X1_chill : GoodIn wsX1_tell (wsV RX1 75 RX1 yX1_chill wsX1_chill) := goodIn_app (goodIn_of _ (by decide +kernel)) ggX1_tell_X1_chill
theorem dX1_tell_0 : decode cX1_tell 0 = .ok (.aload_n 0, 1) := by decide +kernel
theorem dX1_tell_1 : decode cX1_tell 1 = .ok (.iload_n 1, 1) := by decide +kernel
theorem dX1_tell_2 : decode cX1_tell 2 = .ok (.invokevirtual 49, 3) := by decide +kernel
theorem dX1_tell_5 : decode cX1_tell 5 = .ok (.ifCond .ne 5, 3) := by decide +kernel
theorem dX1_tell_8 : decode cX1_tell 8 = .ok (.iconst (-1), 1) := by decide +kernel
theorem dX1_tell_9 : decode cX1_tell 9 = .ok (.ireturn, 1) := by decide +kernel
theorem dX1_tell_10 : decode cX1_tell 10 = .ok (.iload_n 2, 1) := by decide +kernel
theorem dX1_tell_11 : decode cX1_tell 11 = .ok (.tableswitch 86 0 6 #[41, 48, 55, 61, 68, 74, 80], 41) := by decide +kernel
theorem dX1_tell_52 : decode cX1_tell 52 = .ok (.aload_n 0, 1) := by decide +kernel
theorem dX1_tell_53 : decode cX1_tell 53 = .ok (.getfield 19, 3) := by decide +kernel
theorem dX1_tell_56 : decode cX1_tell 56 = .ok (.iload_n 1, 1) := by decide +kernel
theorem dX1_tell_57 : decode cX1_tell 57 = .ok (.iaload, 1) := by decide +kernel
theorem dX1_tell_58 : decode cX1_tell 58 = .ok (.ireturn, 1) := by decide +kernel
theorem dX1_tell_59 : decode cX1_tell 59 = .ok (.aload_n 0, 1) := by decide +kernel
theorem dX1_tell_60 : decode cX1_tell 60 = .ok (.getfield 23, 3) := by decide +kernel
theorem dX1_tell_63 : decode cX1_tell 63 = .ok (.iload_n 1, 1) := by decide +kernel
theorem dX1_tell_64 : decode cX1_tell 64 = .ok (.iaload, 1) := by decide +kernel
theorem dX1_tell_65 : decode cX1_tell 65 = .ok (.ireturn, 1) := by decide +kernel
theorem dX1_tell_66 : decode cX1_tell 66 = .ok (.aload_n 0, 1) := by decide +kernel
theorem dX1_tell_67 : decode cX1_tell 67 = .ok (.iload_n 1, 1) := by decide +kernel
theorem dX1_tell_68 : decode cX1_tell 68 = .ok (.invokevirtual 66, 3) := by decide +kernel
theorem dX1_tell_71 : decode cX1_tell 71 = .ok (.ireturn, 1) := by decide +kernel
theorem dX1_tell_72 : decode cX1_tell 72 = .ok (.aload_n 0, 1) := by decide +kernel
theorem dX1_tell_73 : decode cX1_tell 73 = .ok (.getfield 26, 3) := by decide +kernel
theorem dX1_tell_76 : decode cX1_tell 76 = .ok (.iload_n 1, 1) := by decide +kernel
theorem dX1_tell_77 : decode cX1_tell 77 = .ok (.iaload, 1) := by decide +kernel
theorem dX1_tell_78 : decode cX1_tell 78 = .ok (.ireturn, 1) := by decide +kernel
theorem dX1_tell_79 : decode cX1_tell 79 = .ok (.aload_n 0, 1) := by decide +kernel
theorem dX1_tell_80 : decode cX1_tell 80 = .ok (.iload_n 1, 1) := by decide +kernel
theorem dX1_tell_81 : decode cX1_tell 81 = .ok (.invokevirtual 69, 3) := by decide +kernel
theorem dX1_tell_84 : decode cX1_tell 84 = .ok (.ireturn, 1) := by decide +kernel
theorem dX1_tell_85 : decode cX1_tell 85 = .ok (.aload_n 0, 1) := by decide +kernel
theorem dX1_tell_86 : decode cX1_tell 86 = .ok (.iload_n 1, 1) := by decide +kernel
theorem dX1_tell_87 : decode cX1_tell 87 = .ok (.invokevirtual 72, 3) := by decide +kernel
theorem dX1_tell_90 : decode cX1_tell 90 = .ok (.ireturn, 1) := by decide +kernel
theorem dX1_tell_91 : decode cX1_tell 91 = .ok (.aload_n 0, 1) := by decide +kernel
theorem dX1_tell_92 : decode cX1_tell 92 = .ok (.iload_n 1, 1) := by decide +kernel
theorem dX1_tell_93 : decode cX1_tell 93 = .ok (.invokevirtual 75, 3) := by decide +kernel
theorem dX1_tell_96 : decode cX1_tell 96 = .ok (.ireturn, 1) := by decide +kernel
theorem dX1_tell_97 : decode cX1_tell 97 = .ok (.iconst (-1), 1) := by decide +kernel
theorem dX1_tell_98 : decode cX1_tell 98 = .ok (.ireturn, 1) := by decide +kernel
set_option maxRecDepth 20000 in
theorem ggX1_asked_X1_holds : GoodIn wsX1_asked wsX1_holds := goodIn_r _ [5] (by decide +kernel) (by decide +kernel)
set_option maxRecDepth 20000 in
theorem gX1_asked_X1_holds : GoodIn wsX1_asked (va_wsS RX1 45 yX1_holds wsX1_holds) := goodIn_app (goodIn_of _ (by decide +kernel)) ggX1_asked_X1_holds
set_option maxRecDepth 20000 in
theorem ggX1_asked_X1_chill : GoodIn wsX1_asked wsX1_chill := goodIn_r _ [9, 10, 11, 12, 13, 14, 15, 16, 17, 18, 19, 20] (by decide +kernel) (by decide +kernel)
set_option maxRecDepth 20000 in
theorem gX1_asked_X1_chill : GoodIn wsX1_asked (wsV RX1 75 RX1 yX1_chill wsX1_chill) := goodIn_app (goodIn_of _ (by decide +kernel)) ggX1_asked_X1_chill
theorem dX1_asked_0 : decode cX1_asked 0 = .ok (.iload_n 1, 1) := by decide +kernel
theorem dX1_asked_1 : decode cX1_asked 1 = .ok (.ifCond .ne 24, 3) := by decide +kernel
theorem dX1_asked_4 : decode cX1_asked 4 = .ok (.iload_n 2, 1) := by decide +kernel
theorem dX1_asked_5 : decode cX1_asked 5 = .ok (.aload_n 0, 1) := by decide +kernel
theorem dX1_asked_6 : decode cX1_asked 6 = .ok (.getfield 23, 3) := by decide +kernel
theorem dX1_asked_9 : decode cX1_asked 9 = .ok (.iload_n 3, 1) := by decide +kernel
theorem dX1_asked_10 : decode cX1_asked 10 = .ok (.iaload, 1) := by decide +kernel
theorem dX1_asked_11 : decode cX1_asked 11 = .ok (.aload_n 0, 1) := by decide +kernel
theorem dX1_asked_12 : decode cX1_asked 12 = .ok (.getfield 23, 3) := by decide +kernel
theorem dX1_asked_15 : decode cX1_asked 15 = .ok (.iload 4, 2) := by decide +kernel
theorem dX1_asked_17 : decode cX1_asked 17 = .ok (.iaload, 1) := by decide +kernel
theorem dX1_asked_18 : decode cX1_asked 18 = .ok (.iconst (-1), 1) := by decide +kernel
theorem dX1_asked_19 : decode cX1_asked 19 = .ok (.invokestatic 45, 3) := by decide +kernel
theorem dX1_asked_22 : decode cX1_asked 22 = .ok (.goto 20, 3) := by decide +kernel
theorem dX1_asked_25 : decode cX1_asked 25 = .ok (.iload_n 2, 1) := by decide +kernel
theorem dX1_asked_26 : decode cX1_asked 26 = .ok (.aload_n 0, 1) := by decide +kernel
theorem dX1_asked_27 : decode cX1_asked 27 = .ok (.iload_n 3, 1) := by decide +kernel
theorem dX1_asked_28 : decode cX1_asked 28 = .ok (.invokevirtual 75, 3) := by decide +kernel
theorem dX1_asked_31 : decode cX1_asked 31 = .ok (.aload_n 0, 1) := by decide +kernel
theorem dX1_asked_32 : decode cX1_asked 32 = .ok (.iload 4, 2) := by decide +kernel
theorem dX1_asked_34 : decode cX1_asked 34 = .ok (.invokevirtual 75, 3) := by decide +kernel
theorem dX1_asked_37 : decode cX1_asked 37 = .ok (.bipush 100, 2) := by decide +kernel
theorem dX1_asked_39 : decode cX1_asked 39 = .ok (.invokestatic 45, 3) := by decide +kernel
theorem dX1_asked_42 : decode cX1_asked 42 = .ok (.ireturn, 1) := by decide +kernel
theorem dX1_seals_0 : decode cX1_seals 0 = .ok (.iconst 0, 1) := by decide +kernel
theorem dX1_seals_1 : decode cX1_seals 1 = .ok (.istore_n 1, 1) := by decide +kernel
theorem dX1_seals_2 : decode cX1_seals 2 = .ok (.iconst 0, 1) := by decide +kernel
theorem dX1_seals_3 : decode cX1_seals 3 = .ok (.istore_n 2, 1) := by decide +kernel
theorem dX1_seals_4 : decode cX1_seals 4 = .ok (.iload_n 2, 1) := by decide +kernel
theorem dX1_seals_5 : decode cX1_seals 5 = .ok (.aload_n 0, 1) := by decide +kernel
theorem dX1_seals_6 : decode cX1_seals 6 = .ok (.getfield 35, 3) := by decide +kernel
theorem dX1_seals_9 : decode cX1_seals 9 = .ok (.if_icmp .ge 18, 3) := by decide +kernel
theorem dX1_seals_12 : decode cX1_seals 12 = .ok (.iload_n 1, 1) := by decide +kernel
theorem dX1_seals_13 : decode cX1_seals 13 = .ok (.aload_n 0, 1) := by decide +kernel
theorem dX1_seals_14 : decode cX1_seals 14 = .ok (.getfield 26, 3) := by decide +kernel
theorem dX1_seals_17 : decode cX1_seals 17 = .ok (.iload_n 2, 1) := by decide +kernel
theorem dX1_seals_18 : decode cX1_seals 18 = .ok (.iaload, 1) := by decide +kernel
theorem dX1_seals_19 : decode cX1_seals 19 = .ok (.iadd, 1) := by decide +kernel
theorem dX1_seals_20 : decode cX1_seals 20 = .ok (.istore_n 1, 1) := by decide +kernel
theorem dX1_seals_21 : decode cX1_seals 21 = .ok (.iinc 2 1, 3) := by decide +kernel
theorem dX1_seals_24 : decode cX1_seals 24 = .ok (.goto (-20), 3) := by decide +kernel
theorem dX1_seals_27 : decode cX1_seals 27 = .ok (.iload_n 1, 1) := by decide +kernel
theorem dX1_seals_28 : decode cX1_seals 28 = .ok (.ireturn, 1) := by decide +kernel
set_option maxRecDepth 20000 in
theorem ggX1_ask_X1_isClock : GoodIn wsX1_ask wsX1_isClock := goodIn_r _ [7, 1, 26, 27, 28, 29, 30, 31, 32, 33, 34] (by decide +kernel) (by decide +kernel)
set_option maxRecDepth 20000 in
theorem gX1_ask_X1_isClock : GoodIn wsX1_ask (wsV RX1 49 RX1 yX1_isClock wsX1_isClock) := goodIn_app (goodIn_of _ (by decide +kernel)) ggX1_ask_X1_isClock
set_option maxRecDepth 20000 in
theorem ggX1_ask_X1_asked : GoodIn wsX1_ask wsX1_asked := goodIn_r _ [11, 12, 13, 14, 6, 15, 16, 17, 18, 19, 20, 21, 26, 27, 28, 29, 30, 31, 32, 33, 34] (by decide +kernel) (by decide +kernel)
set_option maxRecDepth 20000 in
theorem gX1_ask_X1_asked : GoodIn wsX1_ask (wsV RX1 78 RX1 yX1_asked wsX1_asked) := goodIn_app (goodIn_of _ (by decide +kernel)) ggX1_ask_X1_asked
set_option maxRecDepth 20000 in
theorem ggX1_ask_X1_seals : GoodIn wsX1_ask wsX1_seals := goodIn_r _ [25, 1, 2, 26, 27, 28, 29, 30, 31, 32, 33, 34] (by decide +kernel) (by decide +kernel)
set_option maxRecDepth 20000 in
theorem gX1_ask_X1_seals : GoodIn wsX1_ask (wsV RX1 81 RX1 yX1_seals wsX1_seals) := goodIn_app (goodIn_of _ (by decide +kernel)) ggX1_ask_X1_seals
theorem dX1_ask_0 : decode cX1_ask 0 = .ok (.iload_n 1, 1) := by decide +kernel
theorem dX1_ask_1 : decode cX1_ask 1 = .ok (.ifCond .lt 35, 3) := by decide +kernel
theorem dX1_ask_4 : decode cX1_ask 4 = .ok (.iload_n 1, 1) := by decide +kernel
theorem dX1_ask_5 : decode cX1_ask 5 = .ok (.iconst 1, 1) := by decide +kernel
theorem dX1_ask_6 : decode cX1_ask 6 = .ok (.if_icmp .gt 30, 3) := by decide +kernel
theorem dX1_ask_9 : decode cX1_ask 9 = .ok (.iload_n 2, 1) := by decide +kernel
theorem dX1_ask_10 : decode cX1_ask 10 = .ok (.ifCond .lt 26, 3) := by decide +kernel
theorem dX1_ask_13 : decode cX1_ask 13 = .ok (.iload_n 2, 1) := by decide +kernel
theorem dX1_ask_14 : decode cX1_ask 14 = .ok (.iconst 5, 1) := by decide +kernel
theorem dX1_ask_15 : decode cX1_ask 15 = .ok (.if_icmp .gt 21, 3) := by decide +kernel
theorem dX1_ask_18 : decode cX1_ask 18 = .ok (.aload_n 0, 1) := by decide +kernel
theorem dX1_ask_19 : decode cX1_ask 19 = .ok (.iload 4, 2) := by decide +kernel
theorem dX1_ask_21 : decode cX1_ask 21 = .ok (.invokevirtual 49, 3) := by decide +kernel
theorem dX1_ask_24 : decode cX1_ask 24 = .ok (.ifCond .eq 12, 3) := by decide +kernel
theorem dX1_ask_27 : decode cX1_ask 27 = .ok (.aload_n 0, 1) := by decide +kernel
theorem dX1_ask_28 : decode cX1_ask 28 = .ok (.iload 5, 2) := by decide +kernel
theorem dX1_ask_30 : decode cX1_ask 30 = .ok (.invokevirtual 49, 3) := by decide +kernel
theorem dX1_ask_33 : decode cX1_ask 33 = .ok (.ifCond .ne 5, 3) := by decide +kernel
theorem dX1_ask_36 : decode cX1_ask 36 = .ok (.iconst (-1), 1) := by decide +kernel
theorem dX1_ask_37 : decode cX1_ask 37 = .ok (.ireturn, 1) := by decide +kernel
theorem dX1_ask_38 : decode cX1_ask 38 = .ok (.aload_n 0, 1) := by decide +kernel
theorem dX1_ask_39 : decode cX1_ask 39 = .ok (.iload_n 1, 1) := by decide +kernel
theorem dX1_ask_40 : decode cX1_ask 40 = .ok (.iload_n 2, 1) := by decide +kernel
theorem dX1_ask_41 : decode cX1_ask 41 = .ok (.iload 4, 2) := by decide +kernel
theorem dX1_ask_43 : decode cX1_ask 43 = .ok (.iload 5, 2) := by decide +kernel
theorem dX1_ask_45 : decode cX1_ask 45 = .ok (.invokevirtual 78, 3) := by decide +kernel
theorem dX1_ask_48 : decode cX1_ask 48 = .ok (.istore 6, 2) := by decide +kernel
theorem dX1_ask_50 : decode cX1_ask 50 = .ok (.iload_n 3, 1) := by decide +kernel
theorem dX1_ask_51 : decode cX1_ask 51 = .ok (.tableswitch 176 0 5 #[37, 48, 59, 99, 112, 134], 37) := by decide +kernel
theorem dX1_ask_88 : decode cX1_ask 88 = .ok (.iload 6, 2) := by decide +kernel
theorem dX1_ask_90 : decode cX1_ask 90 = .ok (.ifCond .eq 7, 3) := by decide +kernel
theorem dX1_ask_93 : decode cX1_ask 93 = .ok (.iconst 1, 1) := by decide +kernel
theorem dX1_ask_94 : decode cX1_ask 94 = .ok (.goto 4, 3) := by decide +kernel
theorem dX1_ask_97 : decode cX1_ask 97 = .ok (.iconst 0, 1) := by decide +kernel
theorem dX1_ask_98 : decode cX1_ask 98 = .ok (.ireturn, 1) := by decide +kernel
theorem dX1_ask_99 : decode cX1_ask 99 = .ok (.iload 6, 2) := by decide +kernel
theorem dX1_ask_101 : decode cX1_ask 101 = .ok (.ifCond .eq 7, 3) := by decide +kernel
theorem dX1_ask_104 : decode cX1_ask 104 = .ok (.iconst 0, 1) := by decide +kernel
theorem dX1_ask_105 : decode cX1_ask 105 = .ok (.goto 4, 3) := by decide +kernel
theorem dX1_ask_108 : decode cX1_ask 108 = .ok (.iconst 1, 1) := by decide +kernel
theorem dX1_ask_109 : decode cX1_ask 109 = .ok (.ireturn, 1) := by decide +kernel
theorem dX1_ask_110 : decode cX1_ask 110 = .ok (.iconst 0, 1) := by decide +kernel
theorem dX1_ask_111 : decode cX1_ask 111 = .ok (.istore 7, 2) := by decide +kernel
theorem dX1_ask_113 : decode cX1_ask 113 = .ok (.iload 4, 2) := by decide +kernel
theorem dX1_ask_115 : decode cX1_ask 115 = .ok (.iload 7, 2) := by decide +kernel
theorem dX1_ask_117 : decode cX1_ask 117 = .ok (.iadd, 1) := by decide +kernel
theorem dX1_ask_118 : decode cX1_ask 118 = .ok (.aload_n 0, 1) := by decide +kernel
theorem dX1_ask_119 : decode cX1_ask 119 = .ok (.getfield 35, 3) := by decide +kernel
theorem dX1_ask_122 : decode cX1_ask 122 = .ok (.if_icmp .ge 25, 3) := by decide +kernel
theorem dX1_ask_125 : decode cX1_ask 125 = .ok (.aload_n 0, 1) := by decide +kernel
theorem dX1_ask_126 : decode cX1_ask 126 = .ok (.iload_n 1, 1) := by decide +kernel
theorem dX1_ask_127 : decode cX1_ask 127 = .ok (.iload_n 2, 1) := by decide +kernel
theorem dX1_ask_128 : decode cX1_ask 128 = .ok (.iload 4, 2) := by decide +kernel
theorem dX1_ask_130 : decode cX1_ask 130 = .ok (.iload 7, 2) := by decide +kernel
theorem dX1_ask_132 : decode cX1_ask 132 = .ok (.iadd, 1) := by decide +kernel
theorem dX1_ask_133 : decode cX1_ask 133 = .ok (.iload 5, 2) := by decide +kernel
theorem dX1_ask_135 : decode cX1_ask 135 = .ok (.invokevirtual 78, 3) := by decide +kernel
theorem dX1_ask_138 : decode cX1_ask 138 = .ok (.ifCond .eq 9, 3) := by decide +kernel
theorem dX1_ask_141 : decode cX1_ask 141 = .ok (.iinc 7 1, 3) := by decide +kernel
theorem dX1_ask_144 : decode cX1_ask 144 = .ok (.goto (-31), 3) := by decide +kernel
theorem dX1_ask_147 : decode cX1_ask 147 = .ok (.iload 7, 2) := by decide +kernel
theorem dX1_ask_149 : decode cX1_ask 149 = .ok (.ireturn, 1) := by decide +kernel
theorem dX1_ask_150 : decode cX1_ask 150 = .ok (.iload 6, 2) := by decide +kernel
theorem dX1_ask_152 : decode cX1_ask 152 = .ok (.ifCond .eq 8, 3) := by decide +kernel
theorem dX1_ask_155 : decode cX1_ask 155 = .ok (.iload 4, 2) := by decide +kernel
theorem dX1_ask_157 : decode cX1_ask 157 = .ok (.goto 5, 3) := by decide +kernel
theorem dX1_ask_160 : decode cX1_ask 160 = .ok (.iload 5, 2) := by decide +kernel
theorem dX1_ask_162 : decode cX1_ask 162 = .ok (.ireturn, 1) := by decide +kernel
theorem dX1_ask_163 : decode cX1_ask 163 = .ok (.aload_n 0, 1) := by decide +kernel
theorem dX1_ask_164 : decode cX1_ask 164 = .ok (.getfield 26, 3) := by decide +kernel
theorem dX1_ask_167 : decode cX1_ask 167 = .ok (.iload 4, 2) := by decide +kernel
theorem dX1_ask_169 : decode cX1_ask 169 = .ok (.iload 6, 2) := by decide +kernel
theorem dX1_ask_171 : decode cX1_ask 171 = .ok (.ifCond .eq 7, 3) := by decide +kernel
theorem dX1_ask_174 : decode cX1_ask 174 = .ok (.iconst 1, 1) := by decide +kernel
theorem dX1_ask_175 : decode cX1_ask 175 = .ok (.goto 4, 3) := by decide +kernel
theorem dX1_ask_178 : decode cX1_ask 178 = .ok (.iconst 0, 1) := by decide +kernel
theorem dX1_ask_179 : decode cX1_ask 179 = .ok (.iastore, 1) := by decide +kernel
theorem dX1_ask_180 : decode cX1_ask 180 = .ok (.aload_n 0, 1) := by decide +kernel
theorem dX1_ask_181 : decode cX1_ask 181 = .ok (.invokevirtual 81, 3) := by decide +kernel
theorem dX1_ask_184 : decode cX1_ask 184 = .ok (.ireturn, 1) := by decide +kernel
theorem dX1_ask_185 : decode cX1_ask 185 = .ok (.aload_n 0, 1) := by decide +kernel
theorem dX1_ask_186 : decode cX1_ask 186 = .ok (.iload_n 1, 1) := by decide +kernel
theorem dX1_ask_187 : decode cX1_ask 187 = .ok (.iload_n 2, 1) := by decide +kernel
theorem dX1_ask_188 : decode cX1_ask 188 = .ok (.iload 5, 2) := by decide +kernel
theorem dX1_ask_190 : decode cX1_ask 190 = .ok (.iload 4, 2) := by decide +kernel
theorem dX1_ask_192 : decode cX1_ask 192 = .ok (.invokevirtual 78, 3) := by decide +kernel
theorem dX1_ask_195 : decode cX1_ask 195 = .ok (.istore 7, 2) := by decide +kernel
theorem dX1_ask_197 : decode cX1_ask 197 = .ok (.iload 6, 2) := by decide +kernel
theorem dX1_ask_199 : decode cX1_ask 199 = .ok (.ifCond .eq 12, 3) := by decide +kernel
theorem dX1_ask_202 : decode cX1_ask 202 = .ok (.iload 7, 2) := by decide +kernel
theorem dX1_ask_204 : decode cX1_ask 204 = .ok (.ifCond .eq 7, 3) := by decide +kernel
theorem dX1_ask_207 : decode cX1_ask 207 = .ok (.iconst 1, 1) := by decide +kernel
theorem dX1_ask_208 : decode cX1_ask 208 = .ok (.goto 18, 3) := by decide +kernel
theorem dX1_ask_211 : decode cX1_ask 211 = .ok (.iload 6, 2) := by decide +kernel
theorem dX1_ask_213 : decode cX1_ask 213 = .ok (.ifCond .ne 8, 3) := by decide +kernel
theorem dX1_ask_216 : decode cX1_ask 216 = .ok (.iload 7, 2) := by decide +kernel
theorem dX1_ask_218 : decode cX1_ask 218 = .ok (.ifCond .eq 7, 3) := by decide +kernel
theorem dX1_ask_221 : decode cX1_ask 221 = .ok (.iconst 2, 1) := by decide +kernel
theorem dX1_ask_222 : decode cX1_ask 222 = .ok (.goto 4, 3) := by decide +kernel
theorem dX1_ask_225 : decode cX1_ask 225 = .ok (.iconst 0, 1) := by decide +kernel
theorem dX1_ask_226 : decode cX1_ask 226 = .ok (.ireturn, 1) := by decide +kernel
theorem dX1_ask_227 : decode cX1_ask 227 = .ok (.iconst (-1), 1) := by decide +kernel
theorem dX1_ask_228 : decode cX1_ask 228 = .ok (.ireturn, 1) := by decide +kernel
theorem dX1_trials_0 : decode cX1_trials 0 = .ok (.iconst 0, 1) := by decide +kernel
theorem dX1_trials_1 : decode cX1_trials 1 = .ok (.istore_n 1, 1) := by decide +kernel
theorem dX1_trials_2 : decode cX1_trials 2 = .ok (.iconst 0, 1) := by decide +kernel
theorem dX1_trials_3 : decode cX1_trials 3 = .ok (.istore_n 2, 1) := by decide +kernel
theorem dX1_trials_4 : decode cX1_trials 4 = .ok (.iload_n 2, 1) := by decide +kernel
theorem dX1_trials_5 : decode cX1_trials 5 = .ok (.aload_n 0, 1) := by decide +kernel
theorem dX1_trials_6 : decode cX1_trials 6 = .ok (.getfield 35, 3) := by decide +kernel
theorem dX1_trials_9 : decode cX1_trials 9 = .ok (.if_icmp .ge 18, 3) := by decide +kernel
theorem dX1_trials_12 : decode cX1_trials 12 = .ok (.iload_n 1, 1) := by decide +kernel
theorem dX1_trials_13 : decode cX1_trials 13 = .ok (.aload_n 0, 1) := by decide +kernel
theorem dX1_trials_14 : decode cX1_trials 14 = .ok (.getfield 19, 3) := by decide +kernel
theorem dX1_trials_17 : decode cX1_trials 17 = .ok (.iload_n 2, 1) := by decide +kernel
theorem dX1_trials_18 : decode cX1_trials 18 = .ok (.iaload, 1) := by decide +kernel
theorem dX1_trials_19 : decode cX1_trials 19 = .ok (.iadd, 1) := by decide +kernel
theorem dX1_trials_20 : decode cX1_trials 20 = .ok (.istore_n 1, 1) := by decide +kernel
theorem dX1_trials_21 : decode cX1_trials 21 = .ok (.iinc 2 1, 3) := by decide +kernel
theorem dX1_trials_24 : decode cX1_trials 24 = .ok (.goto (-20), 3) := by decide +kernel
theorem dX1_trials_27 : decode cX1_trials 27 = .ok (.iload_n 1, 1) := by decide +kernel
theorem dX1_trials_28 : decode cX1_trials 28 = .ok (.ireturn, 1) := by decide +kernel
set_option maxRecDepth 20000 in
theorem ggX1_first_X1_place : GoodIn wsX1_first wsX1_place := goodIn_r _ [6, 7, 8, 9, 10, 5, 11, 12, 13, 14, 15, 1, 16, 17, 18, 19, 20, 21, 22, 23, 24, 25, 26, 27, 28, 29, 30] (by decide +kernel) (by decide +kernel)
set_option maxRecDepth 20000 in
theorem gX1_first_X1_place : GoodIn wsX1_first (wsV RX1 85 RX1 yX1_place wsX1_place) := goodIn_app (goodIn_of _ (by decide +kernel)) ggX1_first_X1_place
theorem dX1_first_0 : decode cX1_first 0 = .ok (.aload_n 0, 1) := by decide +kernel
theorem dX1_first_1 : decode cX1_first 1 = .ok (.iconst 0, 1) := by decide +kernel
theorem dX1_first_2 : decode cX1_first 2 = .ok (.invokevirtual 85, 3) := by decide +kernel
theorem dX1_first_5 : decode cX1_first 5 = .ok (.istore_n 1, 1) := by decide +kernel
theorem dX1_first_6 : decode cX1_first 6 = .ok (.iload_n 1, 1) := by decide +kernel
theorem dX1_first_7 : decode cX1_first 7 = .ok (.iconst (-1), 1) := by decide +kernel
theorem dX1_first_8 : decode cX1_first 8 = .ok (.if_icmp .eq 13, 3) := by decide +kernel
theorem dX1_first_11 : decode cX1_first 11 = .ok (.aload_n 0, 1) := by decide +kernel
theorem dX1_first_12 : decode cX1_first 12 = .ok (.getfield 23, 3) := by decide +kernel
theorem dX1_first_15 : decode cX1_first 15 = .ok (.iload_n 1, 1) := by decide +kernel
theorem dX1_first_16 : decode cX1_first 16 = .ok (.iaload, 1) := by decide +kernel
theorem dX1_first_17 : decode cX1_first 17 = .ok (.iconst (-1), 1) := by decide +kernel
theorem dX1_first_18 : decode cX1_first 18 = .ok (.if_icmp .ne 7, 3) := by decide +kernel
theorem dX1_first_21 : decode cX1_first 21 = .ok (.iconst (-1), 1) := by decide +kernel
theorem dX1_first_22 : decode cX1_first 22 = .ok (.goto 4, 3) := by decide +kernel
theorem dX1_first_25 : decode cX1_first 25 = .ok (.iload_n 1, 1) := by decide +kernel
theorem dX1_first_26 : decode cX1_first 26 = .ok (.ireturn, 1) := by decide +kernel
set_option maxRecDepth 20000 in
theorem ggX1_count_X1_trials : GoodIn wsX1_count wsX1_trials := goodIn_r _ [9, 1, 10, 39, 40, 41, 42, 43, 44, 45, 46, 47] (by decide +kernel) (by decide +kernel)
set_option maxRecDepth 20000 in
theorem gX1_count_X1_trials : GoodIn wsX1_count (wsV RX1 88 RX1 yX1_trials wsX1_trials) := goodIn_app (goodIn_of _ (by decide +kernel)) ggX1_count_X1_trials
set_option maxRecDepth 20000 in
theorem ggX1_count_X1_seals : GoodIn wsX1_count wsX1_seals := goodIn_r _ [14, 1, 15, 39, 40, 41, 42, 43, 44, 45, 46, 47] (by decide +kernel) (by decide +kernel)
set_option maxRecDepth 20000 in
theorem gX1_count_X1_seals : GoodIn wsX1_count (wsV RX1 81 RX1 yX1_seals wsX1_seals) := goodIn_app (goodIn_of _ (by decide +kernel)) ggX1_count_X1_seals
set_option maxRecDepth 20000 in
theorem ggX1_count_X1_first : GoodIn wsX1_count wsX1_first := goodIn_r _ [19, 20, 21, 22, 23, 8, 24, 1, 25, 26, 27, 28, 29, 30, 31, 32, 33, 34, 35, 36, 37, 38, 39, 40, 41, 42, 43, 44, 45, 46, 47] (by decide +kernel) (by decide +kernel)
set_option maxRecDepth 20000 in
theorem gX1_count_X1_first : GoodIn wsX1_count (wsV RX1 91 RX1 yX1_first wsX1_first) := goodIn_app (goodIn_of _ (by decide +kernel)) ggX1_count_X1_first
theorem dX1_count_0 : decode cX1_count 0 = .ok (.iload_n 1, 1) := by decide +kernel
theorem dX1_count_1 : decode cX1_count 1 = .ok (.tableswitch 78 0 6 #[43, 48, 53, 58, 63, 68, 73], 43) := by decide +kernel
theorem dX1_count_44 : decode cX1_count 44 = .ok (.aload_n 0, 1) := by decide +kernel
theorem dX1_count_45 : decode cX1_count 45 = .ok (.getfield 35, 3) := by decide +kernel
theorem dX1_count_48 : decode cX1_count 48 = .ok (.ireturn, 1) := by decide +kernel
theorem dX1_count_49 : decode cX1_count 49 = .ok (.aload_n 0, 1) := by decide +kernel
theorem dX1_count_50 : decode cX1_count 50 = .ok (.getfield 16, 3) := by decide +kernel
theorem dX1_count_53 : decode cX1_count 53 = .ok (.ireturn, 1) := by decide +kernel
theorem dX1_count_54 : decode cX1_count 54 = .ok (.aload_n 0, 1) := by decide +kernel
theorem dX1_count_55 : decode cX1_count 55 = .ok (.getfield 9, 3) := by decide +kernel
theorem dX1_count_58 : decode cX1_count 58 = .ok (.ireturn, 1) := by decide +kernel
theorem dX1_count_59 : decode cX1_count 59 = .ok (.aload_n 0, 1) := by decide +kernel
theorem dX1_count_60 : decode cX1_count 60 = .ok (.getfield 13, 3) := by decide +kernel
theorem dX1_count_63 : decode cX1_count 63 = .ok (.ireturn, 1) := by decide +kernel
theorem dX1_count_64 : decode cX1_count 64 = .ok (.aload_n 0, 1) := by decide +kernel
theorem dX1_count_65 : decode cX1_count 65 = .ok (.invokevirtual 88, 3) := by decide +kernel
theorem dX1_count_68 : decode cX1_count 68 = .ok (.ireturn, 1) := by decide +kernel
theorem dX1_count_69 : decode cX1_count 69 = .ok (.aload_n 0, 1) := by decide +kernel
theorem dX1_count_70 : decode cX1_count 70 = .ok (.invokevirtual 81, 3) := by decide +kernel
theorem dX1_count_73 : decode cX1_count 73 = .ok (.ireturn, 1) := by decide +kernel
theorem dX1_count_74 : decode cX1_count 74 = .ok (.aload_n 0, 1) := by decide +kernel
theorem dX1_count_75 : decode cX1_count 75 = .ok (.invokevirtual 91, 3) := by decide +kernel
theorem dX1_count_78 : decode cX1_count 78 = .ok (.ireturn, 1) := by decide +kernel
theorem dX1_count_79 : decode cX1_count 79 = .ok (.iconst (-1), 1) := by decide +kernel
theorem dX1_count_80 : decode cX1_count 80 = .ok (.ireturn, 1) := by decide +kernel
set_option maxRecDepth 20000 in
theorem ggL_law_X0_init : GoodIn wsL_law wsX0_init := goodIn_r _ [8, 9, 10, 11, 12, 13, 14, 15, 16, 17, 18, 19, 20, 21, 22, 259, 260, 261, 262, 263, 264, 265, 266, 267] (by decide +kernel) (by decide +kernel)
set_option maxRecDepth 20000 in
theorem gL_law_X0_init : GoodIn wsL_law (wsX0_init) := ggL_law_X0_init
set_option maxRecDepth 20000 in
theorem ggL_law_X1_init : GoodIn wsL_law wsX1_init := goodIn_r _ [25, 26, 10, 11, 27, 28, 29, 12, 30, 31, 32, 33, 34, 268, 269, 270, 271, 272, 273, 274, 275, 276] (by decide +kernel) (by decide +kernel)
set_option maxRecDepth 20000 in
theorem gL_law_X1_init : GoodIn wsL_law (wsX1_init) := ggL_law_X1_init
set_option maxRecDepth 20000 in
theorem ggL_law_X0_admit : GoodIn wsL_law wsX0_admit := goodIn_r _ [38, 19, 16, 259, 260, 261, 262, 263, 264, 265, 266, 267] (by decide +kernel) (by decide +kernel)
set_option maxRecDepth 20000 in
theorem gL_law_X0_admit : GoodIn wsL_law (wsV RL 13 RX0 yX0_admit wsX0_admit) := goodIn_app (goodIn_of _ (by decide +kernel)) ggL_law_X0_admit
set_option maxRecDepth 20000 in
theorem ggL_law_X1_admit : GoodIn wsL_law wsX1_admit := goodIn_r _ [42, 43, 30, 31, 32, 268, 269, 270, 271, 272, 273, 274, 275, 276] (by decide +kernel) (by decide +kernel)
set_option maxRecDepth 20000 in
theorem gL_law_X1_admit : GoodIn wsL_law (wsV RL 17 RX1 yX1_admit wsX1_admit) := goodIn_app (goodIn_of _ (by decide +kernel)) ggL_law_X1_admit
set_option maxRecDepth 20000 in
theorem ggL_law_X0_prize : GoodIn wsL_law wsX0_prize := goodIn_r _ [47, 20, 48, 49, 2, 50, 51, 52, 53, 259, 260, 261, 262, 263, 264, 265, 266, 267] (by decide +kernel) (by decide +kernel)
set_option maxRecDepth 20000 in
theorem gL_law_X0_prize : GoodIn wsL_law (wsV RL 18 RX0 yX0_prize wsX0_prize) := goodIn_app (goodIn_of _ (by decide +kernel)) ggL_law_X0_prize
set_option maxRecDepth 20000 in
theorem ggL_law_X1_prize : GoodIn wsL_law wsX1_prize := goodIn_r _ [57, 27, 58, 59, 5, 60, 268, 269, 270, 271, 272, 273, 274, 275, 276] (by decide +kernel) (by decide +kernel)
set_option maxRecDepth 20000 in
theorem gL_law_X1_prize : GoodIn wsL_law (wsV RL 22 RX1 yX1_prize wsX1_prize) := goodIn_app (goodIn_of _ (by decide +kernel)) ggL_law_X1_prize
set_option maxRecDepth 20000 in
theorem ggL_law_X0_frost : GoodIn wsL_law wsX0_frost := goodIn_r _ [64, 22, 65, 66, 2, 67, 51, 52, 53, 259, 260, 261, 262, 263, 264, 265, 266, 267] (by decide +kernel) (by decide +kernel)
set_option maxRecDepth 20000 in
theorem gL_law_X0_frost : GoodIn wsL_law (wsV RL 23 RX0 yX0_frost wsX0_frost) := goodIn_app (goodIn_of _ (by decide +kernel)) ggL_law_X0_frost
set_option maxRecDepth 20000 in
theorem ggL_law_X1_frost : GoodIn wsL_law wsX1_frost := goodIn_r _ [71, 28, 72, 73, 5, 74, 268, 269, 270, 271, 272, 273, 274, 275, 276] (by decide +kernel) (by decide +kernel)
set_option maxRecDepth 20000 in
theorem gL_law_X1_frost : GoodIn wsL_law (wsV RL 26 RX1 yX1_frost wsX1_frost) := goodIn_app (goodIn_of _ (by decide +kernel)) ggL_law_X1_frost
set_option maxRecDepth 20000 in
theorem ggL_law_X0_trial : GoodIn wsL_law wsX0_trial := goodIn_r _ [78, 15, 13, 14, 16, 21, 79, 80, 81, 2, 82, 19, 48, 49, 50, 51, 52, 53, 65, 66, 67, 83, 84, 85, 86, 20, 87, 88, 89, 90, 22, 91, 92, 93, 94, 95, 96, 97, 98, 99, 100, 101, 102, 103, 104, 105, 259, 260, 261, 262, 263, 264, 265, 266, 267] (by decide +kernel) (by decide +kernel)
set_option maxRecDepth 20000 in
theorem gL_law_X0_trial : GoodIn wsL_law (wsV RL 27 RX0 yX0_trial wsX0_trial) := goodIn_app (goodIn_of _ (by decide +kernel)) ggL_law_X0_trial
set_option maxRecDepth 20000 in
theorem ggL_law_X1_trial : GoodIn wsL_law wsX1_trial := goodIn_r _ [109, 30, 33, 34, 27, 31, 29, 110, 111, 112, 5, 113, 43, 58, 59, 60, 72, 73, 74, 114, 115, 116, 117, 28, 118, 119, 120, 121, 122, 123, 268, 269, 270, 271, 272, 273, 274, 275, 276] (by decide +kernel) (by decide +kernel)
set_option maxRecDepth 20000 in
theorem gL_law_X1_trial : GoodIn wsL_law (wsV RL 31 RX1 yX1_trial wsX1_trial) := goodIn_app (goodIn_of _ (by decide +kernel)) ggL_law_X1_trial
set_option maxRecDepth 20000 in
theorem ggL_law_X0_annul : GoodIn wsL_law wsX0_annul := goodIn_r _ [127, 15, 16, 79, 80, 81, 2, 82, 19, 128, 129, 130, 131, 13, 103, 104, 105, 100, 101, 102, 97, 98, 99, 94, 95, 96, 259, 260, 261, 262, 263, 264, 265, 266, 267] (by decide +kernel) (by decide +kernel)
set_option maxRecDepth 20000 in
theorem gL_law_X0_annul : GoodIn wsL_law (wsV RL 32 RX0 yX0_annul wsX0_annul) := goodIn_app (goodIn_of _ (by decide +kernel)) ggL_law_X0_annul
set_option maxRecDepth 20000 in
theorem ggL_law_X1_annul : GoodIn wsL_law wsX1_annul := goodIn_r _ [135, 30, 31, 33, 110, 111, 112, 5, 113, 43, 121, 122, 123, 118, 119, 120, 268, 269, 270, 271, 272, 273, 274, 275, 276] (by decide +kernel) (by decide +kernel)
set_option maxRecDepth 20000 in
theorem gL_law_X1_annul : GoodIn wsL_law (wsV RL 36 RX1 yX1_annul wsX1_annul) := goodIn_app (goodIn_of _ (by decide +kernel)) ggL_law_X1_annul
set_option maxRecDepth 20000 in
theorem ggL_law_X0_place : GoodIn wsL_law wsX0_place := goodIn_r _ [139, 19, 140, 141, 142, 2, 143, 144, 145, 146, 147, 16, 100, 101, 102, 97, 98, 99, 94, 95, 96, 259, 260, 261, 262, 263, 264, 265, 266, 267] (by decide +kernel) (by decide +kernel)
set_option maxRecDepth 20000 in
theorem gL_law_X0_place : GoodIn wsL_law (wsV RL 37 RX0 yX0_place wsX0_place) := goodIn_app (goodIn_of _ (by decide +kernel)) ggL_law_X0_place
set_option maxRecDepth 20000 in
theorem ggL_law_X1_place : GoodIn wsL_law wsX1_place := goodIn_r _ [151, 43, 152, 153, 154, 5, 155, 156, 157, 158, 159, 31, 121, 122, 123, 118, 119, 120, 268, 269, 270, 271, 272, 273, 274, 275, 276] (by decide +kernel) (by decide +kernel)
set_option maxRecDepth 20000 in
theorem gL_law_X1_place : GoodIn wsL_law (wsV RL 40 RX1 yX1_place wsX1_place) := goodIn_app (goodIn_of _ (by decide +kernel)) ggL_law_X1_place
set_option maxRecDepth 20000 in
theorem ggL_law_X0_tell : GoodIn wsL_law wsX0_tell := goodIn_r _ [163, 15, 16, 18, 79, 80, 81, 2, 82, 19, 164, 165, 166, 167, 100, 101, 102, 97, 98, 99, 94, 95, 96, 168, 169, 170, 171, 172, 173, 174, 14, 103, 104, 105, 87, 88, 89, 90, 22, 91, 92, 93, 175, 176, 177, 178, 13, 179, 180, 181, 182, 259, 260, 261, 262, 263, 264, 265, 266, 267] (by decide +kernel) (by decide +kernel)
set_option maxRecDepth 20000 in
theorem gL_law_X0_tell : GoodIn wsL_law (wsV RL 41 RX0 yX0_tell wsX0_tell) := goodIn_app (goodIn_of _ (by decide +kernel)) ggL_law_X0_tell
set_option maxRecDepth 20000 in
theorem ggL_law_X1_tell : GoodIn wsL_law wsX1_tell := goodIn_r _ [186, 30, 31, 32, 110, 111, 112, 5, 113, 43, 187, 188, 189, 190, 118, 119, 120, 191, 192, 193, 194, 34, 114, 115, 116, 117, 28, 195, 196, 197, 198, 33, 199, 200, 201, 202, 268, 269, 270, 271, 272, 273, 274, 275, 276] (by decide +kernel) (by decide +kernel)
set_option maxRecDepth 20000 in
theorem gL_law_X1_tell : GoodIn wsL_law (wsV RL 45 RX1 yX1_tell wsX1_tell) := goodIn_app (goodIn_of _ (by decide +kernel)) ggL_law_X1_tell
set_option maxRecDepth 20000 in
theorem ggL_law_X0_ask : GoodIn wsL_law wsX0_ask := goodIn_r _ [206, 18, 51, 52, 2, 53, 79, 80, 81, 82, 19, 207, 208, 209, 210, 16, 97, 98, 99, 94, 95, 96, 179, 180, 181, 182, 15, 14, 103, 104, 105, 91, 92, 93, 168, 169, 170, 211, 212, 213, 214, 215, 216, 217, 218, 219, 220, 221, 259, 260, 261, 262, 263, 264, 265, 266, 267] (by decide +kernel) (by decide +kernel)
set_option maxRecDepth 20000 in
theorem gL_law_X0_ask : GoodIn wsL_law (wsV RL 46 RX0 yX0_ask wsX0_ask) := goodIn_app (goodIn_of _ (by decide +kernel)) ggL_law_X0_ask
set_option maxRecDepth 20000 in
theorem ggL_law_X1_ask : GoodIn wsL_law wsX1_ask := goodIn_r _ [225, 43, 32, 110, 111, 112, 5, 113, 226, 227, 228, 229, 31, 118, 119, 120, 199, 200, 201, 202, 30, 34, 230, 231, 232, 233, 268, 269, 270, 271, 272, 273, 274, 275, 276] (by decide +kernel) (by decide +kernel)
set_option maxRecDepth 20000 in
theorem gL_law_X1_ask : GoodIn wsL_law (wsV RL 50 RX1 yX1_ask wsX1_ask) := goodIn_app (goodIn_of _ (by decide +kernel)) ggL_law_X1_ask
set_option maxRecDepth 20000 in
theorem ggL_law_X0_count : GoodIn wsL_law wsX0_count := goodIn_r _ [237, 19, 21, 20, 22, 238, 239, 240, 2, 241, 15, 215, 216, 217, 218, 18, 168, 169, 170, 242, 243, 244, 245, 16, 100, 101, 102, 97, 98, 99, 94, 95, 96, 259, 260, 261, 262, 263, 264, 265, 266, 267] (by decide +kernel) (by decide +kernel)
set_option maxRecDepth 20000 in
theorem gL_law_X0_count : GoodIn wsL_law (wsV RL 51 RX0 yX0_count wsX0_count) := goodIn_app (goodIn_of _ (by decide +kernel)) ggL_law_X0_count
set_option maxRecDepth 20000 in
theorem ggL_law_X1_count : GoodIn wsL_law wsX1_count := goodIn_r _ [249, 43, 29, 27, 28, 250, 251, 252, 5, 253, 30, 230, 231, 232, 233, 32, 254, 255, 256, 257, 31, 258, 149, 150, 151, 152, 153, 154, 155, 156, 157, 158, 159, 121, 122, 123, 118, 119, 120, 268, 269, 270, 271, 272, 273, 274, 275, 276] (by decide +kernel) (by decide +kernel)
set_option maxRecDepth 20000 in
theorem gL_law_X1_count : GoodIn wsL_law (wsV RL 54 RX1 yX1_count wsX1_count) := goodIn_app (goodIn_of _ (by decide +kernel)) ggL_law_X1_count
theorem dL_law_0 : decode cL_law 0 = .ok (.new 7, 3) := by decide +kernel
theorem dL_law_3 : decode cL_law 3 = .ok (.dup, 1) := by decide +kernel
theorem dL_law_4 : decode cL_law 4 = .ok (.invokespecial 9, 3) := by decide +kernel
theorem dL_law_7 : decode cL_law 7 = .ok (.astore_n 1, 1) := by decide +kernel
theorem dL_law_8 : decode cL_law 8 = .ok (.new 10, 3) := by decide +kernel
theorem dL_law_11 : decode cL_law 11 = .ok (.dup, 1) := by decide +kernel
theorem dL_law_12 : decode cL_law 12 = .ok (.invokespecial 12, 3) := by decide +kernel
theorem dL_law_15 : decode cL_law 15 = .ok (.astore_n 2, 1) := by decide +kernel
theorem dL_law_16 : decode cL_law 16 = .ok (.iconst 0, 1) := by decide +kernel
theorem dL_law_17 : decode cL_law 17 = .ok (.istore_n 3, 1) := by decide +kernel
theorem dL_law_18 : decode cL_law 18 = .ok (.iload_n 3, 1) := by decide +kernel
theorem dL_law_19 : decode cL_law 19 = .ok (.aload_n 0, 1) := by decide +kernel
theorem dL_law_20 : decode cL_law 20 = .ok (.arraylength, 1) := by decide +kernel
theorem dL_law_21 : decode cL_law 21 = .ok (.bipush 6, 2) := by decide +kernel
theorem dL_law_23 : decode cL_law 23 = .ok (.isub, 1) := by decide +kernel
theorem dL_law_24 : decode cL_law 24 = .ok (.if_icmp .gt 333, 3) := by decide +kernel
theorem dL_law_27 : decode cL_law 27 = .ok (.aload_n 0, 1) := by decide +kernel
theorem dL_law_28 : decode cL_law 28 = .ok (.iload_n 3, 1) := by decide +kernel
theorem dL_law_29 : decode cL_law 29 = .ok (.iaload, 1) := by decide +kernel
theorem dL_law_30 : decode cL_law 30 = .ok (.bipush 15, 2) := by decide +kernel
theorem dL_law_32 : decode cL_law 32 = .ok (.iand, 1) := by decide +kernel
theorem dL_law_33 : decode cL_law 33 = .ok (.tableswitch 318 0 8 #[51, 64, 87, 110, 153, 176, 199, 232, 295], 51) := by decide +kernel
theorem dL_law_84 : decode cL_law 84 = .ok (.aload_n 1, 1) := by decide +kernel
theorem dL_law_85 : decode cL_law 85 = .ok (.invokevirtual 13, 3) := by decide +kernel
theorem dL_law_88 : decode cL_law 88 = .ok (.aload_n 2, 1) := by decide +kernel
theorem dL_law_89 : decode cL_law 89 = .ok (.invokevirtual 17, 3) := by decide +kernel
theorem dL_law_92 : decode cL_law 92 = .ok (.if_icmp .eq 259, 3) := by decide +kernel
theorem dL_law_95 : decode cL_law 95 = .ok (.iconst 0, 1) := by decide +kernel
theorem dL_law_96 : decode cL_law 96 = .ok (.ireturn, 1) := by decide +kernel
theorem dL_law_97 : decode cL_law 97 = .ok (.aload_n 1, 1) := by decide +kernel
theorem dL_law_98 : decode cL_law 98 = .ok (.aload_n 0, 1) := by decide +kernel
theorem dL_law_99 : decode cL_law 99 = .ok (.iload_n 3, 1) := by decide +kernel
theorem dL_law_100 : decode cL_law 100 = .ok (.iconst 1, 1) := by decide +kernel
theorem dL_law_101 : decode cL_law 101 = .ok (.iadd, 1) := by decide +kernel
theorem dL_law_102 : decode cL_law 102 = .ok (.iaload, 1) := by decide +kernel
theorem dL_law_103 : decode cL_law 103 = .ok (.invokevirtual 18, 3) := by decide +kernel
theorem dL_law_106 : decode cL_law 106 = .ok (.aload_n 2, 1) := by decide +kernel
theorem dL_law_107 : decode cL_law 107 = .ok (.aload_n 0, 1) := by decide +kernel
theorem dL_law_108 : decode cL_law 108 = .ok (.iload_n 3, 1) := by decide +kernel
theorem dL_law_109 : decode cL_law 109 = .ok (.iconst 1, 1) := by decide +kernel
theorem dL_law_110 : decode cL_law 110 = .ok (.iadd, 1) := by decide +kernel
theorem dL_law_111 : decode cL_law 111 = .ok (.iaload, 1) := by decide +kernel
theorem dL_law_112 : decode cL_law 112 = .ok (.invokevirtual 22, 3) := by decide +kernel
theorem dL_law_115 : decode cL_law 115 = .ok (.if_icmp .eq 236, 3) := by decide +kernel
theorem dL_law_118 : decode cL_law 118 = .ok (.iconst 0, 1) := by decide +kernel
theorem dL_law_119 : decode cL_law 119 = .ok (.ireturn, 1) := by decide +kernel
theorem dL_law_120 : decode cL_law 120 = .ok (.aload_n 1, 1) := by decide +kernel
theorem dL_law_121 : decode cL_law 121 = .ok (.aload_n 0, 1) := by decide +kernel
theorem dL_law_122 : decode cL_law 122 = .ok (.iload_n 3, 1) := by decide +kernel
theorem dL_law_123 : decode cL_law 123 = .ok (.iconst 1, 1) := by decide +kernel
theorem dL_law_124 : decode cL_law 124 = .ok (.iadd, 1) := by decide +kernel
theorem dL_law_125 : decode cL_law 125 = .ok (.iaload, 1) := by decide +kernel
theorem dL_law_126 : decode cL_law 126 = .ok (.invokevirtual 23, 3) := by decide +kernel
theorem dL_law_129 : decode cL_law 129 = .ok (.aload_n 2, 1) := by decide +kernel
theorem dL_law_130 : decode cL_law 130 = .ok (.aload_n 0, 1) := by decide +kernel
theorem dL_law_131 : decode cL_law 131 = .ok (.iload_n 3, 1) := by decide +kernel
theorem dL_law_132 : decode cL_law 132 = .ok (.iconst 1, 1) := by decide +kernel
theorem dL_law_133 : decode cL_law 133 = .ok (.iadd, 1) := by decide +kernel
theorem dL_law_134 : decode cL_law 134 = .ok (.iaload, 1) := by decide +kernel
theorem dL_law_135 : decode cL_law 135 = .ok (.invokevirtual 26, 3) := by decide +kernel
theorem dL_law_138 : decode cL_law 138 = .ok (.if_icmp .eq 213, 3) := by decide +kernel
theorem dL_law_141 : decode cL_law 141 = .ok (.iconst 0, 1) := by decide +kernel
theorem dL_law_142 : decode cL_law 142 = .ok (.ireturn, 1) := by decide +kernel
theorem dL_law_143 : decode cL_law 143 = .ok (.aload_n 1, 1) := by decide +kernel
theorem dL_law_144 : decode cL_law 144 = .ok (.aload_n 0, 1) := by decide +kernel
theorem dL_law_145 : decode cL_law 145 = .ok (.iload_n 3, 1) := by decide +kernel
theorem dL_law_146 : decode cL_law 146 = .ok (.iconst 1, 1) := by decide +kernel
theorem dL_law_147 : decode cL_law 147 = .ok (.iadd, 1) := by decide +kernel
theorem dL_law_148 : decode cL_law 148 = .ok (.iaload, 1) := by decide +kernel
theorem dL_law_149 : decode cL_law 149 = .ok (.aload_n 0, 1) := by decide +kernel
theorem dL_law_150 : decode cL_law 150 = .ok (.iload_n 3, 1) := by decide +kernel
theorem dL_law_151 : decode cL_law 151 = .ok (.iconst 2, 1) := by decide +kernel
theorem dL_law_152 : decode cL_law 152 = .ok (.iadd, 1) := by decide +kernel
theorem dL_law_153 : decode cL_law 153 = .ok (.iaload, 1) := by decide +kernel
theorem dL_law_154 : decode cL_law 154 = .ok (.aload_n 0, 1) := by decide +kernel
theorem dL_law_155 : decode cL_law 155 = .ok (.iload_n 3, 1) := by decide +kernel
theorem dL_law_156 : decode cL_law 156 = .ok (.iconst 3, 1) := by decide +kernel
theorem dL_law_157 : decode cL_law 157 = .ok (.iadd, 1) := by decide +kernel
theorem dL_law_158 : decode cL_law 158 = .ok (.iaload, 1) := by decide +kernel
theorem dL_law_159 : decode cL_law 159 = .ok (.invokevirtual 27, 3) := by decide +kernel
theorem dL_law_162 : decode cL_law 162 = .ok (.aload_n 2, 1) := by decide +kernel
theorem dL_law_163 : decode cL_law 163 = .ok (.aload_n 0, 1) := by decide +kernel
theorem dL_law_164 : decode cL_law 164 = .ok (.iload_n 3, 1) := by decide +kernel
theorem dL_law_165 : decode cL_law 165 = .ok (.iconst 1, 1) := by decide +kernel
theorem dL_law_166 : decode cL_law 166 = .ok (.iadd, 1) := by decide +kernel
theorem dL_law_167 : decode cL_law 167 = .ok (.iaload, 1) := by decide +kernel
theorem dL_law_168 : decode cL_law 168 = .ok (.aload_n 0, 1) := by decide +kernel
theorem dL_law_169 : decode cL_law 169 = .ok (.iload_n 3, 1) := by decide +kernel
theorem dL_law_170 : decode cL_law 170 = .ok (.iconst 2, 1) := by decide +kernel
theorem dL_law_171 : decode cL_law 171 = .ok (.iadd, 1) := by decide +kernel
theorem dL_law_172 : decode cL_law 172 = .ok (.iaload, 1) := by decide +kernel
theorem dL_law_173 : decode cL_law 173 = .ok (.aload_n 0, 1) := by decide +kernel
theorem dL_law_174 : decode cL_law 174 = .ok (.iload_n 3, 1) := by decide +kernel
theorem dL_law_175 : decode cL_law 175 = .ok (.iconst 3, 1) := by decide +kernel
theorem dL_law_176 : decode cL_law 176 = .ok (.iadd, 1) := by decide +kernel
theorem dL_law_177 : decode cL_law 177 = .ok (.iaload, 1) := by decide +kernel
theorem dL_law_178 : decode cL_law 178 = .ok (.invokevirtual 31, 3) := by decide +kernel
theorem dL_law_181 : decode cL_law 181 = .ok (.if_icmp .eq 170, 3) := by decide +kernel
theorem dL_law_184 : decode cL_law 184 = .ok (.iconst 0, 1) := by decide +kernel
theorem dL_law_185 : decode cL_law 185 = .ok (.ireturn, 1) := by decide +kernel
theorem dL_law_186 : decode cL_law 186 = .ok (.aload_n 1, 1) := by decide +kernel
theorem dL_law_187 : decode cL_law 187 = .ok (.aload_n 0, 1) := by decide +kernel
theorem dL_law_188 : decode cL_law 188 = .ok (.iload_n 3, 1) := by decide +kernel
theorem dL_law_189 : decode cL_law 189 = .ok (.iconst 1, 1) := by decide +kernel
theorem dL_law_190 : decode cL_law 190 = .ok (.iadd, 1) := by decide +kernel
theorem dL_law_191 : decode cL_law 191 = .ok (.iaload, 1) := by decide +kernel
theorem dL_law_192 : decode cL_law 192 = .ok (.invokevirtual 32, 3) := by decide +kernel
theorem dL_law_195 : decode cL_law 195 = .ok (.aload_n 2, 1) := by decide +kernel
theorem dL_law_196 : decode cL_law 196 = .ok (.aload_n 0, 1) := by decide +kernel
theorem dL_law_197 : decode cL_law 197 = .ok (.iload_n 3, 1) := by decide +kernel
theorem dL_law_198 : decode cL_law 198 = .ok (.iconst 1, 1) := by decide +kernel
theorem dL_law_199 : decode cL_law 199 = .ok (.iadd, 1) := by decide +kernel
theorem dL_law_200 : decode cL_law 200 = .ok (.iaload, 1) := by decide +kernel
theorem dL_law_201 : decode cL_law 201 = .ok (.invokevirtual 36, 3) := by decide +kernel
theorem dL_law_204 : decode cL_law 204 = .ok (.if_icmp .eq 147, 3) := by decide +kernel
theorem dL_law_207 : decode cL_law 207 = .ok (.iconst 0, 1) := by decide +kernel
theorem dL_law_208 : decode cL_law 208 = .ok (.ireturn, 1) := by decide +kernel
theorem dL_law_209 : decode cL_law 209 = .ok (.aload_n 1, 1) := by decide +kernel
theorem dL_law_210 : decode cL_law 210 = .ok (.aload_n 0, 1) := by decide +kernel
theorem dL_law_211 : decode cL_law 211 = .ok (.iload_n 3, 1) := by decide +kernel
theorem dL_law_212 : decode cL_law 212 = .ok (.iconst 1, 1) := by decide +kernel
theorem dL_law_213 : decode cL_law 213 = .ok (.iadd, 1) := by decide +kernel
theorem dL_law_214 : decode cL_law 214 = .ok (.iaload, 1) := by decide +kernel
theorem dL_law_215 : decode cL_law 215 = .ok (.invokevirtual 37, 3) := by decide +kernel
theorem dL_law_218 : decode cL_law 218 = .ok (.aload_n 2, 1) := by decide +kernel
theorem dL_law_219 : decode cL_law 219 = .ok (.aload_n 0, 1) := by decide +kernel
theorem dL_law_220 : decode cL_law 220 = .ok (.iload_n 3, 1) := by decide +kernel
theorem dL_law_221 : decode cL_law 221 = .ok (.iconst 1, 1) := by decide +kernel
theorem dL_law_222 : decode cL_law 222 = .ok (.iadd, 1) := by decide +kernel
theorem dL_law_223 : decode cL_law 223 = .ok (.iaload, 1) := by decide +kernel
theorem dL_law_224 : decode cL_law 224 = .ok (.invokevirtual 40, 3) := by decide +kernel
theorem dL_law_227 : decode cL_law 227 = .ok (.if_icmp .eq 124, 3) := by decide +kernel
theorem dL_law_230 : decode cL_law 230 = .ok (.iconst 0, 1) := by decide +kernel
theorem dL_law_231 : decode cL_law 231 = .ok (.ireturn, 1) := by decide +kernel
theorem dL_law_232 : decode cL_law 232 = .ok (.aload_n 1, 1) := by decide +kernel
theorem dL_law_233 : decode cL_law 233 = .ok (.aload_n 0, 1) := by decide +kernel
theorem dL_law_234 : decode cL_law 234 = .ok (.iload_n 3, 1) := by decide +kernel
theorem dL_law_235 : decode cL_law 235 = .ok (.iconst 1, 1) := by decide +kernel
theorem dL_law_236 : decode cL_law 236 = .ok (.iadd, 1) := by decide +kernel
theorem dL_law_237 : decode cL_law 237 = .ok (.iaload, 1) := by decide +kernel
theorem dL_law_238 : decode cL_law 238 = .ok (.aload_n 0, 1) := by decide +kernel
theorem dL_law_239 : decode cL_law 239 = .ok (.iload_n 3, 1) := by decide +kernel
theorem dL_law_240 : decode cL_law 240 = .ok (.iconst 2, 1) := by decide +kernel
theorem dL_law_241 : decode cL_law 241 = .ok (.iadd, 1) := by decide +kernel
theorem dL_law_242 : decode cL_law 242 = .ok (.iaload, 1) := by decide +kernel
theorem dL_law_243 : decode cL_law 243 = .ok (.invokevirtual 41, 3) := by decide +kernel
theorem dL_law_246 : decode cL_law 246 = .ok (.aload_n 2, 1) := by decide +kernel
theorem dL_law_247 : decode cL_law 247 = .ok (.aload_n 0, 1) := by decide +kernel
theorem dL_law_248 : decode cL_law 248 = .ok (.iload_n 3, 1) := by decide +kernel
theorem dL_law_249 : decode cL_law 249 = .ok (.iconst 1, 1) := by decide +kernel
theorem dL_law_250 : decode cL_law 250 = .ok (.iadd, 1) := by decide +kernel
theorem dL_law_251 : decode cL_law 251 = .ok (.iaload, 1) := by decide +kernel
theorem dL_law_252 : decode cL_law 252 = .ok (.aload_n 0, 1) := by decide +kernel
theorem dL_law_253 : decode cL_law 253 = .ok (.iload_n 3, 1) := by decide +kernel
theorem dL_law_254 : decode cL_law 254 = .ok (.iconst 2, 1) := by decide +kernel
theorem dL_law_255 : decode cL_law 255 = .ok (.iadd, 1) := by decide +kernel
theorem dL_law_256 : decode cL_law 256 = .ok (.iaload, 1) := by decide +kernel
theorem dL_law_257 : decode cL_law 257 = .ok (.invokevirtual 45, 3) := by decide +kernel
theorem dL_law_260 : decode cL_law 260 = .ok (.if_icmp .eq 91, 3) := by decide +kernel
theorem dL_law_263 : decode cL_law 263 = .ok (.iconst 0, 1) := by decide +kernel
theorem dL_law_264 : decode cL_law 264 = .ok (.ireturn, 1) := by decide +kernel
theorem dL_law_265 : decode cL_law 265 = .ok (.aload_n 1, 1) := by decide +kernel
theorem dL_law_266 : decode cL_law 266 = .ok (.aload_n 0, 1) := by decide +kernel
theorem dL_law_267 : decode cL_law 267 = .ok (.iload_n 3, 1) := by decide +kernel
theorem dL_law_268 : decode cL_law 268 = .ok (.iconst 1, 1) := by decide +kernel
theorem dL_law_269 : decode cL_law 269 = .ok (.iadd, 1) := by decide +kernel
theorem dL_law_270 : decode cL_law 270 = .ok (.iaload, 1) := by decide +kernel
theorem dL_law_271 : decode cL_law 271 = .ok (.aload_n 0, 1) := by decide +kernel
theorem dL_law_272 : decode cL_law 272 = .ok (.iload_n 3, 1) := by decide +kernel
theorem dL_law_273 : decode cL_law 273 = .ok (.iconst 2, 1) := by decide +kernel
theorem dL_law_274 : decode cL_law 274 = .ok (.iadd, 1) := by decide +kernel
theorem dL_law_275 : decode cL_law 275 = .ok (.iaload, 1) := by decide +kernel
theorem dL_law_276 : decode cL_law 276 = .ok (.aload_n 0, 1) := by decide +kernel
theorem dL_law_277 : decode cL_law 277 = .ok (.iload_n 3, 1) := by decide +kernel
theorem dL_law_278 : decode cL_law 278 = .ok (.iconst 3, 1) := by decide +kernel
theorem dL_law_279 : decode cL_law 279 = .ok (.iadd, 1) := by decide +kernel
theorem dL_law_280 : decode cL_law 280 = .ok (.iaload, 1) := by decide +kernel
theorem dL_law_281 : decode cL_law 281 = .ok (.aload_n 0, 1) := by decide +kernel
theorem dL_law_282 : decode cL_law 282 = .ok (.iload_n 3, 1) := by decide +kernel
theorem dL_law_283 : decode cL_law 283 = .ok (.iconst 4, 1) := by decide +kernel
theorem dL_law_284 : decode cL_law 284 = .ok (.iadd, 1) := by decide +kernel
theorem dL_law_285 : decode cL_law 285 = .ok (.iaload, 1) := by decide +kernel
theorem dL_law_286 : decode cL_law 286 = .ok (.aload_n 0, 1) := by decide +kernel
theorem dL_law_287 : decode cL_law 287 = .ok (.iload_n 3, 1) := by decide +kernel
theorem dL_law_288 : decode cL_law 288 = .ok (.iconst 5, 1) := by decide +kernel
theorem dL_law_289 : decode cL_law 289 = .ok (.iadd, 1) := by decide +kernel
theorem dL_law_290 : decode cL_law 290 = .ok (.iaload, 1) := by decide +kernel
theorem dL_law_291 : decode cL_law 291 = .ok (.invokevirtual 46, 3) := by decide +kernel
theorem dL_law_294 : decode cL_law 294 = .ok (.aload_n 2, 1) := by decide +kernel
theorem dL_law_295 : decode cL_law 295 = .ok (.aload_n 0, 1) := by decide +kernel
theorem dL_law_296 : decode cL_law 296 = .ok (.iload_n 3, 1) := by decide +kernel
theorem dL_law_297 : decode cL_law 297 = .ok (.iconst 1, 1) := by decide +kernel
theorem dL_law_298 : decode cL_law 298 = .ok (.iadd, 1) := by decide +kernel
theorem dL_law_299 : decode cL_law 299 = .ok (.iaload, 1) := by decide +kernel
theorem dL_law_300 : decode cL_law 300 = .ok (.aload_n 0, 1) := by decide +kernel
theorem dL_law_301 : decode cL_law 301 = .ok (.iload_n 3, 1) := by decide +kernel
theorem dL_law_302 : decode cL_law 302 = .ok (.iconst 2, 1) := by decide +kernel
theorem dL_law_303 : decode cL_law 303 = .ok (.iadd, 1) := by decide +kernel
theorem dL_law_304 : decode cL_law 304 = .ok (.iaload, 1) := by decide +kernel
theorem dL_law_305 : decode cL_law 305 = .ok (.aload_n 0, 1) := by decide +kernel
theorem dL_law_306 : decode cL_law 306 = .ok (.iload_n 3, 1) := by decide +kernel
theorem dL_law_307 : decode cL_law 307 = .ok (.iconst 3, 1) := by decide +kernel
theorem dL_law_308 : decode cL_law 308 = .ok (.iadd, 1) := by decide +kernel
theorem dL_law_309 : decode cL_law 309 = .ok (.iaload, 1) := by decide +kernel
theorem dL_law_310 : decode cL_law 310 = .ok (.aload_n 0, 1) := by decide +kernel
theorem dL_law_311 : decode cL_law 311 = .ok (.iload_n 3, 1) := by decide +kernel
theorem dL_law_312 : decode cL_law 312 = .ok (.iconst 4, 1) := by decide +kernel
theorem dL_law_313 : decode cL_law 313 = .ok (.iadd, 1) := by decide +kernel
theorem dL_law_314 : decode cL_law 314 = .ok (.iaload, 1) := by decide +kernel
theorem dL_law_315 : decode cL_law 315 = .ok (.aload_n 0, 1) := by decide +kernel
theorem dL_law_316 : decode cL_law 316 = .ok (.iload_n 3, 1) := by decide +kernel
theorem dL_law_317 : decode cL_law 317 = .ok (.iconst 5, 1) := by decide +kernel
theorem dL_law_318 : decode cL_law 318 = .ok (.iadd, 1) := by decide +kernel
theorem dL_law_319 : decode cL_law 319 = .ok (.iaload, 1) := by decide +kernel
theorem dL_law_320 : decode cL_law 320 = .ok (.invokevirtual 50, 3) := by decide +kernel
theorem dL_law_323 : decode cL_law 323 = .ok (.if_icmp .eq 28, 3) := by decide +kernel
theorem dL_law_326 : decode cL_law 326 = .ok (.iconst 0, 1) := by decide +kernel
theorem dL_law_327 : decode cL_law 327 = .ok (.ireturn, 1) := by decide +kernel
theorem dL_law_328 : decode cL_law 328 = .ok (.aload_n 1, 1) := by decide +kernel
theorem dL_law_329 : decode cL_law 329 = .ok (.aload_n 0, 1) := by decide +kernel
theorem dL_law_330 : decode cL_law 330 = .ok (.iload_n 3, 1) := by decide +kernel
theorem dL_law_331 : decode cL_law 331 = .ok (.iconst 1, 1) := by decide +kernel
theorem dL_law_332 : decode cL_law 332 = .ok (.iadd, 1) := by decide +kernel
theorem dL_law_333 : decode cL_law 333 = .ok (.iaload, 1) := by decide +kernel
theorem dL_law_334 : decode cL_law 334 = .ok (.invokevirtual 51, 3) := by decide +kernel
theorem dL_law_337 : decode cL_law 337 = .ok (.aload_n 2, 1) := by decide +kernel
theorem dL_law_338 : decode cL_law 338 = .ok (.aload_n 0, 1) := by decide +kernel
theorem dL_law_339 : decode cL_law 339 = .ok (.iload_n 3, 1) := by decide +kernel
theorem dL_law_340 : decode cL_law 340 = .ok (.iconst 1, 1) := by decide +kernel
theorem dL_law_341 : decode cL_law 341 = .ok (.iadd, 1) := by decide +kernel
theorem dL_law_342 : decode cL_law 342 = .ok (.iaload, 1) := by decide +kernel
theorem dL_law_343 : decode cL_law 343 = .ok (.invokevirtual 54, 3) := by decide +kernel
theorem dL_law_346 : decode cL_law 346 = .ok (.if_icmp .eq 5, 3) := by decide +kernel
theorem dL_law_349 : decode cL_law 349 = .ok (.iconst 0, 1) := by decide +kernel
theorem dL_law_350 : decode cL_law 350 = .ok (.ireturn, 1) := by decide +kernel
theorem dL_law_351 : decode cL_law 351 = .ok (.iinc 3 6, 3) := by decide +kernel
theorem dL_law_354 : decode cL_law 354 = .ok (.goto (-336), 3) := by decide +kernel
theorem dL_law_357 : decode cL_law 357 = .ok (.iconst 1, 1) := by decide +kernel
theorem dL_law_358 : decode cL_law 358 = .ok (.ireturn, 1) := by decide +kernel
abbrev vwCl : List vw_C := [(RX0, TX0, 9), (RX1, TX1, 9)]
end
section
/-! own rows: truth values, numbers that are known naturals, arrays read and written by them, calls that only read -/
def zi (b : Bool) : Int32 := match b with
  | true => 1
  | false => 0
theorem zi_0 {b : Bool} : zi b = 0 ↔ b = false := by cases b <;> decide
theorem zi_n (b : Bool) : narrow .boolean (.int (zi b)) = .int (zi b) := by cases b <;> rfl
theorem zi_v (b : Bool) : vp_nar .boolean (zi b) = zi b := by cases b <;> rfl
def b2 (b : Bool) (k : Nat) : Nat := if b = true then k else 0
theorem zi_b2 (b : Bool) : zi b = nI (b2 b 1) := by cases b <;> decide
theorem zi_inj {a b : Bool} (h : a = b) : zi a = zi b := by rw [h]
def rmD (d : Nat) : Room := { frames := d, cells := 0, slots := 0, locals := 30 * d }
section XB
variable {p : Program} {l : Launch} {e : Env} {R : Room} {s : State} {m : MethodId} {args : Array Value} {below : List Frame} {meth : Method} {c : Code} {H : Heap} {locs : List Loc} {cells slots : Nat} {Q : State → Prop}
variable {cc : ByteArray} {pc : Nat} {ls : Array Slot} {rest : List Value} {D : va_G} {cl : List vw_C} {A : Nat → Prop} {a : Nat} {tys : List (ClassId × FieldType)} {ws : va_W} {H0 : Heap}
theorem xn_ge (hx : p.tables.exec = Jvm.exec) (hb : c.code = cc) {i j : Nat} {off : Int} {tgt : Nat} (hi : i < 2 ^ 31) (hj : j < 2 ^ 31) (hdg : decode cc pc = .ok (.if_icmp .ge off, 3)) (ht : (pc : Int) + off = (tgt : Int))
    (kt : j ≤ i → W p l e R s m args below meth c H locs cells slots Q (F0 m tgt ls rest)) (kf : ¬ j ≤ i → W p l e R s m args below meth c H locs cells slots Q (F0 m (pc + 3) ls rest)) : W p l e R s m args below meth c H locs cells slots Q (F0 m pc ls (.int (nI j) :: .int (nI i) :: rest)) :=
  lv_icmp_ge hx hb hdg ht (fun h => kt ((nI_leI hj hi).mp h)) (fun h => kf fun q => h ((nI_leI hj hi).mpr q))
theorem xn_gt (hx : p.tables.exec = Jvm.exec) (hb : c.code = cc) {i j : Nat} {off : Int} {tgt : Nat} (hi : i < 2 ^ 31) (hj : j < 2 ^ 31) (hdg : decode cc pc = .ok (.if_icmp .gt off, 3)) (ht : (pc : Int) + off = (tgt : Int))
    (kt : j < i → W p l e R s m args below meth c H locs cells slots Q (F0 m tgt ls rest)) (kf : ¬ j < i → W p l e R s m args below meth c H locs cells slots Q (F0 m (pc + 3) ls rest)) : W p l e R s m args below meth c H locs cells slots Q (F0 m pc ls (.int (nI j) :: .int (nI i) :: rest)) :=
  lv_icmp_gt hx hb hdg ht (fun h => kt ((nI_ltI hj hi).mp h)) (fun h => kf fun q => h ((nI_ltI hj hi).mpr q))
theorem xn_lt (hx : p.tables.exec = Jvm.exec) (hb : c.code = cc) {i j : Nat} {off : Int} {tgt : Nat} (hi : i < 2 ^ 31) (hj : j < 2 ^ 31) (hdg : decode cc pc = .ok (.if_icmp .lt off, 3)) (ht : (pc : Int) + off = (tgt : Int))
    (kt : i < j → W p l e R s m args below meth c H locs cells slots Q (F0 m tgt ls rest)) (kf : ¬ i < j → W p l e R s m args below meth c H locs cells slots Q (F0 m (pc + 3) ls rest)) : W p l e R s m args below meth c H locs cells slots Q (F0 m pc ls (.int (nI j) :: .int (nI i) :: rest)) :=
  lv_icmp_lt hx hb hdg ht (fun h => kt ((nI_ltI hi hj).mp h)) (fun h => kf fun q => h ((nI_ltI hi hj).mpr q))
theorem xn_le (hx : p.tables.exec = Jvm.exec) (hb : c.code = cc) {i j : Nat} {off : Int} {tgt : Nat} (hi : i < 2 ^ 31) (hj : j < 2 ^ 31) (hdg : decode cc pc = .ok (.if_icmp .le off, 3)) (ht : (pc : Int) + off = (tgt : Int))
    (kt : i ≤ j → W p l e R s m args below meth c H locs cells slots Q (F0 m tgt ls rest)) (kf : ¬ i ≤ j → W p l e R s m args below meth c H locs cells slots Q (F0 m (pc + 3) ls rest)) : W p l e R s m args below meth c H locs cells slots Q (F0 m pc ls (.int (nI j) :: .int (nI i) :: rest)) :=
  lv_icmp_le hx hb hdg ht (fun h => kt ((nI_leI hi hj).mp h)) (fun h => kf fun q => h ((nI_leI hi hj).mpr q))
theorem xn_eq (hx : p.tables.exec = Jvm.exec) (hb : c.code = cc) {i j : Nat} {off : Int} {tgt : Nat} (hi : i < 2 ^ 31) (hj : j < 2 ^ 31) (hdg : decode cc pc = .ok (.if_icmp .eq off, 3)) (ht : (pc : Int) + off = (tgt : Int))
    (kt : i = j → W p l e R s m args below meth c H locs cells slots Q (F0 m tgt ls rest)) (kf : ¬ i = j → W p l e R s m args below meth c H locs cells slots Q (F0 m (pc + 3) ls rest)) : W p l e R s m args below meth c H locs cells slots Q (F0 m pc ls (.int (nI j) :: .int (nI i) :: rest)) :=
  lv_icmp_eq hx hb hdg ht (fun h => kt ((nI_eq hi hj).mp h)) (fun h => kf fun q => h ((nI_eq hi hj).mpr q))
theorem xn_ne (hx : p.tables.exec = Jvm.exec) (hb : c.code = cc) {i j : Nat} {off : Int} {tgt : Nat} (hi : i < 2 ^ 31) (hj : j < 2 ^ 31) (hdg : decode cc pc = .ok (.if_icmp .ne off, 3)) (ht : (pc : Int) + off = (tgt : Int))
    (kt : ¬ i = j → W p l e R s m args below meth c H locs cells slots Q (F0 m tgt ls rest)) (kf : i = j → W p l e R s m args below meth c H locs cells slots Q (F0 m (pc + 3) ls rest)) : W p l e R s m args below meth c H locs cells slots Q (F0 m pc ls (.int (nI j) :: .int (nI i) :: rest)) :=
  lv_icmp_ne hx hb hdg ht (fun h => kt fun q => h ((nI_eq hi hj).mpr q)) (fun h => kf ((nI_eq hi hj).mp h))
theorem xn_ifgt (hx : p.tables.exec = Jvm.exec) (hb : c.code = cc) {i : Nat} {off : Int} {tgt : Nat} (hi : i < 2 ^ 31) (hdg : decode cc pc = .ok (.ifCond .gt off, 3)) (ht : (pc : Int) + off = (tgt : Int))
    (kt : ¬ i = 0 → W p l e R s m args below meth c H locs cells slots Q (F0 m tgt ls rest)) (kf : i = 0 → W p l e R s m args below meth c H locs cells slots Q (F0 m (pc + 3) ls rest)) : W p l e R s m args below meth c H locs cells slots Q (F0 m pc ls (.int (nI i) :: rest)) :=
  lv_if_gt hx hb hdg ht (fun h => kt (Nat.ne_of_gt ((nI_ltI (a := 0) (by omega) hi).mp h))) (fun h => kf (Nat.eq_zero_of_not_pos fun q => h ((nI_ltI (a := 0) (by omega) hi).mpr q)))
theorem xn_ifne (hx : p.tables.exec = Jvm.exec) (hb : c.code = cc) {i : Nat} {off : Int} {tgt : Nat} (hi : i < 2 ^ 31) (hdg : decode cc pc = .ok (.ifCond .ne off, 3)) (ht : (pc : Int) + off = (tgt : Int))
    (kt : ¬ i = 0 → W p l e R s m args below meth c H locs cells slots Q (F0 m tgt ls rest)) (kf : i = 0 → W p l e R s m args below meth c H locs cells slots Q (F0 m (pc + 3) ls rest)) : W p l e R s m args below meth c H locs cells slots Q (F0 m pc ls (.int (nI i) :: rest)) :=
  lv_if_ne hx hb hdg ht (fun h => kt fun q => h (by rw [q]; rfl)) (fun h => kf ((nI_eq (b := 0) hi (by omega)).mp h))
theorem xz_eq (hx : p.tables.exec = Jvm.exec) (hb : c.code = cc) {b : Bool} {off : Int} {tgt : Nat} (hdg : decode cc pc = .ok (.ifCond .eq off, 3)) (ht : (pc : Int) + off = (tgt : Int))
    (kt : b = false → W p l e R s m args below meth c H locs cells slots Q (F0 m tgt ls rest)) (kf : b = true → W p l e R s m args below meth c H locs cells slots Q (F0 m (pc + 3) ls rest)) : W p l e R s m args below meth c H locs cells slots Q (F0 m pc ls (.int (zi b) :: rest)) :=
  lv_if_eq hx hb hdg ht (fun h => kt (zi_0.mp h)) (fun h => kf (by cases b with | true => rfl | false => exact absurd rfl h))
theorem xz_ne (hx : p.tables.exec = Jvm.exec) (hb : c.code = cc) {b : Bool} {off : Int} {tgt : Nat} (hdg : decode cc pc = .ok (.ifCond .ne off, 3)) (ht : (pc : Int) + off = (tgt : Int))
    (kt : b = true → W p l e R s m args below meth c H locs cells slots Q (F0 m tgt ls rest)) (kf : b = false → W p l e R s m args below meth c H locs cells slots Q (F0 m (pc + 3) ls rest)) : W p l e R s m args below meth c H locs cells slots Q (F0 m pc ls (.int (zi b) :: rest)) :=
  lv_if_ne hx hb hdg ht (fun h => kt (by cases b with | true => rfl | false => exact absurd rfl h)) (fun h => kf (zi_0.mp h))
theorem xn_add (hx : p.tables.exec = Jvm.exec) (hb : c.code = cc) {i j : Nat} (hdg : decode cc pc = .ok (.iadd, 1))
    (k : W p l e R s m args below meth c H locs cells slots Q (F0 m (pc + 1) ls (.int (nI (i + j)) :: rest))) : W p l e R s m args below meth c H locs cells slots Q (F0 m pc ls (.int (nI j) :: .int (nI i) :: rest)) :=
  lv_iadd hx hb hdg (by rw [nI_add]; exact k)
theorem xn_mul (hx : p.tables.exec = Jvm.exec) (hb : c.code = cc) {i j : Nat} (hdg : decode cc pc = .ok (.imul, 1))
    (k : W p l e R s m args below meth c H locs cells slots Q (F0 m (pc + 1) ls (.int (nI (i * j)) :: rest))) : W p l e R s m args below meth c H locs cells slots Q (F0 m pc ls (.int (nI j) :: .int (nI i) :: rest)) :=
  lv_imul hx hb hdg (by rw [pk_mul]; exact k)
theorem xn_sub (hx : p.tables.exec = Jvm.exec) (hb : c.code = cc) {i j : Nat} (h : j ≤ i) (hdg : decode cc pc = .ok (.isub, 1))
    (k : W p l e R s m args below meth c H locs cells slots Q (F0 m (pc + 1) ls (.int (nI (i - j)) :: rest))) : W p l e R s m args below meth c H locs cells slots Q (F0 m pc ls (.int (nI j) :: .int (nI i) :: rest)) :=
  lv_isub hx hb hdg (by rw [pk_sub h]; exact k)
theorem xz_add (hx : p.tables.exec = Jvm.exec) (hb : c.code = cc) {i : Nat} {b : Bool} (hdg : decode cc pc = .ok (.iadd, 1))
    (k : W p l e R s m args below meth c H locs cells slots Q (F0 m (pc + 1) ls (.int (nI (i + b2 b 1)) :: rest))) : W p l e R s m args below meth c H locs cells slots Q (F0 m pc ls (.int (zi b) :: .int (nI i) :: rest)) :=
  lv_iadd hx hb hdg (by rw [zi_b2, nI_add]; exact k)
theorem xn_mulc (hx : p.tables.exec = Jvm.exec) (hb : c.code = cc) {i j : Nat} (hdg : decode cc pc = .ok (.imul, 1))
    (k : W p l e R s m args below meth c H locs cells slots Q (F0 m (pc + 1) ls (.int (nI (j * i)) :: rest))) : W p l e R s m args below meth c H locs cells slots Q (F0 m pc ls (.int (nI j) :: .int (nI i) :: rest)) :=
  lv_imul hx hb hdg (by rw [pk_mul, Nat.mul_comm]; exact k)
theorem xa_ld (hx : p.tables.exec = Jvm.exec) (hb : c.code = cc) (hK : va_K D cl tys s) (hP : va_P D cl ws H) (q0 t0 : Nat) {cA : ClassId} {n : Nat} {f : Nat → Int32} (ha : ws[q0]? = some (a, .inl (cA, n, .inl f))) (ht : tys[t0]? = some (cA, .int)) {i : Nat} (hi : i < n) (hn : n < 2 ^ 31) {v : Int32} (hv : f i = v) (hdg : decode cc pc = .ok (.iaload, 1))
    (kk : W p l e R s m args below meth c H locs cells slots Q (F0 m (pc + 1) ls (.int v :: rest))) : W p l e R s m args below meth c H locs cells slots Q (F0 m pc ls (.int (nI i) :: .ref a :: rest)) :=
  va_iald hx hb hK hP q0 t0 ha ht (vp_in_nI hi hn) hdg (by rw [nI_clamp (Nat.lt_trans hi hn), hv]; exact kk)
theorem xa_zld (hx : p.tables.exec = Jvm.exec) (hb : c.code = cc) (hK : va_K D cl tys s) (hP : va_P D cl ws H) (q0 t0 : Nat) {cA : ClassId} {n : Nat} {f : Nat → Int32} (ha : ws[q0]? = some (a, .inl (cA, n, .inl f))) (ht : tys[t0]? = some (cA, .boolean)) {i : Nat} (hi : i < n) (hn : n < 2 ^ 31) {v : Int32} (hv : f i = v) (hdg : decode cc pc = .ok (.baload, 1))
    (kk : W p l e R s m args below meth c H locs cells slots Q (F0 m (pc + 1) ls (.int v :: rest))) : W p l e R s m args below meth c H locs cells slots Q (F0 m pc ls (.int (nI i) :: .ref a :: rest)) :=
  va_zald hx hb hK hP q0 t0 ha ht (vp_in_nI hi hn) hdg (by rw [nI_clamp (Nat.lt_trans hi hn), hv]; exact kk)
theorem xa_st (hx : p.tables.exec = Jvm.exec) (hb : c.code = cc) (hK : va_K D cl tys s) (hP : va_P D cl ws H) (hD : va_D A ws) (hS : va_S A H0 H locs) (q0 t0 : Nat) {cA : ClassId} {n : Nat} {f f' : Nat → Int32} (ha : ws[q0]? = some (a, .inl (cA, n, .inl f))) (ht : tys[t0]? = some (cA, .int)) {i : Nat} {x : Int32} (hi : i < n) (hn : n < 2 ^ 31) (hf : upd f i x = f') {ws' : va_W} (hw : ws.set q0 (a, .inl (cA, n, .inl f')) = ws') (hdg : decode cc pc = .ok (.iastore, 1))
    (kk : ∀ (H1 : Heap) (locs1 : List Loc), va_P D cl ws' H1 → va_D A ws' → va_S A H0 H1 locs1 → W p l e R s m args below meth c H1 locs1 cells slots Q (F0 m (pc + 1) ls rest)) : W p l e R s m args below meth c H locs cells slots Q (F0 m pc ls (.int x :: .int (nI i) :: .ref a :: rest)) := by
  subst hf; subst hw
  refine va_iast hx hb hK hP hD hS q0 t0 ha ht (vp_in_nI hi hn) hdg (fun H1 locs1 h1 h2 h3 => ?_)
  rw [nI_clamp (Nat.lt_trans hi hn)] at h1 h2
  exact kk H1 locs1 h1 h2 h3
theorem xa_zst (hx : p.tables.exec = Jvm.exec) (hb : c.code = cc) (hK : va_K D cl tys s) (hP : va_P D cl ws H) (hD : va_D A ws) (hS : va_S A H0 H locs) (q0 t0 : Nat) {cA : ClassId} {n : Nat} {f f' : Nat → Int32} (ha : ws[q0]? = some (a, .inl (cA, n, .inl f))) (ht : tys[t0]? = some (cA, .boolean)) {i : Nat} {b : Bool} (hi : i < n) (hn : n < 2 ^ 31) (hf : upd f i (zi b) = f') {ws' : va_W} (hw : ws.set q0 (a, .inl (cA, n, .inl f')) = ws') (hdg : decode cc pc = .ok (.bastore, 1))
    (kk : ∀ (H1 : Heap) (locs1 : List Loc), va_P D cl ws' H1 → va_D A ws' → va_S A H0 H1 locs1 → W p l e R s m args below meth c H1 locs1 cells slots Q (F0 m (pc + 1) ls rest)) : W p l e R s m args below meth c H locs cells slots Q (F0 m pc ls (.int (zi b) :: .int (nI i) :: .ref a :: rest)) := by
  subst hf; subst hw
  refine va_zast hx hb hK hP hD hS q0 t0 ha ht (vp_in_nI hi hn) hdg (fun H1 locs1 h1 h2 h3 => ?_)
  rw [nI_clamp (Nat.lt_trans hi hn), zi_v] at h1 h2
  exact kk H1 locs1 h1 h2 h3
variable {own C : String} {index n maxL nL : Nat} {y : MethodName} {bytes : ByteArray} {ret' : Option FieldType} {wsm Ts : List Cond} {rm : Room} {b : Nat} {v : Int32}
/-- what a method that only reads an object's world needs of a state -/
def i_w (D : va_G) (cl : List vw_C) (ws : va_W) (tys : List (ClassId × FieldType)) (U : State) : Prop := va_P D cl ws U.heap ∧ va_K D cl tys U
theorem rc_V (S : CallFix p m c cc nL s args Ts own) (As : List Value) (rest : List Value) {st0 : List Value} (hM : Met l y wsm rm (va_Pc (.ref b :: As) (i_w D cl ws tys)) (vp_Si (fun r => r = v)) 0 0 (fun _ => False)) (cw : CallW R s args own C index y bytes maxL ret' wsm rm 0 0 n) (hK : va_K D cl tys s) (hP : va_P D cl ws H) (hrv : ∃ cell : Cell, H[b]? = some cell ∧ cell.vm.isStatics = false ∧ s.vm.findClass C = some cell.cls) (hn : As.length = n) (hsz : ls.size = nL) (hst : st0 = As.reverse ++ .ref b :: rest) (hW : (rest.map fun v => v.category).sum ≤ 8) (hc : cells ≤ R.cells ∧ slots ≤ R.slots) (hdg : decode cc pc = .ok (.invokevirtual index, 3))
    (kk : W p l e R s m args below meth c H locs cells slots Q (F0 m (pc + 3) ls (.int v :: rest))) : W p l e R s m args below meth c H locs cells slots Q (F0 m pc ls st0) := by
  subst hst
  refine vp_callSi (W.runV S hM cw ⟨fun a U g mk q => ?_, hrv, fun U hU hW2 => ?_⟩ rfl hn hsz rfl (lv_room hW) hdg hc) (fun r hr => by subst hr; exact kk)
  · obtain ⟨q0, qP, qK⟩ := q
    exact ⟨q0, qP, va_K.moved (u := U) (U := U.calling g mk a) (Vm.Alike.refl U.vm) qK⟩
  · exact ⟨rfl, by rw [hU]; exact hP, va_K.moved hW2.alike hK⟩
theorem rc_S (S : CallFix p m c cc nL s args Ts own) (As : List Value) (rest : List Value) {st0 : List Value} (hM : Met l y wsm rm (va_Pc As (fun _ => True)) (vp_Si (fun r => r = v)) 0 0 (fun _ => False)) (cw : CallB R s args own index y bytes maxL ret' wsm rm 0 0 n ∧ (Cond.static y).before args s = true) (hn : As.length = n) (hsz : ls.size = nL) (hst : st0 = As.reverse ++ rest) (hW : (rest.map fun v => v.category).sum ≤ 8) (hc : cells ≤ R.cells ∧ slots ≤ R.slots) (hdg : decode cc pc = .ok (.invokestatic index, 3))
    (kk : W p l e R s m args below meth c H locs cells slots Q (F0 m (pc + 3) ls (.int v :: rest))) : W p l e R s m args below meth c H locs cells slots Q (F0 m pc ls st0) := by
  subst hst
  refine vp_callSi (W.runS S hM cw ⟨fun a U g mk q => ⟨q.1, trivial⟩, fun U hU hW2 => ⟨rfl, trivial⟩⟩ rfl hn hsz rfl (lv_room hW) hdg hc) (fun r hr => by subst hr; exact kk)
end XB
end
section
/-! what a state is: clocks, trials a clock, rates, chills, bests, seals, prize, record, frost -/
abbrev XS : Type := Nat × (Nat → Nat) × (Nat → Int32) × (Nat → Int32) × (Nat → Int32) × (Nat → Bool) × Int32 × Int32 × Int32
def s_n (S : XS) : Nat := S.1
def s_tr (S : XS) : Nat → Nat := S.2.1
def s_rt (S : XS) : Nat → Int32 := S.2.2.1
def s_ch (S : XS) : Nat → Int32 := S.2.2.2.1
def s_bs (S : XS) : Nat → Int32 := S.2.2.2.2.1
def s_sl (S : XS) : Nat → Bool := S.2.2.2.2.2.1
def s_pz (S : XS) : Int32 := S.2.2.2.2.2.2.1
def s_rc (S : XS) : Int32 := S.2.2.2.2.2.2.2.1
def s_fr (S : XS) : Int32 := S.2.2.2.2.2.2.2.2
def u_n (v : Nat) (S : XS) : XS := (v, s_tr S, s_rt S, s_ch S, s_bs S, s_sl S, s_pz S, s_rc S, s_fr S)
def u_tr (v : Nat → Nat) (S : XS) : XS := (s_n S, v, s_rt S, s_ch S, s_bs S, s_sl S, s_pz S, s_rc S, s_fr S)
def u_rt (v : Nat → Int32) (S : XS) : XS := (s_n S, s_tr S, v, s_ch S, s_bs S, s_sl S, s_pz S, s_rc S, s_fr S)
def u_ch (v : Nat → Int32) (S : XS) : XS := (s_n S, s_tr S, s_rt S, v, s_bs S, s_sl S, s_pz S, s_rc S, s_fr S)
def u_bs (v : Nat → Int32) (S : XS) : XS := (s_n S, s_tr S, s_rt S, s_ch S, v, s_sl S, s_pz S, s_rc S, s_fr S)
def u_sl (v : Nat → Bool) (S : XS) : XS := (s_n S, s_tr S, s_rt S, s_ch S, s_bs S, v, s_pz S, s_rc S, s_fr S)
def u_pz (v : Int32) (S : XS) : XS := (s_n S, s_tr S, s_rt S, s_ch S, s_bs S, s_sl S, v, s_rc S, s_fr S)
def u_rc (v : Int32) (S : XS) : XS := (s_n S, s_tr S, s_rt S, s_ch S, s_bs S, s_sl S, s_pz S, v, s_fr S)
def u_fr (v : Int32) (S : XS) : XS := (s_n S, s_tr S, s_rt S, s_ch S, s_bs S, s_sl S, s_pz S, s_rc S, v)
def upN (f : Nat → Nat) (i v : Nat) : Nat → Nat := fun j => if j = i then v else f j
def upB (f : Nat → Bool) (i : Nat) (v : Bool) : Nat → Bool := fun j => if j = i then v else f j
theorem upN_e (f : Nat → Nat) (i v : Nat) : upd (fun k => nI (f k)) i (nI v) = fun k => nI (upN f i v k) := by
  funext j; unfold upd upN; by_cases h : j = i <;> simp [h]
theorem upB_e (f : Nat → Bool) (i : Nat) (v : Bool) : upd (fun k => zi (f k)) i (zi v) = fun k => zi (upB f i v k) := by
  funext j; unfold upd upB; by_cases h : j = i <;> simp [h]
theorem upN_s (f : Nat → Nat) (i v : Nat) : upN f i v i = v := by simp [upN]
theorem up_uu (f : Nat → Int32) (i : Nat) (v w : Int32) : upd (upd f i v) i w = upd f i w := by
  funext j; unfold upd; by_cases h : j = i <;> simp [h]
theorem up_id (f : Nat → Int32) (i : Nat) : upd f i (f i) = f := by
  funext j; unfold upd; by_cases h : j = i <;> simp [h]
/-- the class's cells, and the reference's -/
def wX (A : Nat → Nat) (K : Nat → ClassId) (S : XS) : va_W := [(A 0, .inr (0, [.ref (A 1), .ref (A 2), .ref (A 3), .ref (A 4), .ref (A 5), .int (nI (s_n S)), .int (s_pz S), .int (s_rc S), .int (s_fr S)])), (A 1, .inl (K 1, 48, .inl (s_rt S))), (A 2, .inl (K 2, 48, .inl (s_ch S))), (A 3, .inl (K 3, 8, .inl (fun k => nI (s_tr S k)))), (A 4, .inl (K 4, 8, .inl (s_bs S))), (A 5, .inl (K 5, 8, .inl (fun k => zi (s_sl S k))))]
def tX (K : Nat → ClassId) : List (ClassId × FieldType) := [(K 1, .int), (K 2, .int), (K 3, .int), (K 4, .int), (K 5, .boolean)]
def wM (A : Nat → Nat) (K : Nat → ClassId) (S : XS) : va_W := [(A 0, .inr (1, [.int (nI (s_n S)), .int (s_pz S), .int (s_fr S), .int (s_rc S), .ref (A 1), .ref (A 2), .ref (A 3), .ref (A 4), .ref (A 5)])), (A 1, .inl (K 1, 8, .inl (fun k => nI (s_tr S k)))), (A 2, .inl (K 2, 8, .inl (s_bs S))), (A 3, .inl (K 3, 8, .inl (fun k => zi (s_sl S k)))), (A 4, .inl (K 4, 48, .inl (s_rt S))), (A 5, .inl (K 5, 48, .inl (s_ch S)))]
def tM (K : Nat → ClassId) : List (ClassId × FieldType) := [(K 1, .int), (K 2, .int), (K 3, .int), (K 4, .int), (K 5, .int)]
def x_inv (S : XS) : Prop := s_n S ≤ 8 ∧ ∀ k, s_tr S k ≤ 6
/-- start and end of a method that writes -/
def Pw (D : va_G) (ws : va_W) (tys : List (ClassId × FieldType)) (sz : Nat) (U : State) : Prop := U.heap.size = sz ∧ va_P D vwCl ws U.heap ∧ va_K D vwCl tys U ∧ va_D (fun _ => True) ws
def Bw (D : va_G) (w : XS → va_W) (tys : List (ClassId × FieldType)) (A9 : Nat → Prop) (S : XS) (t : State) : Prop := va_P D vwCl (w S) t.heap ∧ va_K D vwCl tys t ∧ va_D A9 (w S)
/-! what the methods answer -/
def h_in (v lo hi : Int32) : Bool := !decide (v < lo) && !decide (hi < v)
def h_num (sg a b : Int32) : Bool := if sg = 0 then !decide (b ≤ a) else if sg = 1 then !decide (b < a) else if sg = 2 then !decide (a ≤ b) else if sg = 3 then !decide (a < b) else if sg = 4 then decide (a = b) else !decide (a = b)
def h_all (nn sg a b : Int32) : Bool := if a = nn then decide (sg = 5) else if b = nn then decide (sg = 5) else h_num sg a b
def be (r o : Int32) : Bool := !decide (r = -1) && !h_all (-1) 1 o r
def x_rate (v : Int32) : Bool := decide (v = -1) || h_in v 0 999
def x_chill (v : Int32) : Bool := decide (v = 100) || h_in v (-99) 99
def isClk (S : XS) (v : Int32) : Bool := !decide (v < 0) && !decide (nI (s_n S) ≤ v)
def cold (S : XS) (t : Int32) : Bool := h_all 100 1 t (s_fr S)
def mk4 (c w b r : Bool) : Nat := b2 c 1 + b2 w 2 + b2 b 4 + b2 r 8
def x_marks (S : XS) (a : Nat) (h t : Int32) : Nat := mk4 (cold S t) (h_all (-1) 1 h (s_pz S)) (be h (s_bs S a)) (cold S t && be h (s_rc S))
def cn (q : Nat → Bool) : Nat → Nat
  | 0 => 0
  | k + 1 => cn q k + b2 (q k) 1
def sm (f : Nat → Nat) : Nat → Nat
  | 0 => 0
  | k + 1 => sm f k + f k
def wh (q : Nat → Bool) : Nat → Nat → Nat
  | 0, i => i
  | k + 1, i => if q i = true then wh q k (i + 1) else i
def ff (q : Nat → Bool) : Nat → Nat → Int32
  | 0, _ => -1
  | k + 1, i => if q i = true then nI i else ff q k (i + 1)
def lf (q : Nat → Bool) : Nat → Int32
  | 0 => -1
  | k + 1 => if q k = true then nI k else lf q k
def lr (f : Nat → Int32) : Nat → Int32
  | 0 => -1
  | k + 1 => if be (f k) (lr f k) = true then f k else lr f k
def fbl (f : Nat → Int32) : Nat → Int32 × Int32
  | 0 => (-1, -1)
  | k + 1 => if be (f k) (fbl f k).2 = true then (nI k, f k) else fbl f k
def x_least (S : XS) (a : Nat) : Int32 := lr (fun t => s_rt S (a * 6 + t)) (s_tr S a)
def ga (S : XS) (a b : Nat) : Bool := if s_bs S a = s_bs S b then !decide (b ≤ a) else be (s_bs S a) (s_bs S b)
def x_ahead (S : XS) (c : Nat) : Nat := cn (fun k => ga S k c) (s_n S)
def x_rank (S : XS) (c : Nat) : Nat := cn (fun k => be (s_bs S k) (s_bs S c)) (s_n S)
def x_cold (S : XS) (c : Nat) : Nat := cn (fun t => cold S (s_ch S (c * 6 + t))) (s_tr S c)
def x_more (S : XS) (c : Nat) : Nat := wh (fun t => h_all (-1) 2 (s_rt S (c * 6 + t)) (s_bs S c)) (s_tr S c) 0
def lc (S : XS) (c : Nat) : Int32 := if s_tr S c = 0 then 100 else s_ch S (c * 6 + (s_tr S c - 1))
def hc (S : XS) (w sg : Int32) (i j : Nat) : Bool := if w = 0 then h_all (-1) sg (s_bs S i) (s_bs S j) else h_all 100 sg (lc S i) (lc S j)
def x_row (S : XS) (w sg : Int32) (i j : Nat) : Nat := wh (fun k => hc S w sg k j) (s_n S - i) i
def m_row (S : XS) (w sg : Int32) (i j : Nat) : Nat := wh (fun k => hc S w sg (i + k) j) (s_n S - i) 0
def both (a b : Bool) : Int32 := if a = true then (if b = true then 1 else 2) else (if b = true then 2 else 0)
def x_first (S : XS) : Int32 := (fbl (s_bs S) (s_n S)).1
def x_place (S : XS) (k : Int32) : Int32 := ff (fun c => decide (nI (x_ahead S c) = k)) (s_n S) 0
def m_ahead (S : XS) (c : Nat) : Nat := cn (fun k => !decide (k = c) && ga S k c) (s_n S)
def m_place (S : XS) (k : Int32) : Int32 := lf (fun c => decide (nI (m_ahead S c) = k)) (s_n S)
def m_rk (S : XS) (c k : Nat) : Bool := !decide (k = c) && (if s_bs S c = -1 then !decide (s_bs S k = -1) else h_all (-1) 0 (s_bs S k) (s_bs S c))
def m_rank (S : XS) (c : Nat) : Nat := cn (m_rk S c) (s_n S)
def m_first (S : XS) : Int32 := if m_place S 0 = -1 then -1 else if s_bs S (m_place S 0).toNatClampNeg = -1 then -1 else m_place S 0
def tl (rk : Nat) (S : XS) (c : Nat) (w : Int32) : Int32 := if w = 0 then nI (s_tr S c) else if w = 1 then s_bs S c else if w = 2 then nI rk else if w = 3 then zi (s_sl S c) else if w = 4 then nI (x_cold S c) else if w = 5 then nI (x_more S c) else if w = 6 then lc S c else -1
def x_tell (S : XS) (v w : Int32) : Int32 := if isClk S v = true then tl (x_rank S v.toNatClampNeg) S v.toNatClampNeg w else -1
def m_tell (S : XS) (v w : Int32) : Int32 := if isClk S v = true then tl (m_rank S v.toNatClampNeg) S v.toNatClampNeg w else -1
def ct (fi : Int32) (S : XS) (w : Int32) : Int32 := if w = 0 then nI (s_n S) else if w = 1 then s_rc S else if w = 2 then s_pz S else if w = 3 then s_fr S else if w = 4 then nI (sm (s_tr S) (s_n S)) else if w = 5 then nI (cn (s_sl S) (s_n S)) else if w = 6 then fi else -1
def a_sl (S : XS) (a : Nat) (q : Bool) : XS := u_sl (upB (s_sl S) a q) S
def askN (row : Nat) (S : XS) (w sg hw : Int32) (a b : Nat) (last : Int32) : Int32 × XS := if hw = 0 then (zi (hc S w sg a b), S) else if hw = 1 then (zi (!hc S w sg a b), S) else if hw = 2 then (nI row, S) else if hw = 3 then ((if hc S w sg a b = true then nI a else nI b), S) else if hw = 4 then (nI (cn (s_sl (a_sl S a (hc S w sg a b))) (s_n S)), a_sl S a (hc S w sg a b)) else (last, S)
def x_ask (S : XS) (w sg hw v z : Int32) : Int32 × XS := if (h_in w 0 1 && h_in sg 0 5 && h_in hw 0 5 && isClk S v && isClk S z) = true then askN (x_row S w sg v.toNatClampNeg z.toNatClampNeg - v.toNatClampNeg) S w sg hw v.toNatClampNeg z.toNatClampNeg (both (hc S w sg v.toNatClampNeg z.toNatClampNeg) (hc S w sg z.toNatClampNeg v.toNatClampNeg)) else (-1, S)
def m_ask (S : XS) (w sg hw v z : Int32) : Int32 × XS := if (h_in w 0 1 && h_in sg 0 5 && isClk S v && isClk S z) = true then askN (m_row S w sg v.toNatClampNeg z.toNatClampNeg) S w sg hw v.toNatClampNeg z.toNatClampNeg (if hw = 5 then both (hc S w sg v.toNatClampNeg z.toNatClampNeg) (hc S w sg z.toNatClampNeg v.toNatClampNeg) else -1) else (-1, S)
def tr3 (S : XS) (a : Nat) (h t : Int32) : XS := u_tr (upN (s_tr S) a (s_tr S a + 1)) (u_ch (upd (s_ch S) (a * 6 + s_tr S a) t) (u_rt (upd (s_rt S) (a * 6 + s_tr S a) h) S))
def trX (S : XS) (a : Nat) (h t : Int32) : XS := if (cold S t && be h (s_rc S)) = true then u_rc h (if be h (s_bs S a) = true then u_bs (upd (s_bs S) a h) (tr3 S a h t) else tr3 S a h t) else if be h (s_bs S a) = true then u_bs (upd (s_bs S) a h) (tr3 S a h t) else tr3 S a h t
def trM (S : XS) (a : Nat) (h t : Int32) : XS := u_rc (if (cold S t && be h (s_rc S)) = true then h else s_rc S) (u_bs (upd (s_bs S) a (if be h (s_bs S a) = true then h else s_bs S a)) (tr3 S a h t))
def x_trial (S : XS) (v h t : Int32) : Int32 × XS := if (isClk S v && x_rate h && x_chill t && decide (s_tr S v.toNatClampNeg < 6)) = true then (nI (x_marks S v.toNatClampNeg h t), trX S v.toNatClampNeg h t) else (-1, S)
def m_trial (S : XS) (v h t : Int32) : Int32 × XS := if (isClk S v && !decide (s_tr S v.toNatClampNeg = 6) && h_in h (-1) 999 && h_in t (-99) 100) = true then (nI (x_marks S v.toNatClampNeg h t), trM S v.toNatClampNeg h t) else (-1, S)
def an1 (S : XS) (a : Nat) : XS := u_tr (upN (s_tr S) a (s_tr S a - 1)) S
def an2 (S : XS) (a : Nat) (v : Int32) : XS := u_bs (upd (s_bs S) a v) (an1 S a)
def x_annul (S : XS) (v : Int32) : Int32 × XS := if (isClk S v && !decide (s_tr S v.toNatClampNeg = 0)) = true then (nI (s_tr S v.toNatClampNeg - 1), an2 S v.toNatClampNeg (x_least (an1 S v.toNatClampNeg) v.toNatClampNeg)) else (-1, S)
def x_admit (S : XS) : Int32 × XS := if s_n S < 8 then (nI (s_n S), u_n (s_n S + 1) (u_bs (upd (s_bs S) (s_n S) (-1)) S)) else (-1, S)
def m_admit (S : XS) : Int32 × XS := if s_n S = 8 then (-1, S) else (nI (s_n S), u_n (s_n S + 1) (u_sl (upB (s_sl S) (s_n S) false) (u_bs (upd (s_bs S) (s_n S) (-1)) (u_tr (upN (s_tr S) (s_n S) 0) S))))
def x_prize (S : XS) (v : Int32) : Int32 × XS := if x_rate v = true then (zi true, u_pz v S) else (zi false, S)
def m_prize (S : XS) (v : Int32) : Int32 × XS := if h_in v (-1) 999 = true then (zi true, u_pz v S) else (zi false, S)
def x_frost (S : XS) (v : Int32) : Int32 × XS := if x_chill v = true then (zi true, u_fr v S) else (zi false, S)
def m_frost (S : XS) (v : Int32) : Int32 × XS := if h_in v (-99) 100 = true then (zi true, u_fr v S) else (zi false, S)
theorem isClk_ex {S : XS} {v : Int32} (h : isClk S v = true) (h8 : s_n S ≤ 8) : ∃ k : Nat, k < s_n S ∧ v = nI k := by
  have h1 : ¬ v < 0 := by intro q; simp [isClk, q] at h
  have h2 : ¬ nI (s_n S) ≤ v := by intro q; simp [isClk, q] at h
  obtain ⟨j, hj, rfl⟩ := nI_of h1
  exact ⟨j, Nat.not_le.mp fun q => h2 ((nI_leI (by omega) hj).mpr q), rfl⟩
theorem mk4_4 (c w b r : Bool) : (nI (mk4 c w b r) &&& 4 = 0) ↔ b = false := by cases c <;> cases w <;> cases b <;> cases r <;> decide
theorem mk4_8 (c w b r : Bool) : (nI (mk4 c w b r) &&& 8 = 0) ↔ r = false := by cases c <;> cases w <;> cases b <;> cases r <;> decide
theorem m_place_c (S : XS) (k : Int32) : m_place S k = -1 ∨ ∃ j : Nat, j < s_n S ∧ m_place S k = nI j := by
  unfold m_place
  generalize (fun c => decide (nI (m_ahead S c) = k)) = q
  generalize s_n S = n
  induction n with
  | zero => exact Or.inl rfl
  | succ n ih =>
    by_cases h : q n = true
    · exact Or.inr ⟨n, by omega, by simp [lf, h]⟩
    · rcases ih with e | ⟨j, hj, e⟩
      · exact Or.inl (by simp [lf, h, e])
      · exact Or.inr ⟨j, by omega, by simp [lf, h, e]⟩
theorem b_t {b : Bool} (h : ¬ b = false) : b = true := by cases b with | true => rfl | false => exact absurd rfl h
theorem hi_0 : h_in 0 0 5 = true := by decide
theorem hi_1 : h_in 1 0 5 = true := by decide
theorem hi_2 : h_in 2 0 5 = true := by decide
theorem hi_3 : h_in 3 0 5 = true := by decide
theorem hi_4 : h_in 4 0 5 = true := by decide
theorem hi_5 : h_in 5 0 5 = true := by decide
theorem least_an (S : XS) (a : Nat) : x_least (an1 S a) a = lr (fun t => s_rt S (a * 6 + t)) (s_tr S a - 1) := by
  unfold x_least
  show lr (fun t => s_rt S (a * 6 + t)) (upN (s_tr S) a (s_tr S a - 1) a) = _
  rw [upN_s]
end
section
set_option maxHeartbeats 4000000 in
set_option maxRecDepth 100000 in
theorem c_X0_isWithin (l : Launch) (v : Int32) (lo : Int32) (hi : Int32) : Met l yX0_isWithin wsX0_isWithin (rmD 0) (va_Pc [.int v, .int lo, .int hi] (fun _ => True)) (vp_Si (fun r => r = (zi (h_in v lo hi)))) 0 0 (fun _ => False) := by
  refine Met.ofW (cc := cX0_isWithin) (maxL := 3) (ret := some .boolean) (by decide) rfl ?_
  intro p e s m args below meth c s₁ B hml hv
  obtain ⟨rfl, -⟩ := hv
  have hx := B.exec
  have hb := B.bytes
  have hr := B.returns
  have hts := atoms_spec (ws := wsX0_isWithin) B.pre
  have hown : s.vm.findClass RX0 = some m.cls := findClass_of_methodNamed B.named
  have hlocks := B.notSynchronized
  have hl := lv_entry ([.int v, .int lo, .int hi]) (n := 3) (Nat.le_of_ble_eq_true rfl)
  rw [lg_entry_eq]
  generalize (lg_sl ([.int v, .int lo, .int hi]) ++ List.replicate (3 - (lg_sl ([.int v, .int lo, .int hi])).length) Slot.unset).toArray = ls at hl ⊢
  have hl : lv_has ls 3 [(0, .int v), (1, .int lo), (2, .int hi)] := hl
  refine lv_iload_n hx hb dX0_isWithin_0 rfl (lv_at hl 0 rfl) ?_
  refine lv_iload_n hx hb dX0_isWithin_1 rfl (lv_at hl 1 rfl) ?_
  refine lv_icmp_lt (tgt := 14) hx hb dX0_isWithin_2 (by decide) (fun c1 => ?_) (fun c1 => ?_)
  · refine lv_iconst (v := 0) hx hb dX0_isWithin_14 (by decide) ?_
    exact W.zret (v := zi false) hx hb hr (zi_n _) (fun t ht hW => ⟨_, rfl, by simp [h_in, c1], ht⟩) (fun q h => by cases h) dX0_isWithin_15
  · refine lv_iload_n hx hb dX0_isWithin_5 rfl (lv_at hl 0 rfl) ?_
    refine lv_iload_n hx hb dX0_isWithin_6 rfl (lv_at hl 2 rfl) ?_
    refine lv_icmp_gt (tgt := 14) hx hb dX0_isWithin_7 (by decide) (fun c2 => ?_) (fun c2 => ?_)
    · refine lv_iconst (v := 0) hx hb dX0_isWithin_14 (by decide) ?_
      exact W.zret (v := zi false) hx hb hr (zi_n _) (fun t ht hW => ⟨_, rfl, by simp [h_in, c1, c2], ht⟩) (fun q h => by cases h) dX0_isWithin_15
    · refine lv_iconst (v := 1) hx hb dX0_isWithin_10 (by decide) ?_
      refine lv_goto (tgt := 15) hx hb dX0_isWithin_11 (by decide) ?_
      exact W.zret (v := zi true) hx hb hr (zi_n _) (fun t ht hW => ⟨_, rfl, by simp [h_in, c1, c2], ht⟩) (fun q h => by cases h) dX0_isWithin_15
set_option maxHeartbeats 4000000 in
set_option maxRecDepth 100000 in
theorem c_X0_oneIf (l : Launch) (b : Bool) : Met l yX0_oneIf wsX0_oneIf (rmD 0) (va_Pc [.int (zi b)] (fun _ => True)) (vp_Si (fun r => r = (zi b))) 0 0 (fun _ => False) := by
  refine Met.ofW (cc := cX0_oneIf) (maxL := 1) (ret := some .int) (by decide) rfl ?_
  intro p e s m args below meth c s₁ B hml hv
  obtain ⟨rfl, -⟩ := hv
  have hx := B.exec
  have hb := B.bytes
  have hr := B.returns
  have hts := atoms_spec (ws := wsX0_oneIf) B.pre
  have hown : s.vm.findClass RX0 = some m.cls := findClass_of_methodNamed B.named
  have hlocks := B.notSynchronized
  have hl := lv_entry ([.int (zi b)]) (n := 1) (Nat.le_of_ble_eq_true rfl)
  rw [lg_entry_eq]
  generalize (lg_sl ([.int (zi b)]) ++ List.replicate (1 - (lg_sl ([.int (zi b)])).length) Slot.unset).toArray = ls at hl ⊢
  have hl : lv_has ls 1 [(0, .int (zi b))] := hl
  refine lv_iload_n hx hb dX0_oneIf_0 rfl (lv_at hl 0 rfl) ?_
  refine xz_eq (b := b) (tgt := 8) hx hb dX0_oneIf_1 (by decide) (fun c1 => ?_) (fun c1 => ?_)
  · refine lv_iconst (v := 0) hx hb dX0_oneIf_8 (by decide) ?_
    exact W.iret (v := 0) hx hb hr (fun t ht hW => ⟨_, rfl, by rw [c1]; rfl, ht⟩) (fun q h => by cases h) dX0_oneIf_9
  · refine lv_iconst (v := 1) hx hb dX0_oneIf_4 (by decide) ?_
    refine lv_goto (tgt := 9) hx hb dX0_oneIf_5 (by decide) ?_
    exact W.iret (v := 1) hx hb hr (fun t ht hW => ⟨_, rfl, by rw [c1]; rfl, ht⟩) (fun q h => by cases h) dX0_oneIf_9
set_option maxHeartbeats 4000000 in
set_option maxRecDepth 100000 in
theorem c_X0_slot (l : Launch) (a : Nat) (k : Nat) : Met l yX0_slot wsX0_slot (rmD 0) (va_Pc [.int (nI a), .int (nI k)] (fun _ => True)) (vp_Si (fun r => r = (nI (a * 6 + k)))) 0 0 (fun _ => False) := by
  refine Met.ofW (cc := cX0_slot) (maxL := 2) (ret := some .int) (by decide) rfl ?_
  intro p e s m args below meth c s₁ B hml hv
  obtain ⟨rfl, -⟩ := hv
  have hx := B.exec
  have hb := B.bytes
  have hr := B.returns
  have hts := atoms_spec (ws := wsX0_slot) B.pre
  have hown : s.vm.findClass RX0 = some m.cls := findClass_of_methodNamed B.named
  have hlocks := B.notSynchronized
  have hl := lv_entry ([.int (nI a), .int (nI k)]) (n := 2) (Nat.le_of_ble_eq_true rfl)
  rw [lg_entry_eq]
  generalize (lg_sl ([.int (nI a), .int (nI k)]) ++ List.replicate (2 - (lg_sl ([.int (nI a), .int (nI k)])).length) Slot.unset).toArray = ls at hl ⊢
  have hl : lv_has ls 2 [(0, .int (nI a)), (1, .int (nI k))] := hl
  refine lv_iload_n hx hb dX0_slot_0 rfl (lv_at hl 0 rfl) ?_
  refine lv_bipush (v := 6) hx hb dX0_slot_1 (by decide) ?_
  refine xn_mul (i := a) (j := 6) hx hb dX0_slot_3 ?_
  refine lv_iload_n hx hb dX0_slot_4 rfl (lv_at hl 1 rfl) ?_
  refine xn_add (i := (a * 6)) (j := k) hx hb dX0_slot_5 ?_
  exact W.iret (v := (nI ((a * 6) + k))) hx hb hr (fun t ht hW => ⟨_, rfl, rfl, ht⟩) (fun q h => by cases h) dX0_slot_6
set_option maxHeartbeats 4000000 in
set_option maxRecDepth 100000 in
theorem c_X0_isRate (l : Launch) (v : Int32) : Met l yX0_isRate wsX0_isRate (rmD 1) (va_Pc [.int v] (fun _ => True)) (vp_Si (fun r => r = (zi (x_rate v)))) 0 0 (fun _ => False) := by
  refine Met.ofW (cc := cX0_isRate) (maxL := 1) (ret := some .boolean) (by decide) rfl ?_
  intro p e s m args below meth c s₁ B hml hv
  obtain ⟨rfl, -⟩ := hv
  have hx := B.exec
  have hb := B.bytes
  have hr := B.returns
  have hts := atoms_spec (ws := wsX0_isRate) B.pre
  have hown : s.vm.findClass RX0 = some m.cls := findClass_of_methodNamed B.named
  have hlocks := B.notSynchronized
  have hl := lv_entry ([.int v]) (n := 1) (Nat.le_of_ble_eq_true rfl)
  rw [lg_entry_eq]
  generalize (lg_sl ([.int v]) ++ List.replicate (1 - (lg_sl ([.int v])).length) Slot.unset).toArray = ls at hl ⊢
  have hl : lv_has ls 1 [(0, .int v)] := hl
  refine lv_iload_n hx hb dX0_isRate_0 rfl (lv_at hl 0 rfl) ?_
  refine lv_iconst (v := (-1)) hx hb dX0_isRate_1 (by decide) ?_
  refine lv_icmp_eq (tgt := 16) hx hb dX0_isRate_2 (by decide) (fun c1 => ?_) (fun c1 => ?_)
  · refine lv_iconst (v := 1) hx hb dX0_isRate_16 (by decide) ?_
    refine lv_goto (tgt := 21) hx hb dX0_isRate_17 (by decide) ?_
    exact W.zret (v := zi true) hx hb hr (zi_n _) (fun t ht hW => ⟨_, rfl, by simp [x_rate, c1], ht⟩) (fun q h => by cases h) dX0_isRate_21
  · refine lv_iload_n hx hb dX0_isRate_5 rfl (lv_at hl 0 rfl) ?_
    refine lv_iconst (v := 0) hx hb dX0_isRate_6 (by decide) ?_
    refine lv_sipush (v := 999) hx hb dX0_isRate_7 (by decide) ?_
    refine rc_S (v := (zi (h_in v 0 999))) ⟨hx, hb, hml, hown, hts⟩ [.int v, .int 0, .int 999] [] (c_X0_isWithin l v 0 999) (va_cwS 3 hts gX0_isRate_X0_isWithin rfl rfl rfl (by decide +kernel) ⟨Nat.le_of_ble_eq_true rfl, Nat.le_of_ble_eq_true rfl⟩) rfl hl.1 rfl (Nat.le_of_ble_eq_true rfl) ⟨Nat.zero_le _, Nat.zero_le _⟩ dX0_isRate_10 ?_
    refine xz_eq (b := (h_in v 0 999)) (tgt := 20) hx hb dX0_isRate_13 (by decide) (fun c2 => ?_) (fun c2 => ?_)
    · refine lv_iconst (v := 0) hx hb dX0_isRate_20 (by decide) ?_
      exact W.zret (v := zi false) hx hb hr (zi_n _) (fun t ht hW => ⟨_, rfl, by simp [x_rate, c1, c2], ht⟩) (fun q h => by cases h) dX0_isRate_21
    · refine lv_iconst (v := 1) hx hb dX0_isRate_16 (by decide) ?_
      refine lv_goto (tgt := 21) hx hb dX0_isRate_17 (by decide) ?_
      exact W.zret (v := zi true) hx hb hr (zi_n _) (fun t ht hW => ⟨_, rfl, by simp [x_rate, c1, c2], ht⟩) (fun q h => by cases h) dX0_isRate_21
set_option maxHeartbeats 4000000 in
set_option maxRecDepth 100000 in
theorem c_X0_isChill (l : Launch) (v : Int32) : Met l yX0_isChill wsX0_isChill (rmD 1) (va_Pc [.int v] (fun _ => True)) (vp_Si (fun r => r = (zi (x_chill v)))) 0 0 (fun _ => False) := by
  refine Met.ofW (cc := cX0_isChill) (maxL := 1) (ret := some .boolean) (by decide) rfl ?_
  intro p e s m args below meth c s₁ B hml hv
  obtain ⟨rfl, -⟩ := hv
  have hx := B.exec
  have hb := B.bytes
  have hr := B.returns
  have hts := atoms_spec (ws := wsX0_isChill) B.pre
  have hown : s.vm.findClass RX0 = some m.cls := findClass_of_methodNamed B.named
  have hlocks := B.notSynchronized
  have hl := lv_entry ([.int v]) (n := 1) (Nat.le_of_ble_eq_true rfl)
  rw [lg_entry_eq]
  generalize (lg_sl ([.int v]) ++ List.replicate (1 - (lg_sl ([.int v])).length) Slot.unset).toArray = ls at hl ⊢
  have hl : lv_has ls 1 [(0, .int v)] := hl
  refine lv_iload_n hx hb dX0_isChill_0 rfl (lv_at hl 0 rfl) ?_
  refine lv_bipush (v := 100) hx hb dX0_isChill_1 (by decide) ?_
  refine lv_icmp_eq (tgt := 17) hx hb dX0_isChill_3 (by decide) (fun c1 => ?_) (fun c1 => ?_)
  · refine lv_iconst (v := 1) hx hb dX0_isChill_17 (by decide) ?_
    refine lv_goto (tgt := 22) hx hb dX0_isChill_18 (by decide) ?_
    exact W.zret (v := zi true) hx hb hr (zi_n _) (fun t ht hW => ⟨_, rfl, by simp [x_chill, c1], ht⟩) (fun q h => by cases h) dX0_isChill_22
  · refine lv_iload_n hx hb dX0_isChill_6 rfl (lv_at hl 0 rfl) ?_
    refine lv_bipush (v := (-99)) hx hb dX0_isChill_7 (by decide) ?_
    refine lv_bipush (v := 99) hx hb dX0_isChill_9 (by decide) ?_
    refine rc_S (v := (zi (h_in v (-99) 99))) ⟨hx, hb, hml, hown, hts⟩ [.int v, .int (-99), .int 99] [] (c_X0_isWithin l v (-99) 99) (va_cwS 3 hts gX0_isChill_X0_isWithin rfl rfl rfl (by decide +kernel) ⟨Nat.le_of_ble_eq_true rfl, Nat.le_of_ble_eq_true rfl⟩) rfl hl.1 rfl (Nat.le_of_ble_eq_true rfl) ⟨Nat.zero_le _, Nat.zero_le _⟩ dX0_isChill_11 ?_
    refine xz_eq (b := (h_in v (-99) 99)) (tgt := 21) hx hb dX0_isChill_14 (by decide) (fun c2 => ?_) (fun c2 => ?_)
    · refine lv_iconst (v := 0) hx hb dX0_isChill_21 (by decide) ?_
      exact W.zret (v := zi false) hx hb hr (zi_n _) (fun t ht hW => ⟨_, rfl, by simp [x_chill, c1, c2], ht⟩) (fun q h => by cases h) dX0_isChill_22
    · refine lv_iconst (v := 1) hx hb dX0_isChill_17 (by decide) ?_
      refine lv_goto (tgt := 22) hx hb dX0_isChill_18 (by decide) ?_
      exact W.zret (v := zi true) hx hb hr (zi_n _) (fun t ht hW => ⟨_, rfl, by simp [x_chill, c1, c2], ht⟩) (fun q h => by cases h) dX0_isChill_22
set_option maxHeartbeats 4000000 in
set_option maxRecDepth 100000 in
theorem c_X0_holdsOfNumbers (l : Launch) (sg : Int32) (v : Int32) (z : Int32) : Met l yX0_holdsOfNumbers wsX0_holdsOfNumbers (rmD 0) (va_Pc [.int sg, .int v, .int z] (fun _ => True)) (vp_Si (fun r => r = (zi (h_num sg v z)))) 0 0 (fun _ => False) := by
  refine Met.ofW (cc := cX0_holdsOfNumbers) (maxL := 3) (ret := some .boolean) (by decide) rfl ?_
  intro p e s m args below meth c s₁ B hml hv
  obtain ⟨rfl, -⟩ := hv
  have hx := B.exec
  have hb := B.bytes
  have hr := B.returns
  have hts := atoms_spec (ws := wsX0_holdsOfNumbers) B.pre
  have hown : s.vm.findClass RX0 = some m.cls := findClass_of_methodNamed B.named
  have hlocks := B.notSynchronized
  have hl := lv_entry ([.int sg, .int v, .int z]) (n := 3) (Nat.le_of_ble_eq_true rfl)
  rw [lg_entry_eq]
  generalize (lg_sl ([.int sg, .int v, .int z]) ++ List.replicate (3 - (lg_sl ([.int sg, .int v, .int z])).length) Slot.unset).toArray = ls at hl ⊢
  have hl : lv_has ls 3 [(0, .int sg), (1, .int v), (2, .int z)] := hl
  refine lv_iload_n hx hb dX0_holdsOfNumbers_0 rfl (lv_at hl 0 rfl) ?_
  by_cases w1 : sg = 0
  · refine lv_tableIn (tgt := 36) hx hb dX0_holdsOfNumbers_1 (by rw [w1]; decide) (by rw [w1]; decide) (by rw [w1]; rfl) (by decide) ?_
    refine lv_iload_n hx hb dX0_holdsOfNumbers_36 rfl (lv_at hl 1 rfl) ?_
    refine lv_iload_n hx hb dX0_holdsOfNumbers_37 rfl (lv_at hl 2 rfl) ?_
    refine lv_icmp_ge (tgt := 45) hx hb dX0_holdsOfNumbers_38 (by decide) (fun c2 => ?_) (fun c2 => ?_)
    · refine lv_iconst (v := 0) hx hb dX0_holdsOfNumbers_45 (by decide) ?_
      exact W.zret (v := zi false) hx hb hr (zi_n _) (fun t ht hW => ⟨_, rfl, by simp [h_num, w1, c2], ht⟩) (fun q h => by cases h) dX0_holdsOfNumbers_46
    · refine lv_iconst (v := 1) hx hb dX0_holdsOfNumbers_41 (by decide) ?_
      refine lv_goto (tgt := 46) hx hb dX0_holdsOfNumbers_42 (by decide) ?_
      exact W.zret (v := zi true) hx hb hr (zi_n _) (fun t ht hW => ⟨_, rfl, by simp [h_num, w1, c2], ht⟩) (fun q h => by cases h) dX0_holdsOfNumbers_46
  by_cases w3 : sg = 1
  · refine lv_tableIn (tgt := 47) hx hb dX0_holdsOfNumbers_1 (by rw [w3]; decide) (by rw [w3]; decide) (by rw [w3]; rfl) (by decide) ?_
    refine lv_iload_n hx hb dX0_holdsOfNumbers_47 rfl (lv_at hl 1 rfl) ?_
    refine lv_iload_n hx hb dX0_holdsOfNumbers_48 rfl (lv_at hl 2 rfl) ?_
    refine lv_icmp_gt (tgt := 56) hx hb dX0_holdsOfNumbers_49 (by decide) (fun c4 => ?_) (fun c4 => ?_)
    · refine lv_iconst (v := 0) hx hb dX0_holdsOfNumbers_56 (by decide) ?_
      exact W.zret (v := zi false) hx hb hr (zi_n _) (fun t ht hW => ⟨_, rfl, by simp [h_num, w1, w3, c4], ht⟩) (fun q h => by cases h) dX0_holdsOfNumbers_57
    · refine lv_iconst (v := 1) hx hb dX0_holdsOfNumbers_52 (by decide) ?_
      refine lv_goto (tgt := 57) hx hb dX0_holdsOfNumbers_53 (by decide) ?_
      exact W.zret (v := zi true) hx hb hr (zi_n _) (fun t ht hW => ⟨_, rfl, by simp [h_num, w1, w3, c4], ht⟩) (fun q h => by cases h) dX0_holdsOfNumbers_57
  by_cases w5 : sg = 2
  · refine lv_tableIn (tgt := 58) hx hb dX0_holdsOfNumbers_1 (by rw [w5]; decide) (by rw [w5]; decide) (by rw [w5]; rfl) (by decide) ?_
    refine lv_iload_n hx hb dX0_holdsOfNumbers_58 rfl (lv_at hl 1 rfl) ?_
    refine lv_iload_n hx hb dX0_holdsOfNumbers_59 rfl (lv_at hl 2 rfl) ?_
    refine lv_icmp_le (tgt := 67) hx hb dX0_holdsOfNumbers_60 (by decide) (fun c6 => ?_) (fun c6 => ?_)
    · refine lv_iconst (v := 0) hx hb dX0_holdsOfNumbers_67 (by decide) ?_
      exact W.zret (v := zi false) hx hb hr (zi_n _) (fun t ht hW => ⟨_, rfl, by simp [h_num, w1, w3, w5, c6], ht⟩) (fun q h => by cases h) dX0_holdsOfNumbers_68
    · refine lv_iconst (v := 1) hx hb dX0_holdsOfNumbers_63 (by decide) ?_
      refine lv_goto (tgt := 68) hx hb dX0_holdsOfNumbers_64 (by decide) ?_
      exact W.zret (v := zi true) hx hb hr (zi_n _) (fun t ht hW => ⟨_, rfl, by simp [h_num, w1, w3, w5, c6], ht⟩) (fun q h => by cases h) dX0_holdsOfNumbers_68
  by_cases w7 : sg = 3
  · refine lv_tableIn (tgt := 69) hx hb dX0_holdsOfNumbers_1 (by rw [w7]; decide) (by rw [w7]; decide) (by rw [w7]; rfl) (by decide) ?_
    refine lv_iload_n hx hb dX0_holdsOfNumbers_69 rfl (lv_at hl 1 rfl) ?_
    refine lv_iload_n hx hb dX0_holdsOfNumbers_70 rfl (lv_at hl 2 rfl) ?_
    refine lv_icmp_lt (tgt := 78) hx hb dX0_holdsOfNumbers_71 (by decide) (fun c8 => ?_) (fun c8 => ?_)
    · refine lv_iconst (v := 0) hx hb dX0_holdsOfNumbers_78 (by decide) ?_
      exact W.zret (v := zi false) hx hb hr (zi_n _) (fun t ht hW => ⟨_, rfl, by simp [h_num, w1, w3, w5, w7, c8], ht⟩) (fun q h => by cases h) dX0_holdsOfNumbers_79
    · refine lv_iconst (v := 1) hx hb dX0_holdsOfNumbers_74 (by decide) ?_
      refine lv_goto (tgt := 79) hx hb dX0_holdsOfNumbers_75 (by decide) ?_
      exact W.zret (v := zi true) hx hb hr (zi_n _) (fun t ht hW => ⟨_, rfl, by simp [h_num, w1, w3, w5, w7, c8], ht⟩) (fun q h => by cases h) dX0_holdsOfNumbers_79
  by_cases w9 : sg = 4
  · refine lv_tableIn (tgt := 80) hx hb dX0_holdsOfNumbers_1 (by rw [w9]; decide) (by rw [w9]; decide) (by rw [w9]; rfl) (by decide) ?_
    refine lv_iload_n hx hb dX0_holdsOfNumbers_80 rfl (lv_at hl 1 rfl) ?_
    refine lv_iload_n hx hb dX0_holdsOfNumbers_81 rfl (lv_at hl 2 rfl) ?_
    refine lv_icmp_ne (tgt := 89) hx hb dX0_holdsOfNumbers_82 (by decide) (fun c10 => ?_) (fun c10 => ?_)
    · refine lv_iconst (v := 0) hx hb dX0_holdsOfNumbers_89 (by decide) ?_
      exact W.zret (v := zi false) hx hb hr (zi_n _) (fun t ht hW => ⟨_, rfl, by simp [h_num, w1, w3, w5, w7, w9, c10], ht⟩) (fun q h => by cases h) dX0_holdsOfNumbers_90
    · refine lv_iconst (v := 1) hx hb dX0_holdsOfNumbers_85 (by decide) ?_
      refine lv_goto (tgt := 90) hx hb dX0_holdsOfNumbers_86 (by decide) ?_
      exact W.zret (v := zi true) hx hb hr (zi_n _) (fun t ht hW => ⟨_, rfl, by simp [h_num, w1, w3, w5, w7, w9, c10], ht⟩) (fun q h => by cases h) dX0_holdsOfNumbers_90
  refine lv_tableOut (tgt := 91) hx hb dX0_holdsOfNumbers_1 (by have tw1 := lv_neT (a := 0) w1 rfl; have tw3 := lv_neT (a := 1) w3 rfl; have tw5 := lv_neT (a := 2) w5 rfl; have tw7 := lv_neT (a := 3) w7 rfl; have tw9 := lv_neT (a := 4) w9 rfl; omega) (by decide) ?_
  refine lv_iload_n hx hb dX0_holdsOfNumbers_91 rfl (lv_at hl 1 rfl) ?_
  refine lv_iload_n hx hb dX0_holdsOfNumbers_92 rfl (lv_at hl 2 rfl) ?_
  refine lv_icmp_eq (tgt := 100) hx hb dX0_holdsOfNumbers_93 (by decide) (fun c11 => ?_) (fun c11 => ?_)
  · refine lv_iconst (v := 0) hx hb dX0_holdsOfNumbers_100 (by decide) ?_
    exact W.zret (v := zi false) hx hb hr (zi_n _) (fun t ht hW => ⟨_, rfl, by simp [h_num, w1, w3, w5, w7, w9, c11], ht⟩) (fun q h => by cases h) dX0_holdsOfNumbers_101
  · refine lv_iconst (v := 1) hx hb dX0_holdsOfNumbers_96 (by decide) ?_
    refine lv_goto (tgt := 101) hx hb dX0_holdsOfNumbers_97 (by decide) ?_
    exact W.zret (v := zi true) hx hb hr (zi_n _) (fun t ht hW => ⟨_, rfl, by simp [h_num, w1, w3, w5, w7, w9, c11], ht⟩) (fun q h => by cases h) dX0_holdsOfNumbers_101
set_option maxHeartbeats 4000000 in
set_option maxRecDepth 100000 in
theorem c_X0_holdsOfRates (l : Launch) (sg : Int32) (v : Int32) (z : Int32) : Met l yX0_holdsOfRates wsX0_holdsOfRates (rmD 1) (va_Pc [.int sg, .int v, .int z] (fun _ => True)) (vp_Si (fun r => r = (zi (h_all (-1) sg v z)))) 0 0 (fun _ => False) := by
  refine Met.ofW (cc := cX0_holdsOfRates) (maxL := 3) (ret := some .boolean) (by decide) rfl ?_
  intro p e s m args below meth c s₁ B hml hv
  obtain ⟨rfl, -⟩ := hv
  have hx := B.exec
  have hb := B.bytes
  have hr := B.returns
  have hts := atoms_spec (ws := wsX0_holdsOfRates) B.pre
  have hown : s.vm.findClass RX0 = some m.cls := findClass_of_methodNamed B.named
  have hlocks := B.notSynchronized
  have hl := lv_entry ([.int sg, .int v, .int z]) (n := 3) (Nat.le_of_ble_eq_true rfl)
  rw [lg_entry_eq]
  generalize (lg_sl ([.int sg, .int v, .int z]) ++ List.replicate (3 - (lg_sl ([.int sg, .int v, .int z])).length) Slot.unset).toArray = ls at hl ⊢
  have hl : lv_has ls 3 [(0, .int sg), (1, .int v), (2, .int z)] := hl
  refine lv_iload_n hx hb dX0_holdsOfRates_0 rfl (lv_at hl 1 rfl) ?_
  refine lv_iconst (v := (-1)) hx hb dX0_holdsOfRates_1 (by decide) ?_
  refine lv_icmp_eq (tgt := 10) hx hb dX0_holdsOfRates_2 (by decide) (fun c1 => ?_) (fun c1 => ?_)
  · refine lv_iload_n hx hb dX0_holdsOfRates_10 rfl (lv_at hl 0 rfl) ?_
    refine lv_iconst (v := 5) hx hb dX0_holdsOfRates_11 (by decide) ?_
    refine lv_icmp_ne (tgt := 19) hx hb dX0_holdsOfRates_12 (by decide) (fun c2 => ?_) (fun c2 => ?_)
    · refine lv_iconst (v := 0) hx hb dX0_holdsOfRates_19 (by decide) ?_
      exact W.zret (v := zi false) hx hb hr (zi_n _) (fun t ht hW => ⟨_, rfl, by simp [h_all, c1, c2], ht⟩) (fun q h => by cases h) dX0_holdsOfRates_20
    · refine lv_iconst (v := 1) hx hb dX0_holdsOfRates_15 (by decide) ?_
      refine lv_goto (tgt := 20) hx hb dX0_holdsOfRates_16 (by decide) ?_
      exact W.zret (v := zi true) hx hb hr (zi_n _) (fun t ht hW => ⟨_, rfl, by simp [h_all, c1, c2], ht⟩) (fun q h => by cases h) dX0_holdsOfRates_20
  · refine lv_iload_n hx hb dX0_holdsOfRates_5 rfl (lv_at hl 2 rfl) ?_
    refine lv_iconst (v := (-1)) hx hb dX0_holdsOfRates_6 (by decide) ?_
    refine lv_icmp_ne (tgt := 21) hx hb dX0_holdsOfRates_7 (by decide) (fun c3 => ?_) (fun c3 => ?_)
    · refine lv_iload_n hx hb dX0_holdsOfRates_21 rfl (lv_at hl 0 rfl) ?_
      refine lv_iload_n hx hb dX0_holdsOfRates_22 rfl (lv_at hl 1 rfl) ?_
      refine lv_iload_n hx hb dX0_holdsOfRates_23 rfl (lv_at hl 2 rfl) ?_
      refine rc_S (v := (zi (h_num sg v z))) ⟨hx, hb, hml, hown, hts⟩ [.int sg, .int v, .int z] [] (c_X0_holdsOfNumbers l sg v z) (va_cwS 3 hts gX0_holdsOfRates_X0_holdsOfNumbers rfl rfl rfl (by decide +kernel) ⟨Nat.le_of_ble_eq_true rfl, Nat.le_of_ble_eq_true rfl⟩) rfl hl.1 rfl (Nat.le_of_ble_eq_true rfl) ⟨Nat.zero_le _, Nat.zero_le _⟩ dX0_holdsOfRates_24 ?_
      exact W.zret (v := zi (h_num sg v z)) hx hb hr (zi_n _) (fun t ht hW => ⟨_, rfl, by simp [h_all, c1, c3], ht⟩) (fun q h => by cases h) dX0_holdsOfRates_27
    · refine lv_iload_n hx hb dX0_holdsOfRates_10 rfl (lv_at hl 0 rfl) ?_
      refine lv_iconst (v := 5) hx hb dX0_holdsOfRates_11 (by decide) ?_
      refine lv_icmp_ne (tgt := 19) hx hb dX0_holdsOfRates_12 (by decide) (fun c4 => ?_) (fun c4 => ?_)
      · refine lv_iconst (v := 0) hx hb dX0_holdsOfRates_19 (by decide) ?_
        exact W.zret (v := zi false) hx hb hr (zi_n _) (fun t ht hW => ⟨_, rfl, by simp [h_all, c1, c3, c4], ht⟩) (fun q h => by cases h) dX0_holdsOfRates_20
      · refine lv_iconst (v := 1) hx hb dX0_holdsOfRates_15 (by decide) ?_
        refine lv_goto (tgt := 20) hx hb dX0_holdsOfRates_16 (by decide) ?_
        exact W.zret (v := zi true) hx hb hr (zi_n _) (fun t ht hW => ⟨_, rfl, by simp [h_all, c1, c3, c4], ht⟩) (fun q h => by cases h) dX0_holdsOfRates_20
set_option maxHeartbeats 4000000 in
set_option maxRecDepth 100000 in
theorem c_X0_holdsOfChills (l : Launch) (sg : Int32) (v : Int32) (z : Int32) : Met l yX0_holdsOfChills wsX0_holdsOfChills (rmD 1) (va_Pc [.int sg, .int v, .int z] (fun _ => True)) (vp_Si (fun r => r = (zi (h_all 100 sg v z)))) 0 0 (fun _ => False) := by
  refine Met.ofW (cc := cX0_holdsOfChills) (maxL := 3) (ret := some .boolean) (by decide) rfl ?_
  intro p e s m args below meth c s₁ B hml hv
  obtain ⟨rfl, -⟩ := hv
  have hx := B.exec
  have hb := B.bytes
  have hr := B.returns
  have hts := atoms_spec (ws := wsX0_holdsOfChills) B.pre
  have hown : s.vm.findClass RX0 = some m.cls := findClass_of_methodNamed B.named
  have hlocks := B.notSynchronized
  have hl := lv_entry ([.int sg, .int v, .int z]) (n := 3) (Nat.le_of_ble_eq_true rfl)
  rw [lg_entry_eq]
  generalize (lg_sl ([.int sg, .int v, .int z]) ++ List.replicate (3 - (lg_sl ([.int sg, .int v, .int z])).length) Slot.unset).toArray = ls at hl ⊢
  have hl : lv_has ls 3 [(0, .int sg), (1, .int v), (2, .int z)] := hl
  refine lv_iload_n hx hb dX0_holdsOfChills_0 rfl (lv_at hl 1 rfl) ?_
  refine lv_bipush (v := 100) hx hb dX0_holdsOfChills_1 (by decide) ?_
  refine lv_icmp_eq (tgt := 12) hx hb dX0_holdsOfChills_3 (by decide) (fun c1 => ?_) (fun c1 => ?_)
  · refine lv_iload_n hx hb dX0_holdsOfChills_12 rfl (lv_at hl 0 rfl) ?_
    refine lv_iconst (v := 5) hx hb dX0_holdsOfChills_13 (by decide) ?_
    refine lv_icmp_ne (tgt := 21) hx hb dX0_holdsOfChills_14 (by decide) (fun c2 => ?_) (fun c2 => ?_)
    · refine lv_iconst (v := 0) hx hb dX0_holdsOfChills_21 (by decide) ?_
      exact W.zret (v := zi false) hx hb hr (zi_n _) (fun t ht hW => ⟨_, rfl, by simp [h_all, c1, c2], ht⟩) (fun q h => by cases h) dX0_holdsOfChills_22
    · refine lv_iconst (v := 1) hx hb dX0_holdsOfChills_17 (by decide) ?_
      refine lv_goto (tgt := 22) hx hb dX0_holdsOfChills_18 (by decide) ?_
      exact W.zret (v := zi true) hx hb hr (zi_n _) (fun t ht hW => ⟨_, rfl, by simp [h_all, c1, c2], ht⟩) (fun q h => by cases h) dX0_holdsOfChills_22
  · refine lv_iload_n hx hb dX0_holdsOfChills_6 rfl (lv_at hl 2 rfl) ?_
    refine lv_bipush (v := 100) hx hb dX0_holdsOfChills_7 (by decide) ?_
    refine lv_icmp_ne (tgt := 23) hx hb dX0_holdsOfChills_9 (by decide) (fun c3 => ?_) (fun c3 => ?_)
    · refine lv_iload_n hx hb dX0_holdsOfChills_23 rfl (lv_at hl 0 rfl) ?_
      refine lv_iload_n hx hb dX0_holdsOfChills_24 rfl (lv_at hl 1 rfl) ?_
      refine lv_iload_n hx hb dX0_holdsOfChills_25 rfl (lv_at hl 2 rfl) ?_
      refine rc_S (v := (zi (h_num sg v z))) ⟨hx, hb, hml, hown, hts⟩ [.int sg, .int v, .int z] [] (c_X0_holdsOfNumbers l sg v z) (va_cwS 3 hts gX0_holdsOfChills_X0_holdsOfNumbers rfl rfl rfl (by decide +kernel) ⟨Nat.le_of_ble_eq_true rfl, Nat.le_of_ble_eq_true rfl⟩) rfl hl.1 rfl (Nat.le_of_ble_eq_true rfl) ⟨Nat.zero_le _, Nat.zero_le _⟩ dX0_holdsOfChills_26 ?_
      exact W.zret (v := zi (h_num sg v z)) hx hb hr (zi_n _) (fun t ht hW => ⟨_, rfl, by simp [h_all, c1, c3], ht⟩) (fun q h => by cases h) dX0_holdsOfChills_29
    · refine lv_iload_n hx hb dX0_holdsOfChills_12 rfl (lv_at hl 0 rfl) ?_
      refine lv_iconst (v := 5) hx hb dX0_holdsOfChills_13 (by decide) ?_
      refine lv_icmp_ne (tgt := 21) hx hb dX0_holdsOfChills_14 (by decide) (fun c4 => ?_) (fun c4 => ?_)
      · refine lv_iconst (v := 0) hx hb dX0_holdsOfChills_21 (by decide) ?_
        exact W.zret (v := zi false) hx hb hr (zi_n _) (fun t ht hW => ⟨_, rfl, by simp [h_all, c1, c3, c4], ht⟩) (fun q h => by cases h) dX0_holdsOfChills_22
      · refine lv_iconst (v := 1) hx hb dX0_holdsOfChills_17 (by decide) ?_
        refine lv_goto (tgt := 22) hx hb dX0_holdsOfChills_18 (by decide) ?_
        exact W.zret (v := zi true) hx hb hr (zi_n _) (fun t ht hW => ⟨_, rfl, by simp [h_all, c1, c3, c4], ht⟩) (fun q h => by cases h) dX0_holdsOfChills_22
set_option maxHeartbeats 4000000 in
set_option maxRecDepth 100000 in
theorem c_X0_betters (l : Launch) (v : Int32) (z : Int32) : Met l yX0_betters wsX0_betters (rmD 2) (va_Pc [.int v, .int z] (fun _ => True)) (vp_Si (fun r => r = (zi (be v z)))) 0 0 (fun _ => False) := by
  refine Met.ofW (cc := cX0_betters) (maxL := 2) (ret := some .boolean) (by decide) rfl ?_
  intro p e s m args below meth c s₁ B hml hv
  obtain ⟨rfl, -⟩ := hv
  have hx := B.exec
  have hb := B.bytes
  have hr := B.returns
  have hts := atoms_spec (ws := wsX0_betters) B.pre
  have hown : s.vm.findClass RX0 = some m.cls := findClass_of_methodNamed B.named
  have hlocks := B.notSynchronized
  have hl := lv_entry ([.int v, .int z]) (n := 2) (Nat.le_of_ble_eq_true rfl)
  rw [lg_entry_eq]
  generalize (lg_sl ([.int v, .int z]) ++ List.replicate (2 - (lg_sl ([.int v, .int z])).length) Slot.unset).toArray = ls at hl ⊢
  have hl : lv_has ls 2 [(0, .int v), (1, .int z)] := hl
  refine lv_iload_n hx hb dX0_betters_0 rfl (lv_at hl 0 rfl) ?_
  refine lv_iconst (v := (-1)) hx hb dX0_betters_1 (by decide) ?_
  refine lv_icmp_eq (tgt := 18) hx hb dX0_betters_2 (by decide) (fun c1 => ?_) (fun c1 => ?_)
  · refine lv_iconst (v := 0) hx hb dX0_betters_18 (by decide) ?_
    exact W.zret (v := zi false) hx hb hr (zi_n _) (fun t ht hW => ⟨_, rfl, by simp [be, c1], ht⟩) (fun q h => by cases h) dX0_betters_19
  · refine lv_iconst (v := 1) hx hb dX0_betters_5 (by decide) ?_
    refine lv_iload_n hx hb dX0_betters_6 rfl (lv_at hl 1 rfl) ?_
    refine lv_iload_n hx hb dX0_betters_7 rfl (lv_at hl 0 rfl) ?_
    refine rc_S (v := (zi (h_all (-1) 1 z v))) ⟨hx, hb, hml, hown, hts⟩ [.int 1, .int z, .int v] [] (c_X0_holdsOfRates l 1 z v) (va_cwS 3 hts gX0_betters_X0_holdsOfRates rfl rfl rfl (by decide +kernel) ⟨Nat.le_of_ble_eq_true rfl, Nat.le_of_ble_eq_true rfl⟩) rfl hl.1 rfl (Nat.le_of_ble_eq_true rfl) ⟨Nat.zero_le _, Nat.zero_le _⟩ dX0_betters_8 ?_
    refine xz_ne (b := (h_all (-1) 1 z v)) (tgt := 18) hx hb dX0_betters_11 (by decide) (fun c2 => ?_) (fun c2 => ?_)
    · refine lv_iconst (v := 0) hx hb dX0_betters_18 (by decide) ?_
      exact W.zret (v := zi false) hx hb hr (zi_n _) (fun t ht hW => ⟨_, rfl, by simp [be, c1, c2], ht⟩) (fun q h => by cases h) dX0_betters_19
    · refine lv_iconst (v := 1) hx hb dX0_betters_14 (by decide) ?_
      refine lv_goto (tgt := 19) hx hb dX0_betters_15 (by decide) ?_
      exact W.zret (v := zi true) hx hb hr (zi_n _) (fun t ht hW => ⟨_, rfl, by simp [be, c1, c2], ht⟩) (fun q h => by cases h) dX0_betters_19
set_option maxHeartbeats 4000000 in
set_option maxRecDepth 100000 in
theorem c_X0_bothWays (l : Launch) (b : Bool) (q : Bool) : Met l yX0_bothWays wsX0_bothWays (rmD 0) (va_Pc [.int (zi b), .int (zi q)] (fun _ => True)) (vp_Si (fun r => r = (both b q))) 0 0 (fun _ => False) := by
  refine Met.ofW (cc := cX0_bothWays) (maxL := 2) (ret := some .int) (by decide) rfl ?_
  intro p e s m args below meth c s₁ B hml hv
  obtain ⟨rfl, -⟩ := hv
  have hx := B.exec
  have hb := B.bytes
  have hr := B.returns
  have hts := atoms_spec (ws := wsX0_bothWays) B.pre
  have hown : s.vm.findClass RX0 = some m.cls := findClass_of_methodNamed B.named
  have hlocks := B.notSynchronized
  have hl := lv_entry ([.int (zi b), .int (zi q)]) (n := 2) (Nat.le_of_ble_eq_true rfl)
  rw [lg_entry_eq]
  generalize (lg_sl ([.int (zi b), .int (zi q)]) ++ List.replicate (2 - (lg_sl ([.int (zi b), .int (zi q)])).length) Slot.unset).toArray = ls at hl ⊢
  have hl : lv_has ls 2 [(0, .int (zi b)), (1, .int (zi q))] := hl
  refine lv_iload_n hx hb dX0_bothWays_0 rfl (lv_at hl 0 rfl) ?_
  refine xz_eq (b := b) (tgt := 10) hx hb dX0_bothWays_1 (by decide) (fun c1 => ?_) (fun c1 => ?_)
  · refine lv_iload_n hx hb dX0_bothWays_10 rfl (lv_at hl 0 rfl) ?_
    refine xz_ne (b := b) (tgt := 18) hx hb dX0_bothWays_11 (by decide) (fun c2 => ?_) (fun c2 => ?_)
    · exact absurd (c1.symm.trans c2) (by decide)
    · refine lv_iload_n hx hb dX0_bothWays_14 rfl (lv_at hl 1 rfl) ?_
      refine xz_eq (b := q) (tgt := 22) hx hb dX0_bothWays_15 (by decide) (fun c3 => ?_) (fun c3 => ?_)
      · refine lv_iconst (v := 0) hx hb dX0_bothWays_22 (by decide) ?_
        exact W.iret (v := 0) hx hb hr (fun t ht hW => ⟨_, rfl, by cases b <;> cases q <;> first | contradiction | rfl, ht⟩) (fun q h => by cases h) dX0_bothWays_23
      · refine lv_iconst (v := 2) hx hb dX0_bothWays_18 (by decide) ?_
        refine lv_goto (tgt := 23) hx hb dX0_bothWays_19 (by decide) ?_
        exact W.iret (v := 2) hx hb hr (fun t ht hW => ⟨_, rfl, by cases b <;> cases q <;> first | contradiction | rfl, ht⟩) (fun q h => by cases h) dX0_bothWays_23
  · refine lv_iload_n hx hb dX0_bothWays_4 rfl (lv_at hl 1 rfl) ?_
    refine xz_eq (b := q) (tgt := 10) hx hb dX0_bothWays_5 (by decide) (fun c4 => ?_) (fun c4 => ?_)
    · refine lv_iload_n hx hb dX0_bothWays_10 rfl (lv_at hl 0 rfl) ?_
      refine xz_ne (b := b) (tgt := 18) hx hb dX0_bothWays_11 (by decide) (fun c5 => ?_) (fun c5 => ?_)
      · refine lv_iconst (v := 2) hx hb dX0_bothWays_18 (by decide) ?_
        refine lv_goto (tgt := 23) hx hb dX0_bothWays_19 (by decide) ?_
        exact W.iret (v := 2) hx hb hr (fun t ht hW => ⟨_, rfl, by cases b <;> cases q <;> first | contradiction | rfl, ht⟩) (fun q h => by cases h) dX0_bothWays_23
      · exact absurd (c1.symm.trans c5) (by decide)
    · refine lv_iconst (v := 1) hx hb dX0_bothWays_8 (by decide) ?_
      exact W.iret (v := 1) hx hb hr (fun t ht hW => ⟨_, rfl, by cases b <;> cases q <;> first | contradiction | rfl, ht⟩) (fun q h => by cases h) dX0_bothWays_9
end
section
set_option maxHeartbeats 4000000 in
set_option maxRecDepth 100000 in
theorem c_X0_isClock (l : Launch) (D : va_G) (A : Nat → Nat) (K : Nat → ClassId) (S : XS) (hI : x_inv S) (v : Int32) : Met l yX0_isClock wsX0_isClock (rmD 0) (va_Pc [.ref (A 0), .int v] (i_w D vwCl (wX A K S) (tX K))) (vp_Si (fun r => r = (zi (isClk S v)))) 0 0 (fun _ => False) := by
  refine Met.ofW (cc := cX0_isClock) (maxL := 2) (ret := some .boolean) (by decide) rfl ?_
  intro p e s m args below meth c s₁ B hml hv
  obtain ⟨rfl, hP, hK⟩ := hv
  have hx := B.exec
  have hb := B.bytes
  have hr := B.returns
  have hts := atoms_spec (ws := wsX0_isClock) B.pre
  have hown : s.vm.findClass RX0 = some m.cls := findClass_of_methodNamed B.named
  have hlocks := B.notSynchronized
  have hn8 := hI.1
  have hin : ∀ w ∈ u_ws RX0 TX0 9, w ∈ wsX0_isClock := fun w h => List.mem_cons_of_mem _ (List.mem_append_right _ h)
  have f_26 := hts (.fieldLink RX0 26 "ChronoTrials" "clocks" "I") (by decide +kernel)
  have hl := lv_entry ([.ref (A 0), .int v]) (n := 2) (Nat.le_of_ble_eq_true rfl)
  rw [lg_entry_eq]
  generalize (lg_sl ([.ref (A 0), .int v]) ++ List.replicate (2 - (lg_sl ([.ref (A 0), .int v])).length) Slot.unset).toArray = ls at hl ⊢
  have hl : lv_has ls 2 [(0, .ref (A 0)), (1, .int v)] := hl
  refine lv_iload_n hx hb dX0_isClock_0 rfl (lv_at hl 1 rfl) ?_
  refine lv_if_lt (tgt := 16) hx hb dX0_isClock_1 (by decide) (fun c1 => ?_) (fun c1 => ?_)
  · refine lv_iconst (v := 0) hx hb dX0_isClock_16 (by decide) ?_
    exact W.zret (v := zi false) hx hb hr (zi_n _) (fun t ht hW => ⟨_, rfl, by simp [isClk, c1], ht⟩) (fun q h => by cases h) dX0_isClock_17
  · refine lv_iload_n hx hb dX0_isClock_4 rfl (lv_at hl 1 rfl) ?_
    refine lv_aload_n hx hb dX0_isClock_5 rfl (lv_at hl 0 rfl) ?_
    refine va_get (D := D) (ci := 0) (v := .int (nI (s_n S))) (C := RX0) (T := TX0) (N := 9) hx hb hts hin hown hK hP 0 rfl rfl 5 (by decide) f_26 (fun _ h9 => h9) rfl dX0_isClock_6 ?_
    refine lv_icmp_ge (tgt := 16) hx hb dX0_isClock_9 (by decide) (fun c2 => ?_) (fun c2 => ?_)
    · refine lv_iconst (v := 0) hx hb dX0_isClock_16 (by decide) ?_
      exact W.zret (v := zi false) hx hb hr (zi_n _) (fun t ht hW => ⟨_, rfl, by simp [isClk, c1, c2], ht⟩) (fun q h => by cases h) dX0_isClock_17
    · refine lv_iconst (v := 1) hx hb dX0_isClock_12 (by decide) ?_
      refine lv_goto (tgt := 17) hx hb dX0_isClock_13 (by decide) ?_
      exact W.zret (v := zi true) hx hb hr (zi_n _) (fun t ht hW => ⟨_, rfl, by simp [isClk, c1, c2], ht⟩) (fun q h => by cases h) dX0_isClock_17
set_option maxHeartbeats 4000000 in
set_option maxRecDepth 100000 in
theorem c_X0_isCold (l : Launch) (D : va_G) (A : Nat → Nat) (K : Nat → ClassId) (S : XS) (hI : x_inv S) (v : Int32) : Met l yX0_isCold wsX0_isCold (rmD 2) (va_Pc [.ref (A 0), .int v] (i_w D vwCl (wX A K S) (tX K))) (vp_Si (fun r => r = (zi (cold S v)))) 0 0 (fun _ => False) := by
  refine Met.ofW (cc := cX0_isCold) (maxL := 2) (ret := some .boolean) (by decide) rfl ?_
  intro p e s m args below meth c s₁ B hml hv
  obtain ⟨rfl, hP, hK⟩ := hv
  have hx := B.exec
  have hb := B.bytes
  have hr := B.returns
  have hts := atoms_spec (ws := wsX0_isCold) B.pre
  have hown : s.vm.findClass RX0 = some m.cls := findClass_of_methodNamed B.named
  have hlocks := B.notSynchronized
  have hn8 := hI.1
  have hin : ∀ w ∈ u_ws RX0 TX0 9, w ∈ wsX0_isCold := fun w h => List.mem_cons_of_mem _ (List.mem_append_right _ h)
  have f_36 := hts (.fieldLink RX0 36 "ChronoTrials" "frostChill" "I") (by decide +kernel)
  have hl := lv_entry ([.ref (A 0), .int v]) (n := 2) (Nat.le_of_ble_eq_true rfl)
  rw [lg_entry_eq]
  generalize (lg_sl ([.ref (A 0), .int v]) ++ List.replicate (2 - (lg_sl ([.ref (A 0), .int v])).length) Slot.unset).toArray = ls at hl ⊢
  have hl : lv_has ls 2 [(0, .ref (A 0)), (1, .int v)] := hl
  refine lv_iconst (v := 1) hx hb dX0_isCold_0 (by decide) ?_
  refine lv_iload_n hx hb dX0_isCold_1 rfl (lv_at hl 1 rfl) ?_
  refine lv_aload_n hx hb dX0_isCold_2 rfl (lv_at hl 0 rfl) ?_
  refine va_get (D := D) (ci := 0) (v := .int (s_fr S)) (C := RX0) (T := TX0) (N := 9) hx hb hts hin hown hK hP 0 rfl rfl 8 (by decide) f_36 (fun _ h9 => h9) rfl dX0_isCold_3 ?_
  refine rc_S (v := (zi (h_all 100 1 v (s_fr S)))) ⟨hx, hb, hml, hown, hts⟩ [.int 1, .int v, .int (s_fr S)] [] (c_X0_holdsOfChills l 1 v (s_fr S)) (va_cwS 3 hts gX0_isCold_X0_holdsOfChills rfl rfl rfl (by decide +kernel) ⟨Nat.le_of_ble_eq_true rfl, Nat.le_of_ble_eq_true rfl⟩) rfl hl.1 rfl (Nat.le_of_ble_eq_true rfl) ⟨Nat.zero_le _, Nat.zero_le _⟩ dX0_isCold_6 ?_
  exact W.zret (v := zi (h_all 100 1 v (s_fr S))) hx hb hr (zi_n _) (fun t ht hW => ⟨_, rfl, rfl, ht⟩) (fun q h => by cases h) dX0_isCold_9
set_option maxHeartbeats 4000000 in
set_option maxRecDepth 100000 in
theorem c_X0_latestChill (l : Launch) (D : va_G) (A : Nat → Nat) (K : Nat → ClassId) (S : XS) (hI : x_inv S) (a : Nat) (ha : a < 8) : Met l yX0_latestChill wsX0_latestChill (rmD 1) (va_Pc [.ref (A 0), .int (nI a)] (i_w D vwCl (wX A K S) (tX K))) (vp_Si (fun r => r = (lc S a))) 0 0 (fun _ => False) := by
  refine Met.ofW (cc := cX0_latestChill) (maxL := 2) (ret := some .int) (by decide) rfl ?_
  intro p e s m args below meth c s₁ B hml hv
  obtain ⟨rfl, hP, hK⟩ := hv
  have hx := B.exec
  have hb := B.bytes
  have hr := B.returns
  have hts := atoms_spec (ws := wsX0_latestChill) B.pre
  have hown : s.vm.findClass RX0 = some m.cls := findClass_of_methodNamed B.named
  have hlocks := B.notSynchronized
  have hn8 := hI.1
  have hin : ∀ w ∈ u_ws RX0 TX0 9, w ∈ wsX0_latestChill := fun w h => List.mem_cons_of_mem _ (List.mem_append_right _ h)
  have f_13 := hts (.fieldLink RX0 13 "ChronoTrials" "chills" "[I") (by decide +kernel)
  have f_16 := hts (.fieldLink RX0 16 "ChronoTrials" "trialsOf" "[I") (by decide +kernel)
  have ht6 := hI.2 a
  have hl := lv_entry ([.ref (A 0), .int (nI a)]) (n := 2) (Nat.le_of_ble_eq_true rfl)
  rw [lg_entry_eq]
  generalize (lg_sl ([.ref (A 0), .int (nI a)]) ++ List.replicate (2 - (lg_sl ([.ref (A 0), .int (nI a)])).length) Slot.unset).toArray = ls at hl ⊢
  have hl : lv_has ls 2 [(0, .ref (A 0)), (1, .int (nI a))] := hl
  refine lv_aload_n hx hb dX0_latestChill_0 rfl (lv_at hl 0 rfl) ?_
  refine va_get (D := D) (ci := 0) (v := .ref (A 3)) (C := RX0) (T := TX0) (N := 9) hx hb hts hin hown hK hP 0 rfl rfl 2 (by decide) f_16 (fun _ h9 => h9) rfl dX0_latestChill_1 ?_
  refine lv_iload_n hx hb dX0_latestChill_4 rfl (lv_at hl 1 rfl) ?_
  refine xa_ld (i := a) (v := (nI ((s_tr S) a))) hx hb hK hP 3 2 rfl rfl (by omega) (by decide) (rfl) dX0_latestChill_5 ?_
  refine xn_ifgt (i := ((s_tr S) a)) (tgt := 12) hx hb (by omega) dX0_latestChill_6 (by decide) (fun c1 => ?_) (fun c1 => ?_)
  · refine lv_aload_n hx hb dX0_latestChill_12 rfl (lv_at hl 0 rfl) ?_
    refine va_get (D := D) (ci := 0) (v := .ref (A 2)) (C := RX0) (T := TX0) (N := 9) hx hb hts hin hown hK hP 0 rfl rfl 1 (by decide) f_13 (fun _ h9 => h9) rfl dX0_latestChill_13 ?_
    refine lv_iload_n hx hb dX0_latestChill_16 rfl (lv_at hl 1 rfl) ?_
    refine lv_aload_n hx hb dX0_latestChill_17 rfl (lv_at hl 0 rfl) ?_
    refine va_get (D := D) (ci := 0) (v := .ref (A 3)) (C := RX0) (T := TX0) (N := 9) hx hb hts hin hown hK hP 0 rfl rfl 2 (by decide) f_16 (fun _ h9 => h9) rfl dX0_latestChill_18 ?_
    refine lv_iload_n hx hb dX0_latestChill_21 rfl (lv_at hl 1 rfl) ?_
    refine xa_ld (i := a) (v := (nI ((s_tr S) a))) hx hb hK hP 3 2 rfl rfl (by omega) (by decide) (rfl) dX0_latestChill_22 ?_
    refine lv_iconst (v := 1) hx hb dX0_latestChill_23 (by decide) ?_
    refine xn_sub (i := ((s_tr S) a)) (j := 1) hx hb (by omega) dX0_latestChill_24 ?_
    refine rc_S (v := (nI (a * 6 + (((s_tr S) a) - 1)))) ⟨hx, hb, hml, hown, hts⟩ [.int (nI a), .int (nI (((s_tr S) a) - 1))] [.ref (A 2)] (c_X0_slot l a (((s_tr S) a) - 1)) (va_cwS 2 hts gX0_latestChill_X0_slot rfl rfl rfl (by decide +kernel) ⟨Nat.le_of_ble_eq_true rfl, Nat.le_of_ble_eq_true rfl⟩) rfl hl.1 rfl (Nat.le_of_ble_eq_true rfl) ⟨Nat.zero_le _, Nat.zero_le _⟩ dX0_latestChill_25 ?_
    refine xa_ld (i := (a * 6 + (((s_tr S) a) - 1))) (v := ((s_ch S) (a * 6 + (((s_tr S) a) - 1)))) hx hb hK hP 2 1 rfl rfl (by omega) (by decide) (rfl) dX0_latestChill_28 ?_
    exact W.iret (v := ((s_ch S) (a * 6 + (((s_tr S) a) - 1)))) hx hb hr (fun t ht hW => ⟨_, rfl, by simp [lc, c1], ht⟩) (fun q h => by cases h) dX0_latestChill_29
  · refine lv_bipush (v := 100) hx hb dX0_latestChill_9 (by decide) ?_
    exact W.iret (v := 100) hx hb hr (fun t ht hW => ⟨_, rfl, by simp [lc, c1], ht⟩) (fun q h => by cases h) dX0_latestChill_11
set_option maxHeartbeats 4000000 in
set_option maxRecDepth 100000 in
theorem c_X0_holdsOfClocks (l : Launch) (D : va_G) (A : Nat → Nat) (K : Nat → ClassId) (S : XS) (hI : x_inv S) (w : Int32) (sg : Int32) (a : Nat) (b : Nat) (ha : a < 8) (hb8 : b < 8) : Met l yX0_holdsOfClocks wsX0_holdsOfClocks (rmD 2) (va_Pc [.ref (A 0), .int w, .int sg, .int (nI a), .int (nI b)] (i_w D vwCl (wX A K S) (tX K))) (vp_Si (fun r => r = (zi (hc S w sg a b)))) 0 0 (fun _ => False) := by
  refine Met.ofW (cc := cX0_holdsOfClocks) (maxL := 5) (ret := some .boolean) (by decide) rfl ?_
  intro p e s m args below meth c s₁ B hml hv
  obtain ⟨rfl, hP, hK⟩ := hv
  have hx := B.exec
  have hb := B.bytes
  have hr := B.returns
  have hts := atoms_spec (ws := wsX0_holdsOfClocks) B.pre
  have hown : s.vm.findClass RX0 = some m.cls := findClass_of_methodNamed B.named
  have hlocks := B.notSynchronized
  have hn8 := hI.1
  have hin : ∀ w ∈ u_ws RX0 TX0 9, w ∈ wsX0_holdsOfClocks := fun w h => List.mem_cons_of_mem _ (List.mem_append_right _ h)
  have f_19 := hts (.fieldLink RX0 19 "ChronoTrials" "bests" "[I") (by decide +kernel)
  have hl := lv_entry ([.ref (A 0), .int w, .int sg, .int (nI a), .int (nI b)]) (n := 5) (Nat.le_of_ble_eq_true rfl)
  rw [lg_entry_eq]
  generalize (lg_sl ([.ref (A 0), .int w, .int sg, .int (nI a), .int (nI b)]) ++ List.replicate (5 - (lg_sl ([.ref (A 0), .int w, .int sg, .int (nI a), .int (nI b)])).length) Slot.unset).toArray = ls at hl ⊢
  have hl : lv_has ls 5 [(0, .ref (A 0)), (1, .int w), (2, .int sg), (3, .int (nI a)), (4, .int (nI b))] := hl
  refine lv_iload_n hx hb dX0_holdsOfClocks_0 rfl (lv_at hl 1 rfl) ?_
  refine lv_if_ne (tgt := 22) hx hb dX0_holdsOfClocks_1 (by decide) (fun c1 => ?_) (fun c1 => ?_)
  · refine lv_iload_n hx hb dX0_holdsOfClocks_22 rfl (lv_at hl 2 rfl) ?_
    refine lv_aload_n hx hb dX0_holdsOfClocks_23 rfl (lv_at hl 0 rfl) ?_
    refine lv_iload_n hx hb dX0_holdsOfClocks_24 rfl (lv_at hl 3 rfl) ?_
    refine rc_V (v := (lc S a)) ⟨hx, hb, hml, hown, hts⟩ [.int (nI a)] [.int sg] (c_X0_latestChill l D A K S hI a (by omega)) (cwV 1 hts gX0_holdsOfClocks_X0_latestChill rfl rfl rfl (by decide +kernel) ⟨Nat.le_of_ble_eq_true rfl, Nat.le_of_ble_eq_true rfl⟩) hK hP (va_recv hK hP (ci := 0) (q0 := 0) rfl rfl) rfl hl.1 rfl (Nat.le_of_ble_eq_true rfl) ⟨Nat.zero_le _, Nat.zero_le _⟩ dX0_holdsOfClocks_25 ?_
    refine lv_aload_n hx hb dX0_holdsOfClocks_28 rfl (lv_at hl 0 rfl) ?_
    refine lv_iload hx hb dX0_holdsOfClocks_29 (lv_at hl 4 rfl) ?_
    refine rc_V (v := (lc S b)) ⟨hx, hb, hml, hown, hts⟩ [.int (nI b)] [.int (lc S a), .int sg] (c_X0_latestChill l D A K S hI b (by omega)) (cwV 1 hts gX0_holdsOfClocks_X0_latestChill rfl rfl rfl (by decide +kernel) ⟨Nat.le_of_ble_eq_true rfl, Nat.le_of_ble_eq_true rfl⟩) hK hP (va_recv hK hP (ci := 0) (q0 := 0) rfl rfl) rfl hl.1 rfl (Nat.le_of_ble_eq_true rfl) ⟨Nat.zero_le _, Nat.zero_le _⟩ dX0_holdsOfClocks_31 ?_
    refine rc_S (v := (zi (h_all 100 sg (lc S a) (lc S b)))) ⟨hx, hb, hml, hown, hts⟩ [.int sg, .int (lc S a), .int (lc S b)] [] (c_X0_holdsOfChills l sg (lc S a) (lc S b)) (va_cwS 3 hts gX0_holdsOfClocks_X0_holdsOfChills rfl rfl rfl (by decide +kernel) ⟨Nat.le_of_ble_eq_true rfl, Nat.le_of_ble_eq_true rfl⟩) rfl hl.1 rfl (Nat.le_of_ble_eq_true rfl) ⟨Nat.zero_le _, Nat.zero_le _⟩ dX0_holdsOfClocks_34 ?_
    exact W.zret (v := zi (h_all 100 sg (lc S a) (lc S b))) hx hb hr (zi_n _) (fun t ht hW => ⟨_, rfl, by simp [hc, c1], ht⟩) (fun q h => by cases h) dX0_holdsOfClocks_37
  · refine lv_iload_n hx hb dX0_holdsOfClocks_4 rfl (lv_at hl 2 rfl) ?_
    refine lv_aload_n hx hb dX0_holdsOfClocks_5 rfl (lv_at hl 0 rfl) ?_
    refine va_get (D := D) (ci := 0) (v := .ref (A 4)) (C := RX0) (T := TX0) (N := 9) hx hb hts hin hown hK hP 0 rfl rfl 3 (by decide) f_19 (fun _ h9 => h9) rfl dX0_holdsOfClocks_6 ?_
    refine lv_iload_n hx hb dX0_holdsOfClocks_9 rfl (lv_at hl 3 rfl) ?_
    refine xa_ld (i := a) (v := ((s_bs S) a)) hx hb hK hP 4 3 rfl rfl (by omega) (by decide) (rfl) dX0_holdsOfClocks_10 ?_
    refine lv_aload_n hx hb dX0_holdsOfClocks_11 rfl (lv_at hl 0 rfl) ?_
    refine va_get (D := D) (ci := 0) (v := .ref (A 4)) (C := RX0) (T := TX0) (N := 9) hx hb hts hin hown hK hP 0 rfl rfl 3 (by decide) f_19 (fun _ h9 => h9) rfl dX0_holdsOfClocks_12 ?_
    refine lv_iload hx hb dX0_holdsOfClocks_15 (lv_at hl 4 rfl) ?_
    refine xa_ld (i := b) (v := ((s_bs S) b)) hx hb hK hP 4 3 rfl rfl (by omega) (by decide) (rfl) dX0_holdsOfClocks_17 ?_
    refine rc_S (v := (zi (h_all (-1) sg ((s_bs S) a) ((s_bs S) b)))) ⟨hx, hb, hml, hown, hts⟩ [.int sg, .int ((s_bs S) a), .int ((s_bs S) b)] [] (c_X0_holdsOfRates l sg ((s_bs S) a) ((s_bs S) b)) (va_cwS 3 hts gX0_holdsOfClocks_X0_holdsOfRates rfl rfl rfl (by decide +kernel) ⟨Nat.le_of_ble_eq_true rfl, Nat.le_of_ble_eq_true rfl⟩) rfl hl.1 rfl (Nat.le_of_ble_eq_true rfl) ⟨Nat.zero_le _, Nat.zero_le _⟩ dX0_holdsOfClocks_18 ?_
    exact W.zret (v := zi (h_all (-1) sg ((s_bs S) a) ((s_bs S) b))) hx hb hr (zi_n _) (fun t ht hW => ⟨_, rfl, by simp [hc, c1], ht⟩) (fun q h => by cases h) dX0_holdsOfClocks_21
set_option maxHeartbeats 4000000 in
set_option maxRecDepth 100000 in
theorem c_X0_goesAhead (l : Launch) (D : va_G) (A : Nat → Nat) (K : Nat → ClassId) (S : XS) (hI : x_inv S) (a : Nat) (b : Nat) (ha : a < 8) (hb8 : b < 8) : Met l yX0_goesAhead wsX0_goesAhead (rmD 3) (va_Pc [.ref (A 0), .int (nI a), .int (nI b)] (i_w D vwCl (wX A K S) (tX K))) (vp_Si (fun r => r = (zi (ga S a b)))) 0 0 (fun _ => False) := by
  refine Met.ofW (cc := cX0_goesAhead) (maxL := 3) (ret := some .boolean) (by decide) rfl ?_
  intro p e s m args below meth c s₁ B hml hv
  obtain ⟨rfl, hP, hK⟩ := hv
  have hx := B.exec
  have hb := B.bytes
  have hr := B.returns
  have hts := atoms_spec (ws := wsX0_goesAhead) B.pre
  have hown : s.vm.findClass RX0 = some m.cls := findClass_of_methodNamed B.named
  have hlocks := B.notSynchronized
  have hn8 := hI.1
  have hin : ∀ w ∈ u_ws RX0 TX0 9, w ∈ wsX0_goesAhead := fun w h => List.mem_cons_of_mem _ (List.mem_append_right _ h)
  have f_19 := hts (.fieldLink RX0 19 "ChronoTrials" "bests" "[I") (by decide +kernel)
  have hl := lv_entry ([.ref (A 0), .int (nI a), .int (nI b)]) (n := 3) (Nat.le_of_ble_eq_true rfl)
  rw [lg_entry_eq]
  generalize (lg_sl ([.ref (A 0), .int (nI a), .int (nI b)]) ++ List.replicate (3 - (lg_sl ([.ref (A 0), .int (nI a), .int (nI b)])).length) Slot.unset).toArray = ls at hl ⊢
  have hl : lv_has ls 3 [(0, .ref (A 0)), (1, .int (nI a)), (2, .int (nI b))] := hl
  refine lv_aload_n hx hb dX0_goesAhead_0 rfl (lv_at hl 0 rfl) ?_
  refine va_get (D := D) (ci := 0) (v := .ref (A 4)) (C := RX0) (T := TX0) (N := 9) hx hb hts hin hown hK hP 0 rfl rfl 3 (by decide) f_19 (fun _ h9 => h9) rfl dX0_goesAhead_1 ?_
  refine lv_iload_n hx hb dX0_goesAhead_4 rfl (lv_at hl 1 rfl) ?_
  refine xa_ld (i := a) (v := ((s_bs S) a)) hx hb hK hP 4 3 rfl rfl (by omega) (by decide) (rfl) dX0_goesAhead_5 ?_
  refine lv_aload_n hx hb dX0_goesAhead_6 rfl (lv_at hl 0 rfl) ?_
  refine va_get (D := D) (ci := 0) (v := .ref (A 4)) (C := RX0) (T := TX0) (N := 9) hx hb hts hin hown hK hP 0 rfl rfl 3 (by decide) f_19 (fun _ h9 => h9) rfl dX0_goesAhead_7 ?_
  refine lv_iload_n hx hb dX0_goesAhead_10 rfl (lv_at hl 2 rfl) ?_
  refine xa_ld (i := b) (v := ((s_bs S) b)) hx hb hK hP 4 3 rfl rfl (by omega) (by decide) (rfl) dX0_goesAhead_11 ?_
  refine lv_icmp_ne (tgt := 26) hx hb dX0_goesAhead_12 (by decide) (fun c1 => ?_) (fun c1 => ?_)
  · refine lv_aload_n hx hb dX0_goesAhead_26 rfl (lv_at hl 0 rfl) ?_
    refine va_get (D := D) (ci := 0) (v := .ref (A 4)) (C := RX0) (T := TX0) (N := 9) hx hb hts hin hown hK hP 0 rfl rfl 3 (by decide) f_19 (fun _ h9 => h9) rfl dX0_goesAhead_27 ?_
    refine lv_iload_n hx hb dX0_goesAhead_30 rfl (lv_at hl 1 rfl) ?_
    refine xa_ld (i := a) (v := ((s_bs S) a)) hx hb hK hP 4 3 rfl rfl (by omega) (by decide) (rfl) dX0_goesAhead_31 ?_
    refine lv_aload_n hx hb dX0_goesAhead_32 rfl (lv_at hl 0 rfl) ?_
    refine va_get (D := D) (ci := 0) (v := .ref (A 4)) (C := RX0) (T := TX0) (N := 9) hx hb hts hin hown hK hP 0 rfl rfl 3 (by decide) f_19 (fun _ h9 => h9) rfl dX0_goesAhead_33 ?_
    refine lv_iload_n hx hb dX0_goesAhead_36 rfl (lv_at hl 2 rfl) ?_
    refine xa_ld (i := b) (v := ((s_bs S) b)) hx hb hK hP 4 3 rfl rfl (by omega) (by decide) (rfl) dX0_goesAhead_37 ?_
    refine rc_S (v := (zi (be ((s_bs S) a) ((s_bs S) b)))) ⟨hx, hb, hml, hown, hts⟩ [.int ((s_bs S) a), .int ((s_bs S) b)] [] (c_X0_betters l ((s_bs S) a) ((s_bs S) b)) (va_cwS 2 hts gX0_goesAhead_X0_betters rfl rfl rfl (by decide +kernel) ⟨Nat.le_of_ble_eq_true rfl, Nat.le_of_ble_eq_true rfl⟩) rfl hl.1 rfl (Nat.le_of_ble_eq_true rfl) ⟨Nat.zero_le _, Nat.zero_le _⟩ dX0_goesAhead_38 ?_
    exact W.zret (v := zi (be ((s_bs S) a) ((s_bs S) b))) hx hb hr (zi_n _) (fun t ht hW => ⟨_, rfl, by simp [ga, c1], ht⟩) (fun q h => by cases h) dX0_goesAhead_41
  · refine lv_iload_n hx hb dX0_goesAhead_15 rfl (lv_at hl 1 rfl) ?_
    refine lv_iload_n hx hb dX0_goesAhead_16 rfl (lv_at hl 2 rfl) ?_
    refine xn_ge (i := a) (j := b) (tgt := 24) hx hb (by omega) (by omega) dX0_goesAhead_17 (by decide) (fun c2 => ?_) (fun c2 => ?_)
    · refine lv_iconst (v := 0) hx hb dX0_goesAhead_24 (by decide) ?_
      exact W.zret (v := zi false) hx hb hr (zi_n _) (fun t ht hW => ⟨_, rfl, by simp [ga, c1, c2], ht⟩) (fun q h => by cases h) dX0_goesAhead_25
    · refine lv_iconst (v := 1) hx hb dX0_goesAhead_20 (by decide) ?_
      refine lv_goto (tgt := 25) hx hb dX0_goesAhead_21 (by decide) ?_
      exact W.zret (v := zi true) hx hb hr (zi_n _) (fun t ht hW => ⟨_, rfl, by simp [ga, c1, c2], ht⟩) (fun q h => by cases h) dX0_goesAhead_25
set_option maxHeartbeats 4000000 in
set_option maxRecDepth 100000 in
theorem c_X0_marksOf (l : Launch) (D : va_G) (A : Nat → Nat) (K : Nat → ClassId) (S : XS) (hI : x_inv S) (a : Nat) (v : Int32) (z : Int32) (ha : a < 8) : Met l yX0_marksOf wsX0_marksOf (rmD 3) (va_Pc [.ref (A 0), .int (nI a), .int v, .int z] (i_w D vwCl (wX A K S) (tX K))) (vp_Si (fun r => r = (nI (x_marks S a v z)))) 0 0 (fun _ => False) := by
  refine Met.ofW (cc := cX0_marksOf) (maxL := 5) (ret := some .int) (by decide) rfl ?_
  intro p e s m args below meth c s₁ B hml hv
  obtain ⟨rfl, hP, hK⟩ := hv
  have hx := B.exec
  have hb := B.bytes
  have hr := B.returns
  have hts := atoms_spec (ws := wsX0_marksOf) B.pre
  have hown : s.vm.findClass RX0 = some m.cls := findClass_of_methodNamed B.named
  have hlocks := B.notSynchronized
  have hn8 := hI.1
  have hin : ∀ w ∈ u_ws RX0 TX0 9, w ∈ wsX0_marksOf := fun w h => List.mem_cons_of_mem _ (List.mem_append_right _ h)
  have f_19 := hts (.fieldLink RX0 19 "ChronoTrials" "bests" "[I") (by decide +kernel)
  have f_30 := hts (.fieldLink RX0 30 "ChronoTrials" "prizeRate" "I") (by decide +kernel)
  have f_33 := hts (.fieldLink RX0 33 "ChronoTrials" "recordRate" "I") (by decide +kernel)
  have hl := lv_entry ([.ref (A 0), .int (nI a), .int v, .int z]) (n := 5) (Nat.le_of_ble_eq_true rfl)
  rw [lg_entry_eq]
  generalize (lg_sl ([.ref (A 0), .int (nI a), .int v, .int z]) ++ List.replicate (5 - (lg_sl ([.ref (A 0), .int (nI a), .int v, .int z])).length) Slot.unset).toArray = ls at hl ⊢
  have hl : lv_has ls 5 [(0, .ref (A 0)), (1, .int (nI a)), (2, .int v), (3, .int z)] := hl
  refine lv_iconst (v := 0) hx hb dX0_marksOf_0 (by decide) ?_
  refine lv_istore (lv' := [(4, .int 0), (0, .ref (A 0)), (1, .int (nI a)), (2, .int v), (3, .int z)]) hx hb dX0_marksOf_1 hl (by decide) rfl (fun ls hl => ?_)
  have K14 : ∀ (q1 : Nat), q1 = (b2 (cold S z) 1) → ∀ (ls : Array Slot), lv_has ls 5 [(4, .int (nI q1)), (0, .ref (A 0)), (1, .int (nI a)), (2, .int v), (3, .int z)] → W p l e (headSpec wsX0_marksOf (rmD 3)).room s m ([.ref (A 0), .int (nI a), .int v, .int z] : List Value).toArray below meth c s.heap [] 0 0 (MQ below (vp_Si (fun r => r = (nI (x_marks S a v z)))) ([.ref (A 0), .int (nI a), .int v, .int z] : List Value).toArray s 0 0 (fun _ => False)) (F0 m 14 ls []) := by
    intro q1 e_q1 ls hl
    have K29 : ∀ (q2 : Nat), q2 = (q1 + b2 (h_all (-1) 1 v (s_pz S)) 2) → ∀ (ls : Array Slot), lv_has ls 5 [(4, .int (nI q2)), (0, .ref (A 0)), (1, .int (nI a)), (2, .int v), (3, .int z)] → W p l e (headSpec wsX0_marksOf (rmD 3)).room s m ([.ref (A 0), .int (nI a), .int v, .int z] : List Value).toArray below meth c s.heap [] 0 0 (MQ below (vp_Si (fun r => r = (nI (x_marks S a v z)))) ([.ref (A 0), .int (nI a), .int v, .int z] : List Value).toArray s 0 0 (fun _ => False)) (F0 m 29 ls []) := by
      intro q2 e_q2 ls hl
      have K45 : ∀ (q3 : Nat), q3 = (q2 + b2 (be v (s_bs S a)) 4) → ∀ (ls : Array Slot), lv_has ls 5 [(4, .int (nI q3)), (0, .ref (A 0)), (1, .int (nI a)), (2, .int v), (3, .int z)] → W p l e (headSpec wsX0_marksOf (rmD 3)).room s m ([.ref (A 0), .int (nI a), .int v, .int z] : List Value).toArray below meth c s.heap [] 0 0 (MQ below (vp_Si (fun r => r = (nI (x_marks S a v z)))) ([.ref (A 0), .int (nI a), .int v, .int z] : List Value).toArray s 0 0 (fun _ => False)) (F0 m 45 ls []) := by
        intro q3 e_q3 ls hl
        refine lv_aload_n hx hb dX0_marksOf_45 rfl (lv_at hl 1 rfl) ?_
        refine lv_iload_n hx hb dX0_marksOf_46 rfl (lv_at hl 4 rfl) ?_
        refine rc_V (v := (zi (cold S z))) ⟨hx, hb, hml, hown, hts⟩ [.int z] [] (c_X0_isCold l D A K S hI z) (cwV 1 hts gX0_marksOf_X0_isCold rfl rfl rfl (by decide +kernel) ⟨Nat.le_of_ble_eq_true rfl, Nat.le_of_ble_eq_true rfl⟩) hK hP (va_recv hK hP (ci := 0) (q0 := 0) rfl rfl) rfl hl.1 rfl (Nat.le_of_ble_eq_true rfl) ⟨Nat.zero_le _, Nat.zero_le _⟩ dX0_marksOf_47 ?_
        refine xz_eq (b := (cold S z)) (tgt := 67) hx hb dX0_marksOf_50 (by decide) (fun c1 => ?_) (fun c1 => ?_)
        · refine lv_iload hx hb dX0_marksOf_67 (lv_at hl 0 rfl) ?_
          exact W.iret (v := (nI q3)) hx hb hr (fun t ht hW => ⟨_, rfl, by simp [x_marks, mk4, b2, e_q1, e_q2, e_q3, c1], ht⟩) (fun q h => by cases h) dX0_marksOf_69
        · refine lv_iload_n hx hb dX0_marksOf_53 rfl (lv_at hl 3 rfl) ?_
          refine lv_aload_n hx hb dX0_marksOf_54 rfl (lv_at hl 1 rfl) ?_
          refine va_get (D := D) (ci := 0) (v := .int (s_rc S)) (C := RX0) (T := TX0) (N := 9) hx hb hts hin hown hK hP 0 rfl rfl 7 (by decide) f_33 (fun _ h9 => h9) rfl dX0_marksOf_55 ?_
          refine rc_S (v := (zi (be v (s_rc S)))) ⟨hx, hb, hml, hown, hts⟩ [.int v, .int (s_rc S)] [] (c_X0_betters l v (s_rc S)) (va_cwS 2 hts gX0_marksOf_X0_betters rfl rfl rfl (by decide +kernel) ⟨Nat.le_of_ble_eq_true rfl, Nat.le_of_ble_eq_true rfl⟩) rfl hl.1 rfl (Nat.le_of_ble_eq_true rfl) ⟨Nat.zero_le _, Nat.zero_le _⟩ dX0_marksOf_58 ?_
          refine xz_eq (b := (be v (s_rc S))) (tgt := 67) hx hb dX0_marksOf_61 (by decide) (fun c2 => ?_) (fun c2 => ?_)
          · refine lv_iload hx hb dX0_marksOf_67 (lv_at hl 0 rfl) ?_
            exact W.iret (v := (nI q3)) hx hb hr (fun t ht hW => ⟨_, rfl, by simp [x_marks, mk4, b2, e_q1, e_q2, e_q3, c1, c2], ht⟩) (fun q h => by cases h) dX0_marksOf_69
          · refine lv_iinc (v := (nI (q3 + 8))) (lv' := [(4, .int (nI (q3 + 8))), (0, .ref (A 0)), (1, .int (nI a)), (2, .int v), (3, .int z)]) hx hb dX0_marksOf_64 hl (k := 0) rfl (nI_add q3 8) (by decide) rfl (fun ls hl => ?_)
            refine lv_iload hx hb dX0_marksOf_67 (lv_at hl 0 rfl) ?_
            exact W.iret (v := (nI (q3 + 8))) hx hb hr (fun t ht hW => ⟨_, rfl, by simp [x_marks, mk4, b2, e_q1, e_q2, e_q3, c1, c2], ht⟩) (fun q h => by cases h) dX0_marksOf_69
      refine lv_iload_n hx hb dX0_marksOf_29 rfl (lv_at hl 3 rfl) ?_
      refine lv_aload_n hx hb dX0_marksOf_30 rfl (lv_at hl 1 rfl) ?_
      refine va_get (D := D) (ci := 0) (v := .ref (A 4)) (C := RX0) (T := TX0) (N := 9) hx hb hts hin hown hK hP 0 rfl rfl 3 (by decide) f_19 (fun _ h9 => h9) rfl dX0_marksOf_31 ?_
      refine lv_iload_n hx hb dX0_marksOf_34 rfl (lv_at hl 2 rfl) ?_
      refine xa_ld (i := a) (v := ((s_bs S) a)) hx hb hK hP 4 3 rfl rfl (by omega) (by decide) (rfl) dX0_marksOf_35 ?_
      refine rc_S (v := (zi (be v ((s_bs S) a)))) ⟨hx, hb, hml, hown, hts⟩ [.int v, .int ((s_bs S) a)] [] (c_X0_betters l v ((s_bs S) a)) (va_cwS 2 hts gX0_marksOf_X0_betters rfl rfl rfl (by decide +kernel) ⟨Nat.le_of_ble_eq_true rfl, Nat.le_of_ble_eq_true rfl⟩) rfl hl.1 rfl (Nat.le_of_ble_eq_true rfl) ⟨Nat.zero_le _, Nat.zero_le _⟩ dX0_marksOf_36 ?_
      refine xz_eq (b := (be v ((s_bs S) a))) (tgt := 45) hx hb dX0_marksOf_39 (by decide) (fun c3 => ?_) (fun c3 => ?_)
      · exact K45 q2 (by simp [b2, e_q1, e_q2, c3]) ls (lv_sub hl [0, 1, 2, 3, 4] rfl)
      · refine lv_iinc (v := (nI (q2 + 4))) (lv' := [(4, .int (nI (q2 + 4))), (0, .ref (A 0)), (1, .int (nI a)), (2, .int v), (3, .int z)]) hx hb dX0_marksOf_42 hl (k := 0) rfl (nI_add q2 4) (by decide) rfl (fun ls hl => ?_)
        exact K45 (q2 + 4) (by simp [b2, e_q1, e_q2, c3]) ls (lv_sub hl [0, 1, 2, 3, 4] rfl)
    refine lv_iconst (v := 1) hx hb dX0_marksOf_14 (by decide) ?_
    refine lv_iload_n hx hb dX0_marksOf_15 rfl (lv_at hl 3 rfl) ?_
    refine lv_aload_n hx hb dX0_marksOf_16 rfl (lv_at hl 1 rfl) ?_
    refine va_get (D := D) (ci := 0) (v := .int (s_pz S)) (C := RX0) (T := TX0) (N := 9) hx hb hts hin hown hK hP 0 rfl rfl 6 (by decide) f_30 (fun _ h9 => h9) rfl dX0_marksOf_17 ?_
    refine rc_S (v := (zi (h_all (-1) 1 v (s_pz S)))) ⟨hx, hb, hml, hown, hts⟩ [.int 1, .int v, .int (s_pz S)] [] (c_X0_holdsOfRates l 1 v (s_pz S)) (va_cwS 3 hts gX0_marksOf_X0_holdsOfRates rfl rfl rfl (by decide +kernel) ⟨Nat.le_of_ble_eq_true rfl, Nat.le_of_ble_eq_true rfl⟩) rfl hl.1 rfl (Nat.le_of_ble_eq_true rfl) ⟨Nat.zero_le _, Nat.zero_le _⟩ dX0_marksOf_20 ?_
    refine xz_eq (b := (h_all (-1) 1 v (s_pz S))) (tgt := 29) hx hb dX0_marksOf_23 (by decide) (fun c4 => ?_) (fun c4 => ?_)
    · exact K29 q1 (by simp [b2, e_q1, c4]) ls (lv_sub hl [0, 1, 2, 3, 4] rfl)
    · refine lv_iinc (v := (nI (q1 + 2))) (lv' := [(4, .int (nI (q1 + 2))), (0, .ref (A 0)), (1, .int (nI a)), (2, .int v), (3, .int z)]) hx hb dX0_marksOf_26 hl (k := 0) rfl (nI_add q1 2) (by decide) rfl (fun ls hl => ?_)
      exact K29 (q1 + 2) (by simp [b2, e_q1, c4]) ls (lv_sub hl [0, 1, 2, 3, 4] rfl)
  refine lv_aload_n hx hb dX0_marksOf_3 rfl (lv_at hl 1 rfl) ?_
  refine lv_iload_n hx hb dX0_marksOf_4 rfl (lv_at hl 4 rfl) ?_
  refine rc_V (v := (zi (cold S z))) ⟨hx, hb, hml, hown, hts⟩ [.int z] [] (c_X0_isCold l D A K S hI z) (cwV 1 hts gX0_marksOf_X0_isCold rfl rfl rfl (by decide +kernel) ⟨Nat.le_of_ble_eq_true rfl, Nat.le_of_ble_eq_true rfl⟩) hK hP (va_recv hK hP (ci := 0) (q0 := 0) rfl rfl) rfl hl.1 rfl (Nat.le_of_ble_eq_true rfl) ⟨Nat.zero_le _, Nat.zero_le _⟩ dX0_marksOf_5 ?_
  refine xz_eq (b := (cold S z)) (tgt := 14) hx hb dX0_marksOf_8 (by decide) (fun c5 => ?_) (fun c5 => ?_)
  · exact K14 0 (by simp [b2, c5]) ls (lv_sub hl [0, 1, 2, 3, 4] rfl)
  · refine lv_iinc (v := 1) (lv' := [(4, .int 1), (0, .ref (A 0)), (1, .int (nI a)), (2, .int v), (3, .int z)]) hx hb dX0_marksOf_11 hl (k := 0) rfl (by decide) (by decide) rfl (fun ls hl => ?_)
    exact K14 1 (by simp [b2, c5]) ls (lv_sub hl [0, 1, 2, 3, 4] rfl)
end
section
set_option maxHeartbeats 4000000 in
set_option maxRecDepth 100000 in
theorem c_X0_leastRate (l : Launch) (D : va_G) (A : Nat → Nat) (K : Nat → ClassId) (S : XS) (hI : x_inv S) (a : Nat) (ha : a < 8) : Met l yX0_leastRate wsX0_leastRate (rmD 3) (va_Pc [.ref (A 0), .int (nI a)] (i_w D vwCl (wX A K S) (tX K))) (vp_Si (fun r => r = (x_least S a))) 0 0 (fun _ => False) := by
  refine Met.ofW (cc := cX0_leastRate) (maxL := 5) (ret := some .int) (by decide) rfl ?_
  intro p e s m args below meth c s₁ B hml hv
  obtain ⟨rfl, hP, hK⟩ := hv
  have hx := B.exec
  have hb := B.bytes
  have hr := B.returns
  have hts := atoms_spec (ws := wsX0_leastRate) B.pre
  have hown : s.vm.findClass RX0 = some m.cls := findClass_of_methodNamed B.named
  have hlocks := B.notSynchronized
  have hn8 := hI.1
  have hin : ∀ w ∈ u_ws RX0 TX0 9, w ∈ wsX0_leastRate := fun w h => List.mem_cons_of_mem _ (List.mem_append_right _ h)
  have f_9 := hts (.fieldLink RX0 9 "ChronoTrials" "rates" "[I") (by decide +kernel)
  have f_16 := hts (.fieldLink RX0 16 "ChronoTrials" "trialsOf" "[I") (by decide +kernel)
  have ht6 := hI.2 a
  have hl := lv_entry ([.ref (A 0), .int (nI a)]) (n := 5) (Nat.le_of_ble_eq_true rfl)
  rw [lg_entry_eq]
  generalize (lg_sl ([.ref (A 0), .int (nI a)]) ++ List.replicate (5 - (lg_sl ([.ref (A 0), .int (nI a)])).length) Slot.unset).toArray = ls at hl ⊢
  have hl : lv_has ls 5 [(0, .ref (A 0)), (1, .int (nI a))] := hl
  refine lv_iconst (v := (-1)) hx hb dX0_leastRate_0 (by decide) ?_
  refine lv_istore_n (lv' := [(2, .int (-1)), (0, .ref (A 0)), (1, .int (nI a))]) hx hb dX0_leastRate_1 rfl hl (by decide) rfl (fun ls hl => ?_)
  refine lv_iconst (v := 0) hx hb dX0_leastRate_2 (by decide) ?_
  refine lv_istore_n (lv' := [(3, .int 0), (2, .int (-1)), (0, .ref (A 0)), (1, .int (nI a))]) hx hb dX0_leastRate_3 rfl hl (by decide) rfl (fun ls hl => ?_)
  have L4 : ∀ (m1 i1 : Nat) (acc : Int32), i1 + m1 = s_tr S a → acc = lr (fun t => s_rt S (a * 6 + t)) i1 → ∀ (ls : Array Slot), lv_has ls 5 [(0, .ref (A 0)), (1, .int (nI a)), (2, .int acc), (3, .int (nI i1))] → W p l e (headSpec wsX0_leastRate (rmD 3)).room s m ([.ref (A 0), .int (nI a)] : List Value).toArray below meth c s.heap [] 0 0 (MQ below (vp_Si (fun r => r = (x_least S a))) ([.ref (A 0), .int (nI a)] : List Value).toArray s 0 0 (fun _ => False)) (F0 m 4 ls []) := by
    intro m1
    induction m1 with
    | zero =>
      intro i1 acc hm1 hacc ls hl
      refine lv_iload_n hx hb dX0_leastRate_4 rfl (lv_at hl 3 rfl) ?_
      refine lv_aload_n hx hb dX0_leastRate_5 rfl (lv_at hl 0 rfl) ?_
      refine va_get (D := D) (ci := 0) (v := .ref (A 3)) (C := RX0) (T := TX0) (N := 9) hx hb hts hin hown hK hP 0 rfl rfl 2 (by decide) f_16 (fun _ h9 => h9) rfl dX0_leastRate_6 ?_
      refine lv_iload_n hx hb dX0_leastRate_9 rfl (lv_at hl 1 rfl) ?_
      refine xa_ld (i := a) (v := (nI ((s_tr S) a))) hx hb hK hP 3 2 rfl rfl (by omega) (by decide) (rfl) dX0_leastRate_10 ?_
      refine xn_ge (i := i1) (j := ((s_tr S) a)) (tgt := 44) hx hb (by omega) (by omega) dX0_leastRate_11 (by decide) (fun c1 => ?_) (fun c1 => ?_)
      · refine lv_iload_n hx hb dX0_leastRate_44 rfl (lv_at hl 2 rfl) ?_
        exact W.iret (v := acc) hx hb hr (fun t ht hW => ⟨_, rfl, by rw [hacc, show i1 = s_tr S a by omega]; try rfl, ht⟩) (fun q h => by cases h) dX0_leastRate_45
      · exfalso; omega
    | succ m1 ih =>
      intro i1 acc hm1 hacc ls hl
      refine lv_iload_n hx hb dX0_leastRate_4 rfl (lv_at hl 3 rfl) ?_
      refine lv_aload_n hx hb dX0_leastRate_5 rfl (lv_at hl 0 rfl) ?_
      refine va_get (D := D) (ci := 0) (v := .ref (A 3)) (C := RX0) (T := TX0) (N := 9) hx hb hts hin hown hK hP 0 rfl rfl 2 (by decide) f_16 (fun _ h9 => h9) rfl dX0_leastRate_6 ?_
      refine lv_iload_n hx hb dX0_leastRate_9 rfl (lv_at hl 1 rfl) ?_
      refine xa_ld (i := a) (v := (nI ((s_tr S) a))) hx hb hK hP 3 2 rfl rfl (by omega) (by decide) (rfl) dX0_leastRate_10 ?_
      refine xn_ge (i := i1) (j := ((s_tr S) a)) (tgt := 44) hx hb (by omega) (by omega) dX0_leastRate_11 (by decide) (fun c2 => ?_) (fun c2 => ?_)
      · exfalso; omega
      · refine lv_aload_n hx hb dX0_leastRate_14 rfl (lv_at hl 0 rfl) ?_
        refine va_get (D := D) (ci := 0) (v := .ref (A 1)) (C := RX0) (T := TX0) (N := 9) hx hb hts hin hown hK hP 0 rfl rfl 0 (by decide) f_9 (fun _ h9 => h9) rfl dX0_leastRate_15 ?_
        refine lv_iload_n hx hb dX0_leastRate_18 rfl (lv_at hl 1 rfl) ?_
        refine lv_iload_n hx hb dX0_leastRate_19 rfl (lv_at hl 3 rfl) ?_
        refine rc_S (v := (nI (a * 6 + i1))) ⟨hx, hb, hml, hown, hts⟩ [.int (nI a), .int (nI i1)] [.ref (A 1)] (c_X0_slot l a i1) (va_cwS 2 hts gX0_leastRate_X0_slot rfl rfl rfl (by decide +kernel) ⟨Nat.le_of_ble_eq_true rfl, Nat.le_of_ble_eq_true rfl⟩) rfl hl.1 rfl (Nat.le_of_ble_eq_true rfl) ⟨Nat.zero_le _, Nat.zero_le _⟩ dX0_leastRate_20 ?_
        refine xa_ld (i := (a * 6 + i1)) (v := ((s_rt S) (a * 6 + i1))) hx hb hK hP 1 0 rfl rfl (by omega) (by decide) (rfl) dX0_leastRate_23 ?_
        refine lv_istore (lv' := [(4, .int ((s_rt S) (a * 6 + i1))), (0, .ref (A 0)), (1, .int (nI a)), (2, .int acc), (3, .int (nI i1))]) hx hb dX0_leastRate_24 hl (by decide) rfl (fun ls hl => ?_)
        refine lv_iload hx hb dX0_leastRate_26 (lv_at hl 0 rfl) ?_
        refine lv_iload_n hx hb dX0_leastRate_28 rfl (lv_at hl 3 rfl) ?_
        refine rc_S (v := (zi (be ((s_rt S) (a * 6 + i1)) acc))) ⟨hx, hb, hml, hown, hts⟩ [.int ((s_rt S) (a * 6 + i1)), .int acc] [] (c_X0_betters l ((s_rt S) (a * 6 + i1)) acc) (va_cwS 2 hts gX0_leastRate_X0_betters rfl rfl rfl (by decide +kernel) ⟨Nat.le_of_ble_eq_true rfl, Nat.le_of_ble_eq_true rfl⟩) rfl hl.1 rfl (Nat.le_of_ble_eq_true rfl) ⟨Nat.zero_le _, Nat.zero_le _⟩ dX0_leastRate_29 ?_
        refine xz_eq (b := (be ((s_rt S) (a * 6 + i1)) acc)) (tgt := 38) hx hb dX0_leastRate_32 (by decide) (fun c3 => ?_) (fun c3 => ?_)
        · refine lv_iinc (v := (nI (i1 + 1))) (lv' := [(3, .int (nI (i1 + 1))), (4, .int ((s_rt S) (a * 6 + i1))), (0, .ref (A 0)), (1, .int (nI a)), (2, .int acc)]) hx hb dX0_leastRate_38 hl (k := 4) rfl (nI_add i1 1) (by decide) rfl (fun ls hl => ?_)
          refine lv_goto (tgt := 4) hx hb dX0_leastRate_41 (by decide) ?_
          exact ih (i1 + 1) acc (by omega) (by rw [lr, ← hacc]; simp [c2, c3]) ls (lv_sub hl [2, 3, 4, 0] rfl)
        · refine lv_iload hx hb dX0_leastRate_35 (lv_at hl 0 rfl) ?_
          refine lv_istore_n (lv' := [(2, .int ((s_rt S) (a * 6 + i1))), (4, .int ((s_rt S) (a * 6 + i1))), (0, .ref (A 0)), (1, .int (nI a)), (3, .int (nI i1))]) hx hb dX0_leastRate_37 rfl hl (by decide) rfl (fun ls hl => ?_)
          refine lv_iinc (v := (nI (i1 + 1))) (lv' := [(3, .int (nI (i1 + 1))), (2, .int ((s_rt S) (a * 6 + i1))), (4, .int ((s_rt S) (a * 6 + i1))), (0, .ref (A 0)), (1, .int (nI a))]) hx hb dX0_leastRate_38 hl (k := 4) rfl (nI_add i1 1) (by decide) rfl (fun ls hl => ?_)
          refine lv_goto (tgt := 4) hx hb dX0_leastRate_41 (by decide) ?_
          exact ih (i1 + 1) ((s_rt S) (a * 6 + i1)) (by omega) (by rw [lr, ← hacc]; simp [c2, c3]) ls (lv_sub hl [3, 4, 1, 0] rfl)
  exact L4 (s_tr S a) 0 (-1) (by omega) (rfl) ls (lv_sub hl [2, 3, 1, 0] rfl)
set_option maxHeartbeats 4000000 in
set_option maxRecDepth 100000 in
theorem c_X0_clocksAhead (l : Launch) (D : va_G) (A : Nat → Nat) (K : Nat → ClassId) (S : XS) (hI : x_inv S) (a : Nat) (ha : a < 8) : Met l yX0_clocksAhead wsX0_clocksAhead (rmD 4) (va_Pc [.ref (A 0), .int (nI a)] (i_w D vwCl (wX A K S) (tX K))) (vp_Si (fun r => r = (nI (x_ahead S a)))) 0 0 (fun _ => False) := by
  refine Met.ofW (cc := cX0_clocksAhead) (maxL := 4) (ret := some .int) (by decide) rfl ?_
  intro p e s m args below meth c s₁ B hml hv
  obtain ⟨rfl, hP, hK⟩ := hv
  have hx := B.exec
  have hb := B.bytes
  have hr := B.returns
  have hts := atoms_spec (ws := wsX0_clocksAhead) B.pre
  have hown : s.vm.findClass RX0 = some m.cls := findClass_of_methodNamed B.named
  have hlocks := B.notSynchronized
  have hn8 := hI.1
  have hin : ∀ w ∈ u_ws RX0 TX0 9, w ∈ wsX0_clocksAhead := fun w h => List.mem_cons_of_mem _ (List.mem_append_right _ h)
  have f_26 := hts (.fieldLink RX0 26 "ChronoTrials" "clocks" "I") (by decide +kernel)
  have hl := lv_entry ([.ref (A 0), .int (nI a)]) (n := 4) (Nat.le_of_ble_eq_true rfl)
  rw [lg_entry_eq]
  generalize (lg_sl ([.ref (A 0), .int (nI a)]) ++ List.replicate (4 - (lg_sl ([.ref (A 0), .int (nI a)])).length) Slot.unset).toArray = ls at hl ⊢
  have hl : lv_has ls 4 [(0, .ref (A 0)), (1, .int (nI a))] := hl
  refine lv_iconst (v := 0) hx hb dX0_clocksAhead_0 (by decide) ?_
  refine lv_istore_n (lv' := [(2, .int 0), (0, .ref (A 0)), (1, .int (nI a))]) hx hb dX0_clocksAhead_1 rfl hl (by decide) rfl (fun ls hl => ?_)
  refine lv_iconst (v := 0) hx hb dX0_clocksAhead_2 (by decide) ?_
  refine lv_istore_n (lv' := [(3, .int 0), (2, .int 0), (0, .ref (A 0)), (1, .int (nI a))]) hx hb dX0_clocksAhead_3 rfl hl (by decide) rfl (fun ls hl => ?_)
  have L4 : ∀ (m1 i1 : Nat) (acc : Nat), i1 + m1 = s_n S → acc = cn (fun k => ga S k a) i1 → ∀ (ls : Array Slot), lv_has ls 4 [(0, .ref (A 0)), (1, .int (nI a)), (2, .int (nI acc)), (3, .int (nI i1))] → W p l e (headSpec wsX0_clocksAhead (rmD 4)).room s m ([.ref (A 0), .int (nI a)] : List Value).toArray below meth c s.heap [] 0 0 (MQ below (vp_Si (fun r => r = (nI (x_ahead S a)))) ([.ref (A 0), .int (nI a)] : List Value).toArray s 0 0 (fun _ => False)) (F0 m 4 ls []) := by
    intro m1
    induction m1 with
    | zero =>
      intro i1 acc hm1 hacc ls hl
      refine lv_iload_n hx hb dX0_clocksAhead_4 rfl (lv_at hl 3 rfl) ?_
      refine lv_aload_n hx hb dX0_clocksAhead_5 rfl (lv_at hl 0 rfl) ?_
      refine va_get (D := D) (ci := 0) (v := .int (nI (s_n S))) (C := RX0) (T := TX0) (N := 9) hx hb hts hin hown hK hP 0 rfl rfl 5 (by decide) f_26 (fun _ h9 => h9) rfl dX0_clocksAhead_6 ?_
      refine xn_ge (i := i1) (j := (s_n S)) (tgt := 30) hx hb (by omega) (by omega) dX0_clocksAhead_9 (by decide) (fun c1 => ?_) (fun c1 => ?_)
      · refine lv_iload_n hx hb dX0_clocksAhead_30 rfl (lv_at hl 2 rfl) ?_
        exact W.iret (v := (nI acc)) hx hb hr (fun t ht hW => ⟨_, rfl, by rw [hacc, show i1 = s_n S by omega]; try rfl, ht⟩) (fun q h => by cases h) dX0_clocksAhead_31
      · exfalso; omega
    | succ m1 ih =>
      intro i1 acc hm1 hacc ls hl
      refine lv_iload_n hx hb dX0_clocksAhead_4 rfl (lv_at hl 3 rfl) ?_
      refine lv_aload_n hx hb dX0_clocksAhead_5 rfl (lv_at hl 0 rfl) ?_
      refine va_get (D := D) (ci := 0) (v := .int (nI (s_n S))) (C := RX0) (T := TX0) (N := 9) hx hb hts hin hown hK hP 0 rfl rfl 5 (by decide) f_26 (fun _ h9 => h9) rfl dX0_clocksAhead_6 ?_
      refine xn_ge (i := i1) (j := (s_n S)) (tgt := 30) hx hb (by omega) (by omega) dX0_clocksAhead_9 (by decide) (fun c2 => ?_) (fun c2 => ?_)
      · exfalso; omega
      · refine lv_aload_n hx hb dX0_clocksAhead_12 rfl (lv_at hl 0 rfl) ?_
        refine lv_iload_n hx hb dX0_clocksAhead_13 rfl (lv_at hl 3 rfl) ?_
        refine lv_iload_n hx hb dX0_clocksAhead_14 rfl (lv_at hl 1 rfl) ?_
        refine rc_V (v := (zi (ga S i1 a))) ⟨hx, hb, hml, hown, hts⟩ [.int (nI i1), .int (nI a)] [] (c_X0_goesAhead l D A K S hI i1 a (by omega) (by omega)) (cwV 2 hts gX0_clocksAhead_X0_goesAhead rfl rfl rfl (by decide +kernel) ⟨Nat.le_of_ble_eq_true rfl, Nat.le_of_ble_eq_true rfl⟩) hK hP (va_recv hK hP (ci := 0) (q0 := 0) rfl rfl) rfl hl.1 rfl (Nat.le_of_ble_eq_true rfl) ⟨Nat.zero_le _, Nat.zero_le _⟩ dX0_clocksAhead_15 ?_
        refine xz_eq (b := (ga S i1 a)) (tgt := 24) hx hb dX0_clocksAhead_18 (by decide) (fun c3 => ?_) (fun c3 => ?_)
        · refine lv_iinc (v := (nI (i1 + 1))) (lv' := [(3, .int (nI (i1 + 1))), (0, .ref (A 0)), (1, .int (nI a)), (2, .int (nI acc))]) hx hb dX0_clocksAhead_24 hl (k := 3) rfl (nI_add i1 1) (by decide) rfl (fun ls hl => ?_)
          refine lv_goto (tgt := 4) hx hb dX0_clocksAhead_27 (by decide) ?_
          exact ih (i1 + 1) acc (by omega) (by simp [cn, b2, hacc, c2, c3]) ls (lv_sub hl [1, 2, 3, 0] rfl)
        · refine lv_iinc (v := (nI (acc + 1))) (lv' := [(2, .int (nI (acc + 1))), (0, .ref (A 0)), (1, .int (nI a)), (3, .int (nI i1))]) hx hb dX0_clocksAhead_21 hl (k := 2) rfl (nI_add acc 1) (by decide) rfl (fun ls hl => ?_)
          refine lv_iinc (v := (nI (i1 + 1))) (lv' := [(3, .int (nI (i1 + 1))), (2, .int (nI (acc + 1))), (0, .ref (A 0)), (1, .int (nI a))]) hx hb dX0_clocksAhead_24 hl (k := 3) rfl (nI_add i1 1) (by decide) rfl (fun ls hl => ?_)
          refine lv_goto (tgt := 4) hx hb dX0_clocksAhead_27 (by decide) ?_
          exact ih (i1 + 1) (acc + 1) (by omega) (by simp [cn, b2, hacc, c2, c3]) ls (lv_sub hl [2, 3, 1, 0] rfl)
  exact L4 (s_n S) 0 0 (by omega) (rfl) ls (lv_sub hl [2, 3, 1, 0] rfl)
set_option maxHeartbeats 4000000 in
set_option maxRecDepth 100000 in
theorem c_X0_rank (l : Launch) (D : va_G) (A : Nat → Nat) (K : Nat → ClassId) (S : XS) (hI : x_inv S) (a : Nat) (ha : a < 8) : Met l yX0_rank wsX0_rank (rmD 3) (va_Pc [.ref (A 0), .int (nI a)] (i_w D vwCl (wX A K S) (tX K))) (vp_Si (fun r => r = (nI (x_rank S a)))) 0 0 (fun _ => False) := by
  refine Met.ofW (cc := cX0_rank) (maxL := 4) (ret := some .int) (by decide) rfl ?_
  intro p e s m args below meth c s₁ B hml hv
  obtain ⟨rfl, hP, hK⟩ := hv
  have hx := B.exec
  have hb := B.bytes
  have hr := B.returns
  have hts := atoms_spec (ws := wsX0_rank) B.pre
  have hown : s.vm.findClass RX0 = some m.cls := findClass_of_methodNamed B.named
  have hlocks := B.notSynchronized
  have hn8 := hI.1
  have hin : ∀ w ∈ u_ws RX0 TX0 9, w ∈ wsX0_rank := fun w h => List.mem_cons_of_mem _ (List.mem_append_right _ h)
  have f_19 := hts (.fieldLink RX0 19 "ChronoTrials" "bests" "[I") (by decide +kernel)
  have f_26 := hts (.fieldLink RX0 26 "ChronoTrials" "clocks" "I") (by decide +kernel)
  have hl := lv_entry ([.ref (A 0), .int (nI a)]) (n := 4) (Nat.le_of_ble_eq_true rfl)
  rw [lg_entry_eq]
  generalize (lg_sl ([.ref (A 0), .int (nI a)]) ++ List.replicate (4 - (lg_sl ([.ref (A 0), .int (nI a)])).length) Slot.unset).toArray = ls at hl ⊢
  have hl : lv_has ls 4 [(0, .ref (A 0)), (1, .int (nI a))] := hl
  refine lv_iconst (v := 0) hx hb dX0_rank_0 (by decide) ?_
  refine lv_istore_n (lv' := [(2, .int 0), (0, .ref (A 0)), (1, .int (nI a))]) hx hb dX0_rank_1 rfl hl (by decide) rfl (fun ls hl => ?_)
  refine lv_iconst (v := 0) hx hb dX0_rank_2 (by decide) ?_
  refine lv_istore_n (lv' := [(3, .int 0), (2, .int 0), (0, .ref (A 0)), (1, .int (nI a))]) hx hb dX0_rank_3 rfl hl (by decide) rfl (fun ls hl => ?_)
  have L4 : ∀ (m1 i1 : Nat) (acc : Nat), i1 + m1 = s_n S → acc = cn (fun k => be (s_bs S k) (s_bs S a)) i1 → ∀ (ls : Array Slot), lv_has ls 4 [(0, .ref (A 0)), (1, .int (nI a)), (2, .int (nI acc)), (3, .int (nI i1))] → W p l e (headSpec wsX0_rank (rmD 3)).room s m ([.ref (A 0), .int (nI a)] : List Value).toArray below meth c s.heap [] 0 0 (MQ below (vp_Si (fun r => r = (nI (x_rank S a)))) ([.ref (A 0), .int (nI a)] : List Value).toArray s 0 0 (fun _ => False)) (F0 m 4 ls []) := by
    intro m1
    induction m1 with
    | zero =>
      intro i1 acc hm1 hacc ls hl
      refine lv_iload_n hx hb dX0_rank_4 rfl (lv_at hl 3 rfl) ?_
      refine lv_aload_n hx hb dX0_rank_5 rfl (lv_at hl 0 rfl) ?_
      refine va_get (D := D) (ci := 0) (v := .int (nI (s_n S))) (C := RX0) (T := TX0) (N := 9) hx hb hts hin hown hK hP 0 rfl rfl 5 (by decide) f_26 (fun _ h9 => h9) rfl dX0_rank_6 ?_
      refine xn_ge (i := i1) (j := (s_n S)) (tgt := 39) hx hb (by omega) (by omega) dX0_rank_9 (by decide) (fun c1 => ?_) (fun c1 => ?_)
      · refine lv_iload_n hx hb dX0_rank_39 rfl (lv_at hl 2 rfl) ?_
        exact W.iret (v := (nI acc)) hx hb hr (fun t ht hW => ⟨_, rfl, by rw [hacc, show i1 = s_n S by omega]; try rfl, ht⟩) (fun q h => by cases h) dX0_rank_40
      · exfalso; omega
    | succ m1 ih =>
      intro i1 acc hm1 hacc ls hl
      refine lv_iload_n hx hb dX0_rank_4 rfl (lv_at hl 3 rfl) ?_
      refine lv_aload_n hx hb dX0_rank_5 rfl (lv_at hl 0 rfl) ?_
      refine va_get (D := D) (ci := 0) (v := .int (nI (s_n S))) (C := RX0) (T := TX0) (N := 9) hx hb hts hin hown hK hP 0 rfl rfl 5 (by decide) f_26 (fun _ h9 => h9) rfl dX0_rank_6 ?_
      refine xn_ge (i := i1) (j := (s_n S)) (tgt := 39) hx hb (by omega) (by omega) dX0_rank_9 (by decide) (fun c2 => ?_) (fun c2 => ?_)
      · exfalso; omega
      · refine lv_aload_n hx hb dX0_rank_12 rfl (lv_at hl 0 rfl) ?_
        refine va_get (D := D) (ci := 0) (v := .ref (A 4)) (C := RX0) (T := TX0) (N := 9) hx hb hts hin hown hK hP 0 rfl rfl 3 (by decide) f_19 (fun _ h9 => h9) rfl dX0_rank_13 ?_
        refine lv_iload_n hx hb dX0_rank_16 rfl (lv_at hl 3 rfl) ?_
        refine xa_ld (i := i1) (v := ((s_bs S) i1)) hx hb hK hP 4 3 rfl rfl (by omega) (by decide) (rfl) dX0_rank_17 ?_
        refine lv_aload_n hx hb dX0_rank_18 rfl (lv_at hl 0 rfl) ?_
        refine va_get (D := D) (ci := 0) (v := .ref (A 4)) (C := RX0) (T := TX0) (N := 9) hx hb hts hin hown hK hP 0 rfl rfl 3 (by decide) f_19 (fun _ h9 => h9) rfl dX0_rank_19 ?_
        refine lv_iload_n hx hb dX0_rank_22 rfl (lv_at hl 1 rfl) ?_
        refine xa_ld (i := a) (v := ((s_bs S) a)) hx hb hK hP 4 3 rfl rfl (by omega) (by decide) (rfl) dX0_rank_23 ?_
        refine rc_S (v := (zi (be ((s_bs S) i1) ((s_bs S) a)))) ⟨hx, hb, hml, hown, hts⟩ [.int ((s_bs S) i1), .int ((s_bs S) a)] [] (c_X0_betters l ((s_bs S) i1) ((s_bs S) a)) (va_cwS 2 hts gX0_rank_X0_betters rfl rfl rfl (by decide +kernel) ⟨Nat.le_of_ble_eq_true rfl, Nat.le_of_ble_eq_true rfl⟩) rfl hl.1 rfl (Nat.le_of_ble_eq_true rfl) ⟨Nat.zero_le _, Nat.zero_le _⟩ dX0_rank_24 ?_
        refine xz_eq (b := (be ((s_bs S) i1) ((s_bs S) a))) (tgt := 33) hx hb dX0_rank_27 (by decide) (fun c3 => ?_) (fun c3 => ?_)
        · refine lv_iinc (v := (nI (i1 + 1))) (lv' := [(3, .int (nI (i1 + 1))), (0, .ref (A 0)), (1, .int (nI a)), (2, .int (nI acc))]) hx hb dX0_rank_33 hl (k := 3) rfl (nI_add i1 1) (by decide) rfl (fun ls hl => ?_)
          refine lv_goto (tgt := 4) hx hb dX0_rank_36 (by decide) ?_
          exact ih (i1 + 1) acc (by omega) (by simp [cn, b2, hacc, c2, c3]) ls (lv_sub hl [1, 2, 3, 0] rfl)
        · refine lv_iinc (v := (nI (acc + 1))) (lv' := [(2, .int (nI (acc + 1))), (0, .ref (A 0)), (1, .int (nI a)), (3, .int (nI i1))]) hx hb dX0_rank_30 hl (k := 2) rfl (nI_add acc 1) (by decide) rfl (fun ls hl => ?_)
          refine lv_iinc (v := (nI (i1 + 1))) (lv' := [(3, .int (nI (i1 + 1))), (2, .int (nI (acc + 1))), (0, .ref (A 0)), (1, .int (nI a))]) hx hb dX0_rank_33 hl (k := 3) rfl (nI_add i1 1) (by decide) rfl (fun ls hl => ?_)
          refine lv_goto (tgt := 4) hx hb dX0_rank_36 (by decide) ?_
          exact ih (i1 + 1) (acc + 1) (by omega) (by simp [cn, b2, hacc, c2, c3]) ls (lv_sub hl [2, 3, 1, 0] rfl)
  exact L4 (s_n S) 0 0 (by omega) (rfl) ls (lv_sub hl [2, 3, 1, 0] rfl)
set_option maxHeartbeats 4000000 in
set_option maxRecDepth 100000 in
theorem c_X0_coldTrials (l : Launch) (D : va_G) (A : Nat → Nat) (K : Nat → ClassId) (S : XS) (hI : x_inv S) (a : Nat) (ha : a < 8) : Met l yX0_coldTrials wsX0_coldTrials (rmD 3) (va_Pc [.ref (A 0), .int (nI a)] (i_w D vwCl (wX A K S) (tX K))) (vp_Si (fun r => r = (nI (x_cold S a)))) 0 0 (fun _ => False) := by
  refine Met.ofW (cc := cX0_coldTrials) (maxL := 4) (ret := some .int) (by decide) rfl ?_
  intro p e s m args below meth c s₁ B hml hv
  obtain ⟨rfl, hP, hK⟩ := hv
  have hx := B.exec
  have hb := B.bytes
  have hr := B.returns
  have hts := atoms_spec (ws := wsX0_coldTrials) B.pre
  have hown : s.vm.findClass RX0 = some m.cls := findClass_of_methodNamed B.named
  have hlocks := B.notSynchronized
  have hn8 := hI.1
  have hin : ∀ w ∈ u_ws RX0 TX0 9, w ∈ wsX0_coldTrials := fun w h => List.mem_cons_of_mem _ (List.mem_append_right _ h)
  have f_13 := hts (.fieldLink RX0 13 "ChronoTrials" "chills" "[I") (by decide +kernel)
  have f_16 := hts (.fieldLink RX0 16 "ChronoTrials" "trialsOf" "[I") (by decide +kernel)
  have ht6 := hI.2 a
  have hl := lv_entry ([.ref (A 0), .int (nI a)]) (n := 4) (Nat.le_of_ble_eq_true rfl)
  rw [lg_entry_eq]
  generalize (lg_sl ([.ref (A 0), .int (nI a)]) ++ List.replicate (4 - (lg_sl ([.ref (A 0), .int (nI a)])).length) Slot.unset).toArray = ls at hl ⊢
  have hl : lv_has ls 4 [(0, .ref (A 0)), (1, .int (nI a))] := hl
  refine lv_iconst (v := 0) hx hb dX0_coldTrials_0 (by decide) ?_
  refine lv_istore_n (lv' := [(2, .int 0), (0, .ref (A 0)), (1, .int (nI a))]) hx hb dX0_coldTrials_1 rfl hl (by decide) rfl (fun ls hl => ?_)
  refine lv_iconst (v := 0) hx hb dX0_coldTrials_2 (by decide) ?_
  refine lv_istore_n (lv' := [(3, .int 0), (2, .int 0), (0, .ref (A 0)), (1, .int (nI a))]) hx hb dX0_coldTrials_3 rfl hl (by decide) rfl (fun ls hl => ?_)
  have L4 : ∀ (m1 i1 : Nat) (acc : Nat), i1 + m1 = s_tr S a → acc = cn (fun t => cold S (s_ch S (a * 6 + t))) i1 → ∀ (ls : Array Slot), lv_has ls 4 [(0, .ref (A 0)), (1, .int (nI a)), (2, .int (nI acc)), (3, .int (nI i1))] → W p l e (headSpec wsX0_coldTrials (rmD 3)).room s m ([.ref (A 0), .int (nI a)] : List Value).toArray below meth c s.heap [] 0 0 (MQ below (vp_Si (fun r => r = (nI (x_cold S a)))) ([.ref (A 0), .int (nI a)] : List Value).toArray s 0 0 (fun _ => False)) (F0 m 4 ls []) := by
    intro m1
    induction m1 with
    | zero =>
      intro i1 acc hm1 hacc ls hl
      refine lv_iload_n hx hb dX0_coldTrials_4 rfl (lv_at hl 3 rfl) ?_
      refine lv_aload_n hx hb dX0_coldTrials_5 rfl (lv_at hl 0 rfl) ?_
      refine va_get (D := D) (ci := 0) (v := .ref (A 3)) (C := RX0) (T := TX0) (N := 9) hx hb hts hin hown hK hP 0 rfl rfl 2 (by decide) f_16 (fun _ h9 => h9) rfl dX0_coldTrials_6 ?_
      refine lv_iload_n hx hb dX0_coldTrials_9 rfl (lv_at hl 1 rfl) ?_
      refine xa_ld (i := a) (v := (nI ((s_tr S) a))) hx hb hK hP 3 2 rfl rfl (by omega) (by decide) (rfl) dX0_coldTrials_10 ?_
      refine xn_ge (i := i1) (j := ((s_tr S) a)) (tgt := 40) hx hb (by omega) (by omega) dX0_coldTrials_11 (by decide) (fun c1 => ?_) (fun c1 => ?_)
      · refine lv_iload_n hx hb dX0_coldTrials_40 rfl (lv_at hl 2 rfl) ?_
        exact W.iret (v := (nI acc)) hx hb hr (fun t ht hW => ⟨_, rfl, by rw [hacc, show i1 = s_tr S a by omega]; try rfl, ht⟩) (fun q h => by cases h) dX0_coldTrials_41
      · exfalso; omega
    | succ m1 ih =>
      intro i1 acc hm1 hacc ls hl
      refine lv_iload_n hx hb dX0_coldTrials_4 rfl (lv_at hl 3 rfl) ?_
      refine lv_aload_n hx hb dX0_coldTrials_5 rfl (lv_at hl 0 rfl) ?_
      refine va_get (D := D) (ci := 0) (v := .ref (A 3)) (C := RX0) (T := TX0) (N := 9) hx hb hts hin hown hK hP 0 rfl rfl 2 (by decide) f_16 (fun _ h9 => h9) rfl dX0_coldTrials_6 ?_
      refine lv_iload_n hx hb dX0_coldTrials_9 rfl (lv_at hl 1 rfl) ?_
      refine xa_ld (i := a) (v := (nI ((s_tr S) a))) hx hb hK hP 3 2 rfl rfl (by omega) (by decide) (rfl) dX0_coldTrials_10 ?_
      refine xn_ge (i := i1) (j := ((s_tr S) a)) (tgt := 40) hx hb (by omega) (by omega) dX0_coldTrials_11 (by decide) (fun c2 => ?_) (fun c2 => ?_)
      · exfalso; omega
      · refine lv_aload_n hx hb dX0_coldTrials_14 rfl (lv_at hl 0 rfl) ?_
        refine lv_aload_n hx hb dX0_coldTrials_15 rfl (lv_at hl 0 rfl) ?_
        refine va_get (D := D) (ci := 0) (v := .ref (A 2)) (C := RX0) (T := TX0) (N := 9) hx hb hts hin hown hK hP 0 rfl rfl 1 (by decide) f_13 (fun _ h9 => h9) rfl dX0_coldTrials_16 ?_
        refine lv_iload_n hx hb dX0_coldTrials_19 rfl (lv_at hl 1 rfl) ?_
        refine lv_iload_n hx hb dX0_coldTrials_20 rfl (lv_at hl 3 rfl) ?_
        refine rc_S (v := (nI (a * 6 + i1))) ⟨hx, hb, hml, hown, hts⟩ [.int (nI a), .int (nI i1)] [.ref (A 2), .ref (A 0)] (c_X0_slot l a i1) (va_cwS 2 hts gX0_coldTrials_X0_slot rfl rfl rfl (by decide +kernel) ⟨Nat.le_of_ble_eq_true rfl, Nat.le_of_ble_eq_true rfl⟩) rfl hl.1 rfl (Nat.le_of_ble_eq_true rfl) ⟨Nat.zero_le _, Nat.zero_le _⟩ dX0_coldTrials_21 ?_
        refine xa_ld (i := (a * 6 + i1)) (v := ((s_ch S) (a * 6 + i1))) hx hb hK hP 2 1 rfl rfl (by omega) (by decide) (rfl) dX0_coldTrials_24 ?_
        refine rc_V (v := (zi (cold S ((s_ch S) (a * 6 + i1))))) ⟨hx, hb, hml, hown, hts⟩ [.int ((s_ch S) (a * 6 + i1))] [] (c_X0_isCold l D A K S hI ((s_ch S) (a * 6 + i1))) (cwV 1 hts gX0_coldTrials_X0_isCold rfl rfl rfl (by decide +kernel) ⟨Nat.le_of_ble_eq_true rfl, Nat.le_of_ble_eq_true rfl⟩) hK hP (va_recv hK hP (ci := 0) (q0 := 0) rfl rfl) rfl hl.1 rfl (Nat.le_of_ble_eq_true rfl) ⟨Nat.zero_le _, Nat.zero_le _⟩ dX0_coldTrials_25 ?_
        refine xz_eq (b := (cold S ((s_ch S) (a * 6 + i1)))) (tgt := 34) hx hb dX0_coldTrials_28 (by decide) (fun c3 => ?_) (fun c3 => ?_)
        · refine lv_iinc (v := (nI (i1 + 1))) (lv' := [(3, .int (nI (i1 + 1))), (0, .ref (A 0)), (1, .int (nI a)), (2, .int (nI acc))]) hx hb dX0_coldTrials_34 hl (k := 3) rfl (nI_add i1 1) (by decide) rfl (fun ls hl => ?_)
          refine lv_goto (tgt := 4) hx hb dX0_coldTrials_37 (by decide) ?_
          exact ih (i1 + 1) acc (by omega) (by simp [cn, b2, hacc, c2, c3]) ls (lv_sub hl [1, 2, 3, 0] rfl)
        · refine lv_iinc (v := (nI (acc + 1))) (lv' := [(2, .int (nI (acc + 1))), (0, .ref (A 0)), (1, .int (nI a)), (3, .int (nI i1))]) hx hb dX0_coldTrials_31 hl (k := 2) rfl (nI_add acc 1) (by decide) rfl (fun ls hl => ?_)
          refine lv_iinc (v := (nI (i1 + 1))) (lv' := [(3, .int (nI (i1 + 1))), (2, .int (nI (acc + 1))), (0, .ref (A 0)), (1, .int (nI a))]) hx hb dX0_coldTrials_34 hl (k := 3) rfl (nI_add i1 1) (by decide) rfl (fun ls hl => ?_)
          refine lv_goto (tgt := 4) hx hb dX0_coldTrials_37 (by decide) ?_
          exact ih (i1 + 1) (acc + 1) (by omega) (by simp [cn, b2, hacc, c2, c3]) ls (lv_sub hl [2, 3, 1, 0] rfl)
  exact L4 (s_tr S a) 0 0 (by omega) (rfl) ls (lv_sub hl [2, 3, 1, 0] rfl)
set_option maxHeartbeats 4000000 in
set_option maxRecDepth 100000 in
theorem c_X0_trialsAheadOfBest (l : Launch) (D : va_G) (A : Nat → Nat) (K : Nat → ClassId) (S : XS) (hI : x_inv S) (a : Nat) (ha : a < 8) : Met l yX0_trialsAheadOfBest wsX0_trialsAheadOfBest (rmD 2) (va_Pc [.ref (A 0), .int (nI a)] (i_w D vwCl (wX A K S) (tX K))) (vp_Si (fun r => r = (nI (x_more S a)))) 0 0 (fun _ => False) := by
  refine Met.ofW (cc := cX0_trialsAheadOfBest) (maxL := 3) (ret := some .int) (by decide) rfl ?_
  intro p e s m args below meth c s₁ B hml hv
  obtain ⟨rfl, hP, hK⟩ := hv
  have hx := B.exec
  have hb := B.bytes
  have hr := B.returns
  have hts := atoms_spec (ws := wsX0_trialsAheadOfBest) B.pre
  have hown : s.vm.findClass RX0 = some m.cls := findClass_of_methodNamed B.named
  have hlocks := B.notSynchronized
  have hn8 := hI.1
  have hin : ∀ w ∈ u_ws RX0 TX0 9, w ∈ wsX0_trialsAheadOfBest := fun w h => List.mem_cons_of_mem _ (List.mem_append_right _ h)
  have f_9 := hts (.fieldLink RX0 9 "ChronoTrials" "rates" "[I") (by decide +kernel)
  have f_16 := hts (.fieldLink RX0 16 "ChronoTrials" "trialsOf" "[I") (by decide +kernel)
  have f_19 := hts (.fieldLink RX0 19 "ChronoTrials" "bests" "[I") (by decide +kernel)
  have ht6 := hI.2 a
  have hl := lv_entry ([.ref (A 0), .int (nI a)]) (n := 3) (Nat.le_of_ble_eq_true rfl)
  rw [lg_entry_eq]
  generalize (lg_sl ([.ref (A 0), .int (nI a)]) ++ List.replicate (3 - (lg_sl ([.ref (A 0), .int (nI a)])).length) Slot.unset).toArray = ls at hl ⊢
  have hl : lv_has ls 3 [(0, .ref (A 0)), (1, .int (nI a))] := hl
  refine lv_iconst (v := 0) hx hb dX0_trialsAheadOfBest_0 (by decide) ?_
  refine lv_istore_n (lv' := [(2, .int 0), (0, .ref (A 0)), (1, .int (nI a))]) hx hb dX0_trialsAheadOfBest_1 rfl hl (by decide) rfl (fun ls hl => ?_)
  have L2 : ∀ (m1 i1 : Nat), i1 + m1 = s_tr S a → x_more S a = wh (fun t => h_all (-1) 2 (s_rt S (a * 6 + t)) (s_bs S a)) m1 i1 → ∀ (ls : Array Slot), lv_has ls 3 [(0, .ref (A 0)), (1, .int (nI a)), (2, .int (nI i1))] → W p l e (headSpec wsX0_trialsAheadOfBest (rmD 2)).room s m ([.ref (A 0), .int (nI a)] : List Value).toArray below meth c s.heap [] 0 0 (MQ below (vp_Si (fun r => r = (nI (x_more S a)))) ([.ref (A 0), .int (nI a)] : List Value).toArray s 0 0 (fun _ => False)) (F0 m 2 ls []) := by
    intro m1
    induction m1 with
    | zero =>
      intro i1 hm1 hinv ls hl
      refine lv_iload_n hx hb dX0_trialsAheadOfBest_2 rfl (lv_at hl 2 rfl) ?_
      refine lv_aload_n hx hb dX0_trialsAheadOfBest_3 rfl (lv_at hl 0 rfl) ?_
      refine va_get (D := D) (ci := 0) (v := .ref (A 3)) (C := RX0) (T := TX0) (N := 9) hx hb hts hin hown hK hP 0 rfl rfl 2 (by decide) f_16 (fun _ h9 => h9) rfl dX0_trialsAheadOfBest_4 ?_
      refine lv_iload_n hx hb dX0_trialsAheadOfBest_7 rfl (lv_at hl 1 rfl) ?_
      refine xa_ld (i := a) (v := (nI ((s_tr S) a))) hx hb hK hP 3 2 rfl rfl (by omega) (by decide) (rfl) dX0_trialsAheadOfBest_8 ?_
      refine xn_ge (i := i1) (j := ((s_tr S) a)) (tgt := 41) hx hb (by omega) (by omega) dX0_trialsAheadOfBest_9 (by decide) (fun c1 => ?_) (fun c1 => ?_)
      · refine lv_iload_n hx hb dX0_trialsAheadOfBest_41 rfl (lv_at hl 2 rfl) ?_
        exact W.iret (v := (nI i1)) hx hb hr (fun t ht hW => ⟨_, rfl, by rw [hinv]; simp [wh, hinv, c1], ht⟩) (fun q h => by cases h) dX0_trialsAheadOfBest_42
      · exfalso; omega
    | succ m1 ih =>
      intro i1 hm1 hinv ls hl
      refine lv_iload_n hx hb dX0_trialsAheadOfBest_2 rfl (lv_at hl 2 rfl) ?_
      refine lv_aload_n hx hb dX0_trialsAheadOfBest_3 rfl (lv_at hl 0 rfl) ?_
      refine va_get (D := D) (ci := 0) (v := .ref (A 3)) (C := RX0) (T := TX0) (N := 9) hx hb hts hin hown hK hP 0 rfl rfl 2 (by decide) f_16 (fun _ h9 => h9) rfl dX0_trialsAheadOfBest_4 ?_
      refine lv_iload_n hx hb dX0_trialsAheadOfBest_7 rfl (lv_at hl 1 rfl) ?_
      refine xa_ld (i := a) (v := (nI ((s_tr S) a))) hx hb hK hP 3 2 rfl rfl (by omega) (by decide) (rfl) dX0_trialsAheadOfBest_8 ?_
      refine xn_ge (i := i1) (j := ((s_tr S) a)) (tgt := 41) hx hb (by omega) (by omega) dX0_trialsAheadOfBest_9 (by decide) (fun c2 => ?_) (fun c2 => ?_)
      · exfalso; omega
      · refine lv_iconst (v := 2) hx hb dX0_trialsAheadOfBest_12 (by decide) ?_
        refine lv_aload_n hx hb dX0_trialsAheadOfBest_13 rfl (lv_at hl 0 rfl) ?_
        refine va_get (D := D) (ci := 0) (v := .ref (A 1)) (C := RX0) (T := TX0) (N := 9) hx hb hts hin hown hK hP 0 rfl rfl 0 (by decide) f_9 (fun _ h9 => h9) rfl dX0_trialsAheadOfBest_14 ?_
        refine lv_iload_n hx hb dX0_trialsAheadOfBest_17 rfl (lv_at hl 1 rfl) ?_
        refine lv_iload_n hx hb dX0_trialsAheadOfBest_18 rfl (lv_at hl 2 rfl) ?_
        refine rc_S (v := (nI (a * 6 + i1))) ⟨hx, hb, hml, hown, hts⟩ [.int (nI a), .int (nI i1)] [.ref (A 1), .int 2] (c_X0_slot l a i1) (va_cwS 2 hts gX0_trialsAheadOfBest_X0_slot rfl rfl rfl (by decide +kernel) ⟨Nat.le_of_ble_eq_true rfl, Nat.le_of_ble_eq_true rfl⟩) rfl hl.1 rfl (Nat.le_of_ble_eq_true rfl) ⟨Nat.zero_le _, Nat.zero_le _⟩ dX0_trialsAheadOfBest_19 ?_
        refine xa_ld (i := (a * 6 + i1)) (v := ((s_rt S) (a * 6 + i1))) hx hb hK hP 1 0 rfl rfl (by omega) (by decide) (rfl) dX0_trialsAheadOfBest_22 ?_
        refine lv_aload_n hx hb dX0_trialsAheadOfBest_23 rfl (lv_at hl 0 rfl) ?_
        refine va_get (D := D) (ci := 0) (v := .ref (A 4)) (C := RX0) (T := TX0) (N := 9) hx hb hts hin hown hK hP 0 rfl rfl 3 (by decide) f_19 (fun _ h9 => h9) rfl dX0_trialsAheadOfBest_24 ?_
        refine lv_iload_n hx hb dX0_trialsAheadOfBest_27 rfl (lv_at hl 1 rfl) ?_
        refine xa_ld (i := a) (v := ((s_bs S) a)) hx hb hK hP 4 3 rfl rfl (by omega) (by decide) (rfl) dX0_trialsAheadOfBest_28 ?_
        refine rc_S (v := (zi (h_all (-1) 2 ((s_rt S) (a * 6 + i1)) ((s_bs S) a)))) ⟨hx, hb, hml, hown, hts⟩ [.int 2, .int ((s_rt S) (a * 6 + i1)), .int ((s_bs S) a)] [] (c_X0_holdsOfRates l 2 ((s_rt S) (a * 6 + i1)) ((s_bs S) a)) (va_cwS 3 hts gX0_trialsAheadOfBest_X0_holdsOfRates rfl rfl rfl (by decide +kernel) ⟨Nat.le_of_ble_eq_true rfl, Nat.le_of_ble_eq_true rfl⟩) rfl hl.1 rfl (Nat.le_of_ble_eq_true rfl) ⟨Nat.zero_le _, Nat.zero_le _⟩ dX0_trialsAheadOfBest_29 ?_
        refine xz_eq (b := (h_all (-1) 2 ((s_rt S) (a * 6 + i1)) ((s_bs S) a))) (tgt := 41) hx hb dX0_trialsAheadOfBest_32 (by decide) (fun c3 => ?_) (fun c3 => ?_)
        · refine lv_iload_n hx hb dX0_trialsAheadOfBest_41 rfl (lv_at hl 2 rfl) ?_
          exact W.iret (v := (nI i1)) hx hb hr (fun t ht hW => ⟨_, rfl, by rw [hinv]; simp [wh, hinv, c2, c3], ht⟩) (fun q h => by cases h) dX0_trialsAheadOfBest_42
        · refine lv_iinc (v := (nI (i1 + 1))) (lv' := [(2, .int (nI (i1 + 1))), (0, .ref (A 0)), (1, .int (nI a))]) hx hb dX0_trialsAheadOfBest_35 hl (k := 2) rfl (nI_add i1 1) (by decide) rfl (fun ls hl => ?_)
          refine lv_goto (tgt := 2) hx hb dX0_trialsAheadOfBest_38 (by decide) ?_
          exact ih (i1 + 1) (by omega) (by rw [hinv, wh]; simp [hinv, c2, c3]) ls (lv_sub hl [1, 2, 0] rfl)
  exact L2 (s_tr S a) 0 (by omega) (rfl) ls (lv_sub hl [1, 2, 0] rfl)
set_option maxHeartbeats 4000000 in
set_option maxRecDepth 100000 in
theorem c_X0_clocksInARow (l : Launch) (D : va_G) (A : Nat → Nat) (K : Nat → ClassId) (S : XS) (hI : x_inv S) (w : Int32) (sg : Int32) (a : Nat) (b : Nat) (ha : a < s_n S) (hb8 : b < 8) : Met l yX0_clocksInARow wsX0_clocksInARow (rmD 3) (va_Pc [.ref (A 0), .int w, .int sg, .int (nI a), .int (nI b)] (i_w D vwCl (wX A K S) (tX K))) (vp_Si (fun r => r = (nI (x_row S w sg a b - a)))) 0 0 (fun _ => False) := by
  refine Met.ofW (cc := cX0_clocksInARow) (maxL := 6) (ret := some .int) (by decide) rfl ?_
  intro p e s m args below meth c s₁ B hml hv
  obtain ⟨rfl, hP, hK⟩ := hv
  have hx := B.exec
  have hb := B.bytes
  have hr := B.returns
  have hts := atoms_spec (ws := wsX0_clocksInARow) B.pre
  have hown : s.vm.findClass RX0 = some m.cls := findClass_of_methodNamed B.named
  have hlocks := B.notSynchronized
  have hn8 := hI.1
  have hin : ∀ w ∈ u_ws RX0 TX0 9, w ∈ wsX0_clocksInARow := fun w h => List.mem_cons_of_mem _ (List.mem_append_right _ h)
  have f_26 := hts (.fieldLink RX0 26 "ChronoTrials" "clocks" "I") (by decide +kernel)
  have hl := lv_entry ([.ref (A 0), .int w, .int sg, .int (nI a), .int (nI b)]) (n := 6) (Nat.le_of_ble_eq_true rfl)
  rw [lg_entry_eq]
  generalize (lg_sl ([.ref (A 0), .int w, .int sg, .int (nI a), .int (nI b)]) ++ List.replicate (6 - (lg_sl ([.ref (A 0), .int w, .int sg, .int (nI a), .int (nI b)])).length) Slot.unset).toArray = ls at hl ⊢
  have hl : lv_has ls 6 [(0, .ref (A 0)), (1, .int w), (2, .int sg), (3, .int (nI a)), (4, .int (nI b))] := hl
  refine lv_iload_n hx hb dX0_clocksInARow_0 rfl (lv_at hl 3 rfl) ?_
  refine lv_istore (lv' := [(5, .int (nI a)), (0, .ref (A 0)), (1, .int w), (2, .int sg), (3, .int (nI a)), (4, .int (nI b))]) hx hb dX0_clocksInARow_1 hl (by decide) rfl (fun ls hl => ?_)
  have L3 : ∀ (m1 i1 : Nat), i1 + m1 = s_n S → a ≤ i1 → x_row S w sg a b = wh (fun k => hc S w sg k b) m1 i1 → ∀ (ls : Array Slot), lv_has ls 6 [(0, .ref (A 0)), (1, .int w), (2, .int sg), (3, .int (nI a)), (4, .int (nI b)), (5, .int (nI i1))] → W p l e (headSpec wsX0_clocksInARow (rmD 3)).room s m ([.ref (A 0), .int w, .int sg, .int (nI a), .int (nI b)] : List Value).toArray below meth c s.heap [] 0 0 (MQ below (vp_Si (fun r => r = (nI (x_row S w sg a b - a)))) ([.ref (A 0), .int w, .int sg, .int (nI a), .int (nI b)] : List Value).toArray s 0 0 (fun _ => False)) (F0 m 3 ls []) := by
    intro m1
    induction m1 with
    | zero =>
      intro i1 hm1 hai hinv ls hl
      refine lv_iload hx hb dX0_clocksInARow_3 (lv_at hl 5 rfl) ?_
      refine lv_aload_n hx hb dX0_clocksInARow_5 rfl (lv_at hl 0 rfl) ?_
      refine va_get (D := D) (ci := 0) (v := .int (nI (s_n S))) (C := RX0) (T := TX0) (N := 9) hx hb hts hin hown hK hP 0 rfl rfl 5 (by decide) f_26 (fun _ h9 => h9) rfl dX0_clocksInARow_6 ?_
      refine xn_ge (i := i1) (j := (s_n S)) (tgt := 31) hx hb (by omega) (by omega) dX0_clocksInARow_9 (by decide) (fun c1 => ?_) (fun c1 => ?_)
      · refine lv_iload hx hb dX0_clocksInARow_31 (lv_at hl 5 rfl) ?_
        refine lv_iload_n hx hb dX0_clocksInARow_33 rfl (lv_at hl 3 rfl) ?_
        refine xn_sub (i := i1) (j := a) hx hb (by omega) dX0_clocksInARow_34 ?_
        exact W.iret (v := (nI (i1 - a))) hx hb hr (fun t ht hW => ⟨_, rfl, by rw [hinv]; simp [wh, hai, hinv, c1], ht⟩) (fun q h => by cases h) dX0_clocksInARow_35
      · exfalso; omega
    | succ m1 ih =>
      intro i1 hm1 hai hinv ls hl
      refine lv_iload hx hb dX0_clocksInARow_3 (lv_at hl 5 rfl) ?_
      refine lv_aload_n hx hb dX0_clocksInARow_5 rfl (lv_at hl 0 rfl) ?_
      refine va_get (D := D) (ci := 0) (v := .int (nI (s_n S))) (C := RX0) (T := TX0) (N := 9) hx hb hts hin hown hK hP 0 rfl rfl 5 (by decide) f_26 (fun _ h9 => h9) rfl dX0_clocksInARow_6 ?_
      refine xn_ge (i := i1) (j := (s_n S)) (tgt := 31) hx hb (by omega) (by omega) dX0_clocksInARow_9 (by decide) (fun c2 => ?_) (fun c2 => ?_)
      · exfalso; omega
      · refine lv_aload_n hx hb dX0_clocksInARow_12 rfl (lv_at hl 0 rfl) ?_
        refine lv_iload_n hx hb dX0_clocksInARow_13 rfl (lv_at hl 1 rfl) ?_
        refine lv_iload_n hx hb dX0_clocksInARow_14 rfl (lv_at hl 2 rfl) ?_
        refine lv_iload hx hb dX0_clocksInARow_15 (lv_at hl 5 rfl) ?_
        refine lv_iload hx hb dX0_clocksInARow_17 (lv_at hl 4 rfl) ?_
        refine rc_V (v := (zi (hc S w sg i1 b))) ⟨hx, hb, hml, hown, hts⟩ [.int w, .int sg, .int (nI i1), .int (nI b)] [] (c_X0_holdsOfClocks l D A K S hI w sg i1 b (by omega) (by omega)) (cwV 4 hts gX0_clocksInARow_X0_holdsOfClocks rfl rfl rfl (by decide +kernel) ⟨Nat.le_of_ble_eq_true rfl, Nat.le_of_ble_eq_true rfl⟩) hK hP (va_recv hK hP (ci := 0) (q0 := 0) rfl rfl) rfl hl.1 rfl (Nat.le_of_ble_eq_true rfl) ⟨Nat.zero_le _, Nat.zero_le _⟩ dX0_clocksInARow_19 ?_
        refine xz_eq (b := (hc S w sg i1 b)) (tgt := 31) hx hb dX0_clocksInARow_22 (by decide) (fun c3 => ?_) (fun c3 => ?_)
        · refine lv_iload hx hb dX0_clocksInARow_31 (lv_at hl 5 rfl) ?_
          refine lv_iload_n hx hb dX0_clocksInARow_33 rfl (lv_at hl 3 rfl) ?_
          refine xn_sub (i := i1) (j := a) hx hb (by omega) dX0_clocksInARow_34 ?_
          exact W.iret (v := (nI (i1 - a))) hx hb hr (fun t ht hW => ⟨_, rfl, by rw [hinv]; simp [wh, hai, hinv, c2, c3], ht⟩) (fun q h => by cases h) dX0_clocksInARow_35
        · refine lv_iinc (v := (nI (i1 + 1))) (lv' := [(5, .int (nI (i1 + 1))), (0, .ref (A 0)), (1, .int w), (2, .int sg), (3, .int (nI a)), (4, .int (nI b))]) hx hb dX0_clocksInARow_25 hl (k := 5) rfl (nI_add i1 1) (by decide) rfl (fun ls hl => ?_)
          refine lv_goto (tgt := 3) hx hb dX0_clocksInARow_28 (by decide) ?_
          exact ih (i1 + 1) (by omega) (by omega) (by rw [hinv, wh]; simp [hai, hinv, c2, c3]) ls (lv_sub hl [1, 2, 3, 4, 5, 0] rfl)
  exact L3 (s_n S - a) a (by omega) (Nat.le_refl _) (rfl) ls (lv_sub hl [1, 2, 3, 4, 5, 0] rfl)
set_option maxHeartbeats 4000000 in
set_option maxRecDepth 100000 in
theorem c_X0_sealsOn (l : Launch) (D : va_G) (A : Nat → Nat) (K : Nat → ClassId) (S : XS) (hI : x_inv S) : Met l yX0_sealsOn wsX0_sealsOn (rmD 1) (va_Pc [.ref (A 0)] (i_w D vwCl (wX A K S) (tX K))) (vp_Si (fun r => r = (nI (cn (s_sl S) (s_n S))))) 0 0 (fun _ => False) := by
  refine Met.ofW (cc := cX0_sealsOn) (maxL := 3) (ret := some .int) (by decide) rfl ?_
  intro p e s m args below meth c s₁ B hml hv
  obtain ⟨rfl, hP, hK⟩ := hv
  have hx := B.exec
  have hb := B.bytes
  have hr := B.returns
  have hts := atoms_spec (ws := wsX0_sealsOn) B.pre
  have hown : s.vm.findClass RX0 = some m.cls := findClass_of_methodNamed B.named
  have hlocks := B.notSynchronized
  have hn8 := hI.1
  have hin : ∀ w ∈ u_ws RX0 TX0 9, w ∈ wsX0_sealsOn := fun w h => List.mem_cons_of_mem _ (List.mem_append_right _ h)
  have f_22 := hts (.fieldLink RX0 22 "ChronoTrials" "seals" "[Z") (by decide +kernel)
  have f_26 := hts (.fieldLink RX0 26 "ChronoTrials" "clocks" "I") (by decide +kernel)
  have hl := lv_entry ([.ref (A 0)]) (n := 3) (Nat.le_of_ble_eq_true rfl)
  rw [lg_entry_eq]
  generalize (lg_sl ([.ref (A 0)]) ++ List.replicate (3 - (lg_sl ([.ref (A 0)])).length) Slot.unset).toArray = ls at hl ⊢
  have hl : lv_has ls 3 [(0, .ref (A 0))] := hl
  refine lv_iconst (v := 0) hx hb dX0_sealsOn_0 (by decide) ?_
  refine lv_istore_n (lv' := [(1, .int 0), (0, .ref (A 0))]) hx hb dX0_sealsOn_1 rfl hl (by decide) rfl (fun ls hl => ?_)
  refine lv_iconst (v := 0) hx hb dX0_sealsOn_2 (by decide) ?_
  refine lv_istore_n (lv' := [(2, .int 0), (1, .int 0), (0, .ref (A 0))]) hx hb dX0_sealsOn_3 rfl hl (by decide) rfl (fun ls hl => ?_)
  have L4 : ∀ (m1 i1 : Nat) (acc : Nat), i1 + m1 = s_n S → acc = cn (s_sl S) i1 → ∀ (ls : Array Slot), lv_has ls 3 [(0, .ref (A 0)), (1, .int (nI acc)), (2, .int (nI i1))] → W p l e (headSpec wsX0_sealsOn (rmD 1)).room s m ([.ref (A 0)] : List Value).toArray below meth c s.heap [] 0 0 (MQ below (vp_Si (fun r => r = (nI (cn (s_sl S) (s_n S))))) ([.ref (A 0)] : List Value).toArray s 0 0 (fun _ => False)) (F0 m 4 ls []) := by
    intro m1
    induction m1 with
    | zero =>
      intro i1 acc hm1 hacc ls hl
      refine lv_iload_n hx hb dX0_sealsOn_4 rfl (lv_at hl 2 rfl) ?_
      refine lv_aload_n hx hb dX0_sealsOn_5 rfl (lv_at hl 0 rfl) ?_
      refine va_get (D := D) (ci := 0) (v := .int (nI (s_n S))) (C := RX0) (T := TX0) (N := 9) hx hb hts hin hown hK hP 0 rfl rfl 5 (by decide) f_26 (fun _ h9 => h9) rfl dX0_sealsOn_6 ?_
      refine xn_ge (i := i1) (j := (s_n S)) (tgt := 30) hx hb (by omega) (by omega) dX0_sealsOn_9 (by decide) (fun c1 => ?_) (fun c1 => ?_)
      · refine lv_iload_n hx hb dX0_sealsOn_30 rfl (lv_at hl 1 rfl) ?_
        exact W.iret (v := (nI acc)) hx hb hr (fun t ht hW => ⟨_, rfl, by rw [hacc, show i1 = s_n S by omega]; try rfl, ht⟩) (fun q h => by cases h) dX0_sealsOn_31
      · exfalso; omega
    | succ m1 ih =>
      intro i1 acc hm1 hacc ls hl
      refine lv_iload_n hx hb dX0_sealsOn_4 rfl (lv_at hl 2 rfl) ?_
      refine lv_aload_n hx hb dX0_sealsOn_5 rfl (lv_at hl 0 rfl) ?_
      refine va_get (D := D) (ci := 0) (v := .int (nI (s_n S))) (C := RX0) (T := TX0) (N := 9) hx hb hts hin hown hK hP 0 rfl rfl 5 (by decide) f_26 (fun _ h9 => h9) rfl dX0_sealsOn_6 ?_
      refine xn_ge (i := i1) (j := (s_n S)) (tgt := 30) hx hb (by omega) (by omega) dX0_sealsOn_9 (by decide) (fun c2 => ?_) (fun c2 => ?_)
      · exfalso; omega
      · refine lv_iload_n hx hb dX0_sealsOn_12 rfl (lv_at hl 1 rfl) ?_
        refine lv_aload_n hx hb dX0_sealsOn_13 rfl (lv_at hl 0 rfl) ?_
        refine va_get (D := D) (ci := 0) (v := .ref (A 5)) (C := RX0) (T := TX0) (N := 9) hx hb hts hin hown hK hP 0 rfl rfl 4 (by decide) f_22 (fun _ h9 => h9) rfl dX0_sealsOn_14 ?_
        refine lv_iload_n hx hb dX0_sealsOn_17 rfl (lv_at hl 2 rfl) ?_
        refine xa_zld (i := i1) (v := (zi ((s_sl S) i1))) hx hb hK hP 5 4 rfl rfl (by omega) (by decide) (rfl) dX0_sealsOn_18 ?_
        refine rc_S (v := (zi ((s_sl S) i1))) ⟨hx, hb, hml, hown, hts⟩ [.int (zi ((s_sl S) i1))] [.int (nI acc)] (c_X0_oneIf l ((s_sl S) i1)) (va_cwS 1 hts gX0_sealsOn_X0_oneIf rfl rfl rfl (by decide +kernel) ⟨Nat.le_of_ble_eq_true rfl, Nat.le_of_ble_eq_true rfl⟩) rfl hl.1 rfl (Nat.le_of_ble_eq_true rfl) ⟨Nat.zero_le _, Nat.zero_le _⟩ dX0_sealsOn_19 ?_
        refine xz_add (i := acc) (b := ((s_sl S) i1)) hx hb dX0_sealsOn_22 ?_
        refine lv_istore_n (lv' := [(1, .int (nI (acc + b2 ((s_sl S) i1) 1))), (0, .ref (A 0)), (2, .int (nI i1))]) hx hb dX0_sealsOn_23 rfl hl (by decide) rfl (fun ls hl => ?_)
        refine lv_iinc (v := (nI (i1 + 1))) (lv' := [(2, .int (nI (i1 + 1))), (1, .int (nI (acc + b2 ((s_sl S) i1) 1))), (0, .ref (A 0))]) hx hb dX0_sealsOn_24 hl (k := 2) rfl (nI_add i1 1) (by decide) rfl (fun ls hl => ?_)
        refine lv_goto (tgt := 4) hx hb dX0_sealsOn_27 (by decide) ?_
        exact ih (i1 + 1) (acc + b2 ((s_sl S) i1) 1) (by omega) (by simp [cn, b2, hacc, c2]) ls (lv_sub hl [2, 1, 0] rfl)
  exact L4 (s_n S) 0 0 (by omega) (rfl) ls (lv_sub hl [2, 1, 0] rfl)
set_option maxHeartbeats 4000000 in
set_option maxRecDepth 100000 in
theorem c_X0_trialsOfAll (l : Launch) (D : va_G) (A : Nat → Nat) (K : Nat → ClassId) (S : XS) (hI : x_inv S) : Met l yX0_trialsOfAll wsX0_trialsOfAll (rmD 0) (va_Pc [.ref (A 0)] (i_w D vwCl (wX A K S) (tX K))) (vp_Si (fun r => r = (nI (sm (s_tr S) (s_n S))))) 0 0 (fun _ => False) := by
  refine Met.ofW (cc := cX0_trialsOfAll) (maxL := 3) (ret := some .int) (by decide) rfl ?_
  intro p e s m args below meth c s₁ B hml hv
  obtain ⟨rfl, hP, hK⟩ := hv
  have hx := B.exec
  have hb := B.bytes
  have hr := B.returns
  have hts := atoms_spec (ws := wsX0_trialsOfAll) B.pre
  have hown : s.vm.findClass RX0 = some m.cls := findClass_of_methodNamed B.named
  have hlocks := B.notSynchronized
  have hn8 := hI.1
  have hin : ∀ w ∈ u_ws RX0 TX0 9, w ∈ wsX0_trialsOfAll := fun w h => List.mem_cons_of_mem _ (List.mem_append_right _ h)
  have f_16 := hts (.fieldLink RX0 16 "ChronoTrials" "trialsOf" "[I") (by decide +kernel)
  have f_26 := hts (.fieldLink RX0 26 "ChronoTrials" "clocks" "I") (by decide +kernel)
  have hl := lv_entry ([.ref (A 0)]) (n := 3) (Nat.le_of_ble_eq_true rfl)
  rw [lg_entry_eq]
  generalize (lg_sl ([.ref (A 0)]) ++ List.replicate (3 - (lg_sl ([.ref (A 0)])).length) Slot.unset).toArray = ls at hl ⊢
  have hl : lv_has ls 3 [(0, .ref (A 0))] := hl
  refine lv_iconst (v := 0) hx hb dX0_trialsOfAll_0 (by decide) ?_
  refine lv_istore_n (lv' := [(1, .int 0), (0, .ref (A 0))]) hx hb dX0_trialsOfAll_1 rfl hl (by decide) rfl (fun ls hl => ?_)
  refine lv_iconst (v := 0) hx hb dX0_trialsOfAll_2 (by decide) ?_
  refine lv_istore_n (lv' := [(2, .int 0), (1, .int 0), (0, .ref (A 0))]) hx hb dX0_trialsOfAll_3 rfl hl (by decide) rfl (fun ls hl => ?_)
  have L4 : ∀ (m1 i1 : Nat) (acc : Nat), i1 + m1 = s_n S → acc = sm (s_tr S) i1 → ∀ (ls : Array Slot), lv_has ls 3 [(0, .ref (A 0)), (1, .int (nI acc)), (2, .int (nI i1))] → W p l e (headSpec wsX0_trialsOfAll (rmD 0)).room s m ([.ref (A 0)] : List Value).toArray below meth c s.heap [] 0 0 (MQ below (vp_Si (fun r => r = (nI (sm (s_tr S) (s_n S))))) ([.ref (A 0)] : List Value).toArray s 0 0 (fun _ => False)) (F0 m 4 ls []) := by
    intro m1
    induction m1 with
    | zero =>
      intro i1 acc hm1 hacc ls hl
      refine lv_iload_n hx hb dX0_trialsOfAll_4 rfl (lv_at hl 2 rfl) ?_
      refine lv_aload_n hx hb dX0_trialsOfAll_5 rfl (lv_at hl 0 rfl) ?_
      refine va_get (D := D) (ci := 0) (v := .int (nI (s_n S))) (C := RX0) (T := TX0) (N := 9) hx hb hts hin hown hK hP 0 rfl rfl 5 (by decide) f_26 (fun _ h9 => h9) rfl dX0_trialsOfAll_6 ?_
      refine xn_ge (i := i1) (j := (s_n S)) (tgt := 27) hx hb (by omega) (by omega) dX0_trialsOfAll_9 (by decide) (fun c1 => ?_) (fun c1 => ?_)
      · refine lv_iload_n hx hb dX0_trialsOfAll_27 rfl (lv_at hl 1 rfl) ?_
        exact W.iret (v := (nI acc)) hx hb hr (fun t ht hW => ⟨_, rfl, by rw [hacc, show i1 = s_n S by omega]; try rfl, ht⟩) (fun q h => by cases h) dX0_trialsOfAll_28
      · exfalso; omega
    | succ m1 ih =>
      intro i1 acc hm1 hacc ls hl
      refine lv_iload_n hx hb dX0_trialsOfAll_4 rfl (lv_at hl 2 rfl) ?_
      refine lv_aload_n hx hb dX0_trialsOfAll_5 rfl (lv_at hl 0 rfl) ?_
      refine va_get (D := D) (ci := 0) (v := .int (nI (s_n S))) (C := RX0) (T := TX0) (N := 9) hx hb hts hin hown hK hP 0 rfl rfl 5 (by decide) f_26 (fun _ h9 => h9) rfl dX0_trialsOfAll_6 ?_
      refine xn_ge (i := i1) (j := (s_n S)) (tgt := 27) hx hb (by omega) (by omega) dX0_trialsOfAll_9 (by decide) (fun c2 => ?_) (fun c2 => ?_)
      · exfalso; omega
      · refine lv_iload_n hx hb dX0_trialsOfAll_12 rfl (lv_at hl 1 rfl) ?_
        refine lv_aload_n hx hb dX0_trialsOfAll_13 rfl (lv_at hl 0 rfl) ?_
        refine va_get (D := D) (ci := 0) (v := .ref (A 3)) (C := RX0) (T := TX0) (N := 9) hx hb hts hin hown hK hP 0 rfl rfl 2 (by decide) f_16 (fun _ h9 => h9) rfl dX0_trialsOfAll_14 ?_
        refine lv_iload_n hx hb dX0_trialsOfAll_17 rfl (lv_at hl 2 rfl) ?_
        refine xa_ld (i := i1) (v := (nI ((s_tr S) i1))) hx hb hK hP 3 2 rfl rfl (by omega) (by decide) (rfl) dX0_trialsOfAll_18 ?_
        refine xn_add (i := acc) (j := ((s_tr S) i1)) hx hb dX0_trialsOfAll_19 ?_
        refine lv_istore_n (lv' := [(1, .int (nI (acc + ((s_tr S) i1)))), (0, .ref (A 0)), (2, .int (nI i1))]) hx hb dX0_trialsOfAll_20 rfl hl (by decide) rfl (fun ls hl => ?_)
        refine lv_iinc (v := (nI (i1 + 1))) (lv' := [(2, .int (nI (i1 + 1))), (1, .int (nI (acc + ((s_tr S) i1)))), (0, .ref (A 0))]) hx hb dX0_trialsOfAll_21 hl (k := 2) rfl (nI_add i1 1) (by decide) rfl (fun ls hl => ?_)
        refine lv_goto (tgt := 4) hx hb dX0_trialsOfAll_24 (by decide) ?_
        exact ih (i1 + 1) (acc + ((s_tr S) i1)) (by omega) (by simp [sm, hacc, c2]) ls (lv_sub hl [2, 1, 0] rfl)
  exact L4 (s_n S) 0 0 (by omega) (rfl) ls (lv_sub hl [2, 1, 0] rfl)
set_option maxHeartbeats 4000000 in
set_option maxRecDepth 100000 in
theorem c_X0_firstOfTheBest (l : Launch) (D : va_G) (A : Nat → Nat) (K : Nat → ClassId) (S : XS) (hI : x_inv S) : Met l yX0_firstOfTheBest wsX0_firstOfTheBest (rmD 3) (va_Pc [.ref (A 0)] (i_w D vwCl (wX A K S) (tX K))) (vp_Si (fun r => r = (x_first S))) 0 0 (fun _ => False) := by
  refine Met.ofW (cc := cX0_firstOfTheBest) (maxL := 4) (ret := some .int) (by decide) rfl ?_
  intro p e s m args below meth c s₁ B hml hv
  obtain ⟨rfl, hP, hK⟩ := hv
  have hx := B.exec
  have hb := B.bytes
  have hr := B.returns
  have hts := atoms_spec (ws := wsX0_firstOfTheBest) B.pre
  have hown : s.vm.findClass RX0 = some m.cls := findClass_of_methodNamed B.named
  have hlocks := B.notSynchronized
  have hn8 := hI.1
  have hin : ∀ w ∈ u_ws RX0 TX0 9, w ∈ wsX0_firstOfTheBest := fun w h => List.mem_cons_of_mem _ (List.mem_append_right _ h)
  have f_19 := hts (.fieldLink RX0 19 "ChronoTrials" "bests" "[I") (by decide +kernel)
  have f_26 := hts (.fieldLink RX0 26 "ChronoTrials" "clocks" "I") (by decide +kernel)
  have hl := lv_entry ([.ref (A 0)]) (n := 4) (Nat.le_of_ble_eq_true rfl)
  rw [lg_entry_eq]
  generalize (lg_sl ([.ref (A 0)]) ++ List.replicate (4 - (lg_sl ([.ref (A 0)])).length) Slot.unset).toArray = ls at hl ⊢
  have hl : lv_has ls 4 [(0, .ref (A 0))] := hl
  refine lv_iconst (v := (-1)) hx hb dX0_firstOfTheBest_0 (by decide) ?_
  refine lv_istore_n (lv' := [(1, .int (-1)), (0, .ref (A 0))]) hx hb dX0_firstOfTheBest_1 rfl hl (by decide) rfl (fun ls hl => ?_)
  refine lv_iconst (v := (-1)) hx hb dX0_firstOfTheBest_2 (by decide) ?_
  refine lv_istore_n (lv' := [(2, .int (-1)), (1, .int (-1)), (0, .ref (A 0))]) hx hb dX0_firstOfTheBest_3 rfl hl (by decide) rfl (fun ls hl => ?_)
  refine lv_iconst (v := 0) hx hb dX0_firstOfTheBest_4 (by decide) ?_
  refine lv_istore_n (lv' := [(3, .int 0), (2, .int (-1)), (1, .int (-1)), (0, .ref (A 0))]) hx hb dX0_firstOfTheBest_5 rfl hl (by decide) rfl (fun ls hl => ?_)
  have L6 : ∀ (m1 i1 : Nat) (fi : Int32) (le : Int32), i1 + m1 = s_n S → fbl (s_bs S) i1 = (fi, le) → ∀ (ls : Array Slot), lv_has ls 4 [(0, .ref (A 0)), (1, .int fi), (2, .int le), (3, .int (nI i1))] → W p l e (headSpec wsX0_firstOfTheBest (rmD 3)).room s m ([.ref (A 0)] : List Value).toArray below meth c s.heap [] 0 0 (MQ below (vp_Si (fun r => r = (x_first S))) ([.ref (A 0)] : List Value).toArray s 0 0 (fun _ => False)) (F0 m 6 ls []) := by
    intro m1
    induction m1 with
    | zero =>
      intro i1 fi le hm1 hacc ls hl
      refine lv_iload_n hx hb dX0_firstOfTheBest_6 rfl (lv_at hl 3 rfl) ?_
      refine lv_aload_n hx hb dX0_firstOfTheBest_7 rfl (lv_at hl 0 rfl) ?_
      refine va_get (D := D) (ci := 0) (v := .int (nI (s_n S))) (C := RX0) (T := TX0) (N := 9) hx hb hts hin hown hK hP 0 rfl rfl 5 (by decide) f_26 (fun _ h9 => h9) rfl dX0_firstOfTheBest_8 ?_
      refine xn_ge (i := i1) (j := (s_n S)) (tgt := 42) hx hb (by omega) (by omega) dX0_firstOfTheBest_11 (by decide) (fun c1 => ?_) (fun c1 => ?_)
      · refine lv_iload_n hx hb dX0_firstOfTheBest_42 rfl (lv_at hl 1 rfl) ?_
        exact W.iret (v := fi) hx hb hr (fun t ht hW => ⟨_, rfl, by rw [x_first, show s_n S = i1 by omega, hacc], ht⟩) (fun q h => by cases h) dX0_firstOfTheBest_43
      · exfalso; omega
    | succ m1 ih =>
      intro i1 fi le hm1 hacc ls hl
      refine lv_iload_n hx hb dX0_firstOfTheBest_6 rfl (lv_at hl 3 rfl) ?_
      refine lv_aload_n hx hb dX0_firstOfTheBest_7 rfl (lv_at hl 0 rfl) ?_
      refine va_get (D := D) (ci := 0) (v := .int (nI (s_n S))) (C := RX0) (T := TX0) (N := 9) hx hb hts hin hown hK hP 0 rfl rfl 5 (by decide) f_26 (fun _ h9 => h9) rfl dX0_firstOfTheBest_8 ?_
      refine xn_ge (i := i1) (j := (s_n S)) (tgt := 42) hx hb (by omega) (by omega) dX0_firstOfTheBest_11 (by decide) (fun c2 => ?_) (fun c2 => ?_)
      · exfalso; omega
      · refine lv_aload_n hx hb dX0_firstOfTheBest_14 rfl (lv_at hl 0 rfl) ?_
        refine va_get (D := D) (ci := 0) (v := .ref (A 4)) (C := RX0) (T := TX0) (N := 9) hx hb hts hin hown hK hP 0 rfl rfl 3 (by decide) f_19 (fun _ h9 => h9) rfl dX0_firstOfTheBest_15 ?_
        refine lv_iload_n hx hb dX0_firstOfTheBest_18 rfl (lv_at hl 3 rfl) ?_
        refine xa_ld (i := i1) (v := ((s_bs S) i1)) hx hb hK hP 4 3 rfl rfl (by omega) (by decide) (rfl) dX0_firstOfTheBest_19 ?_
        refine lv_iload_n hx hb dX0_firstOfTheBest_20 rfl (lv_at hl 2 rfl) ?_
        refine rc_S (v := (zi (be ((s_bs S) i1) le))) ⟨hx, hb, hml, hown, hts⟩ [.int ((s_bs S) i1), .int le] [] (c_X0_betters l ((s_bs S) i1) le) (va_cwS 2 hts gX0_firstOfTheBest_X0_betters rfl rfl rfl (by decide +kernel) ⟨Nat.le_of_ble_eq_true rfl, Nat.le_of_ble_eq_true rfl⟩) rfl hl.1 rfl (Nat.le_of_ble_eq_true rfl) ⟨Nat.zero_le _, Nat.zero_le _⟩ dX0_firstOfTheBest_21 ?_
        refine xz_eq (b := (be ((s_bs S) i1) le)) (tgt := 36) hx hb dX0_firstOfTheBest_24 (by decide) (fun c3 => ?_) (fun c3 => ?_)
        · refine lv_iinc (v := (nI (i1 + 1))) (lv' := [(3, .int (nI (i1 + 1))), (0, .ref (A 0)), (1, .int fi), (2, .int le)]) hx hb dX0_firstOfTheBest_36 hl (k := 3) rfl (nI_add i1 1) (by decide) rfl (fun ls hl => ?_)
          refine lv_goto (tgt := 6) hx hb dX0_firstOfTheBest_39 (by decide) ?_
          exact ih (i1 + 1) fi le (by omega) (by rw [fbl, hacc]; simp [hacc, c2, c3]) ls (lv_sub hl [1, 2, 3, 0] rfl)
        · refine lv_iload_n hx hb dX0_firstOfTheBest_27 rfl (lv_at hl 3 rfl) ?_
          refine lv_istore_n (lv' := [(1, .int (nI i1)), (0, .ref (A 0)), (2, .int le), (3, .int (nI i1))]) hx hb dX0_firstOfTheBest_28 rfl hl (by decide) rfl (fun ls hl => ?_)
          refine lv_aload_n hx hb dX0_firstOfTheBest_29 rfl (lv_at hl 1 rfl) ?_
          refine va_get (D := D) (ci := 0) (v := .ref (A 4)) (C := RX0) (T := TX0) (N := 9) hx hb hts hin hown hK hP 0 rfl rfl 3 (by decide) f_19 (fun _ h9 => h9) rfl dX0_firstOfTheBest_30 ?_
          refine lv_iload_n hx hb dX0_firstOfTheBest_33 rfl (lv_at hl 3 rfl) ?_
          refine xa_ld (i := i1) (v := ((s_bs S) i1)) hx hb hK hP 4 3 rfl rfl (by omega) (by decide) (rfl) dX0_firstOfTheBest_34 ?_
          refine lv_istore_n (lv' := [(2, .int ((s_bs S) i1)), (1, .int (nI i1)), (0, .ref (A 0)), (3, .int (nI i1))]) hx hb dX0_firstOfTheBest_35 rfl hl (by decide) rfl (fun ls hl => ?_)
          refine lv_iinc (v := (nI (i1 + 1))) (lv' := [(3, .int (nI (i1 + 1))), (2, .int ((s_bs S) i1)), (1, .int (nI i1)), (0, .ref (A 0))]) hx hb dX0_firstOfTheBest_36 hl (k := 3) rfl (nI_add i1 1) (by decide) rfl (fun ls hl => ?_)
          refine lv_goto (tgt := 6) hx hb dX0_firstOfTheBest_39 (by decide) ?_
          exact ih (i1 + 1) (nI i1) ((s_bs S) i1) (by omega) (by rw [fbl, hacc]; simp [hacc, c2, c3]) ls (lv_sub hl [3, 2, 1, 0] rfl)
  exact L6 (s_n S) 0 (-1) (-1) (by omega) (rfl) ls (lv_sub hl [3, 2, 1, 0] rfl)
end
section
set_option maxHeartbeats 4000000 in
set_option maxRecDepth 100000 in
theorem c_X0_place (l : Launch) (D : va_G) (A : Nat → Nat) (K : Nat → ClassId) (S : XS) (hI : x_inv S) (v : Int32) : Met l yX0_place wsX0_place (rmD 5) (va_Pc [.ref (A 0), .int v] (i_w D vwCl (wX A K S) (tX K))) (vp_Si (fun r => r = (x_place S v))) 0 0 (fun _ => False) := by
  refine Met.ofW (cc := cX0_place) (maxL := 3) (ret := some .int) (by decide) rfl ?_
  intro p e s m args below meth c s₁ B hml hv
  obtain ⟨rfl, hP, hK⟩ := hv
  have hx := B.exec
  have hb := B.bytes
  have hr := B.returns
  have hts := atoms_spec (ws := wsX0_place) B.pre
  have hown : s.vm.findClass RX0 = some m.cls := findClass_of_methodNamed B.named
  have hlocks := B.notSynchronized
  have hn8 := hI.1
  have hin : ∀ w ∈ u_ws RX0 TX0 9, w ∈ wsX0_place := fun w h => List.mem_cons_of_mem _ (List.mem_append_right _ h)
  have f_26 := hts (.fieldLink RX0 26 "ChronoTrials" "clocks" "I") (by decide +kernel)
  have hl := lv_entry ([.ref (A 0), .int v]) (n := 3) (Nat.le_of_ble_eq_true rfl)
  rw [lg_entry_eq]
  generalize (lg_sl ([.ref (A 0), .int v]) ++ List.replicate (3 - (lg_sl ([.ref (A 0), .int v])).length) Slot.unset).toArray = ls at hl ⊢
  have hl : lv_has ls 3 [(0, .ref (A 0)), (1, .int v)] := hl
  refine lv_iconst (v := 0) hx hb dX0_place_0 (by decide) ?_
  refine lv_istore_n (lv' := [(2, .int 0), (0, .ref (A 0)), (1, .int v)]) hx hb dX0_place_1 rfl hl (by decide) rfl (fun ls hl => ?_)
  have L2 : ∀ (m1 i1 : Nat), i1 + m1 = s_n S → x_place S v = ff (fun c => decide (nI (x_ahead S c) = v)) m1 i1 → ∀ (ls : Array Slot), lv_has ls 3 [(0, .ref (A 0)), (1, .int v), (2, .int (nI i1))] → W p l e (headSpec wsX0_place (rmD 5)).room s m ([.ref (A 0), .int v] : List Value).toArray below meth c s.heap [] 0 0 (MQ below (vp_Si (fun r => r = (x_place S v))) ([.ref (A 0), .int v] : List Value).toArray s 0 0 (fun _ => False)) (F0 m 2 ls []) := by
    intro m1
    induction m1 with
    | zero =>
      intro i1 hm1 hinv ls hl
      refine lv_iload_n hx hb dX0_place_2 rfl (lv_at hl 2 rfl) ?_
      refine lv_aload_n hx hb dX0_place_3 rfl (lv_at hl 0 rfl) ?_
      refine va_get (D := D) (ci := 0) (v := .int (nI (s_n S))) (C := RX0) (T := TX0) (N := 9) hx hb hts hin hown hK hP 0 rfl rfl 5 (by decide) f_26 (fun _ h9 => h9) rfl dX0_place_4 ?_
      refine xn_ge (i := i1) (j := (s_n S)) (tgt := 27) hx hb (by omega) (by omega) dX0_place_7 (by decide) (fun c1 => ?_) (fun c1 => ?_)
      · refine lv_iconst (v := (-1)) hx hb dX0_place_27 (by decide) ?_
        exact W.iret (v := (-1)) hx hb hr (fun t ht hW => ⟨_, rfl, by rw [hinv]; simp [ff, hinv, c1], ht⟩) (fun q h => by cases h) dX0_place_28
      · exfalso; omega
    | succ m1 ih =>
      intro i1 hm1 hinv ls hl
      refine lv_iload_n hx hb dX0_place_2 rfl (lv_at hl 2 rfl) ?_
      refine lv_aload_n hx hb dX0_place_3 rfl (lv_at hl 0 rfl) ?_
      refine va_get (D := D) (ci := 0) (v := .int (nI (s_n S))) (C := RX0) (T := TX0) (N := 9) hx hb hts hin hown hK hP 0 rfl rfl 5 (by decide) f_26 (fun _ h9 => h9) rfl dX0_place_4 ?_
      refine xn_ge (i := i1) (j := (s_n S)) (tgt := 27) hx hb (by omega) (by omega) dX0_place_7 (by decide) (fun c2 => ?_) (fun c2 => ?_)
      · exfalso; omega
      · refine lv_aload_n hx hb dX0_place_10 rfl (lv_at hl 0 rfl) ?_
        refine lv_iload_n hx hb dX0_place_11 rfl (lv_at hl 2 rfl) ?_
        refine rc_V (v := (nI (x_ahead S i1))) ⟨hx, hb, hml, hown, hts⟩ [.int (nI i1)] [] (c_X0_clocksAhead l D A K S hI i1 (by omega)) (cwV 1 hts gX0_place_X0_clocksAhead rfl rfl rfl (by decide +kernel) ⟨Nat.le_of_ble_eq_true rfl, Nat.le_of_ble_eq_true rfl⟩) hK hP (va_recv hK hP (ci := 0) (q0 := 0) rfl rfl) rfl hl.1 rfl (Nat.le_of_ble_eq_true rfl) ⟨Nat.zero_le _, Nat.zero_le _⟩ dX0_place_12 ?_
        refine lv_iload_n hx hb dX0_place_15 rfl (lv_at hl 1 rfl) ?_
        refine lv_icmp_ne (tgt := 21) hx hb dX0_place_16 (by decide) (fun c3 => ?_) (fun c3 => ?_)
        · refine lv_iinc (v := (nI (i1 + 1))) (lv' := [(2, .int (nI (i1 + 1))), (0, .ref (A 0)), (1, .int v)]) hx hb dX0_place_21 hl (k := 2) rfl (nI_add i1 1) (by decide) rfl (fun ls hl => ?_)
          refine lv_goto (tgt := 2) hx hb dX0_place_24 (by decide) ?_
          exact ih (i1 + 1) (by omega) (by rw [hinv, ff]; simp [hinv, c2, c3]) ls (lv_sub hl [1, 2, 0] rfl)
        · refine lv_iload_n hx hb dX0_place_19 rfl (lv_at hl 2 rfl) ?_
          exact W.iret (v := (nI i1)) hx hb hr (fun t ht hW => ⟨_, rfl, by rw [hinv]; simp [ff, hinv, c2, c3], ht⟩) (fun q h => by cases h) dX0_place_20
  exact L2 (s_n S) 0 (by omega) (rfl) ls (lv_sub hl [1, 2, 0] rfl)
set_option maxHeartbeats 4000000 in
set_option maxRecDepth 100000 in
theorem c_X0_tell (l : Launch) (D : va_G) (A : Nat → Nat) (K : Nat → ClassId) (S : XS) (hI : x_inv S) (v : Int32) (w : Int32) : Met l yX0_tell wsX0_tell (rmD 4) (va_Pc [.ref (A 0), .int v, .int w] (i_w D vwCl (wX A K S) (tX K))) (vp_Si (fun r => r = (x_tell S v w))) 0 0 (fun _ => False) := by
  refine Met.ofW (cc := cX0_tell) (maxL := 3) (ret := some .int) (by decide) rfl ?_
  intro p e s m args below meth c s₁ B hml hv
  obtain ⟨rfl, hP, hK⟩ := hv
  have hx := B.exec
  have hb := B.bytes
  have hr := B.returns
  have hts := atoms_spec (ws := wsX0_tell) B.pre
  have hown : s.vm.findClass RX0 = some m.cls := findClass_of_methodNamed B.named
  have hlocks := B.notSynchronized
  have hn8 := hI.1
  have hin : ∀ w ∈ u_ws RX0 TX0 9, w ∈ wsX0_tell := fun w h => List.mem_cons_of_mem _ (List.mem_append_right _ h)
  have f_16 := hts (.fieldLink RX0 16 "ChronoTrials" "trialsOf" "[I") (by decide +kernel)
  have f_19 := hts (.fieldLink RX0 19 "ChronoTrials" "bests" "[I") (by decide +kernel)
  have f_22 := hts (.fieldLink RX0 22 "ChronoTrials" "seals" "[Z") (by decide +kernel)
  have hl := lv_entry ([.ref (A 0), .int v, .int w]) (n := 3) (Nat.le_of_ble_eq_true rfl)
  rw [lg_entry_eq]
  generalize (lg_sl ([.ref (A 0), .int v, .int w]) ++ List.replicate (3 - (lg_sl ([.ref (A 0), .int v, .int w])).length) Slot.unset).toArray = ls at hl ⊢
  have hl : lv_has ls 3 [(0, .ref (A 0)), (1, .int v), (2, .int w)] := hl
  refine lv_aload_n hx hb dX0_tell_0 rfl (lv_at hl 0 rfl) ?_
  refine lv_iload_n hx hb dX0_tell_1 rfl (lv_at hl 1 rfl) ?_
  refine rc_V (v := (zi (isClk S v))) ⟨hx, hb, hml, hown, hts⟩ [.int v] [] (c_X0_isClock l D A K S hI v) (cwV 1 hts gX0_tell_X0_isClock rfl rfl rfl (by decide +kernel) ⟨Nat.le_of_ble_eq_true rfl, Nat.le_of_ble_eq_true rfl⟩) hK hP (va_recv hK hP (ci := 0) (q0 := 0) rfl rfl) rfl hl.1 rfl (Nat.le_of_ble_eq_true rfl) ⟨Nat.zero_le _, Nat.zero_le _⟩ dX0_tell_2 ?_
  refine xz_ne (b := (isClk S v)) (tgt := 10) hx hb dX0_tell_5 (by decide) (fun c1 => ?_) (fun c1 => ?_)
  · obtain ⟨a, ha, rfl⟩ := isClk_ex c1 hn8
    have ea : (nI a).toNatClampNeg = a := nI_clamp (by omega)
    have ht6 := hI.2 a
    refine lv_iload_n hx hb dX0_tell_10 rfl (lv_at hl 2 rfl) ?_
    by_cases w2 : w = 0
    · refine lv_tableIn (tgt := 52) hx hb dX0_tell_11 (by rw [w2]; decide) (by rw [w2]; decide) (by rw [w2]; rfl) (by decide) ?_
      refine lv_aload_n hx hb dX0_tell_52 rfl (lv_at hl 0 rfl) ?_
      refine va_get (D := D) (ci := 0) (v := .ref (A 3)) (C := RX0) (T := TX0) (N := 9) hx hb hts hin hown hK hP 0 rfl rfl 2 (by decide) f_16 (fun _ h9 => h9) rfl dX0_tell_53 ?_
      refine lv_iload_n hx hb dX0_tell_56 rfl (lv_at hl 1 rfl) ?_
      refine xa_ld (i := a) (v := (nI ((s_tr S) a))) hx hb hK hP 3 2 rfl rfl (by omega) (by decide) (rfl) dX0_tell_57 ?_
      exact W.iret (v := (nI ((s_tr S) a))) hx hb hr (fun t ht hW => ⟨_, rfl, by simp [x_tell, tl, c1, ea, w2], ht⟩) (fun q h => by cases h) dX0_tell_58
    by_cases w3 : w = 1
    · refine lv_tableIn (tgt := 59) hx hb dX0_tell_11 (by rw [w3]; decide) (by rw [w3]; decide) (by rw [w3]; rfl) (by decide) ?_
      refine lv_aload_n hx hb dX0_tell_59 rfl (lv_at hl 0 rfl) ?_
      refine va_get (D := D) (ci := 0) (v := .ref (A 4)) (C := RX0) (T := TX0) (N := 9) hx hb hts hin hown hK hP 0 rfl rfl 3 (by decide) f_19 (fun _ h9 => h9) rfl dX0_tell_60 ?_
      refine lv_iload_n hx hb dX0_tell_63 rfl (lv_at hl 1 rfl) ?_
      refine xa_ld (i := a) (v := ((s_bs S) a)) hx hb hK hP 4 3 rfl rfl (by omega) (by decide) (rfl) dX0_tell_64 ?_
      exact W.iret (v := ((s_bs S) a)) hx hb hr (fun t ht hW => ⟨_, rfl, by simp [x_tell, tl, c1, ea, w2, w3], ht⟩) (fun q h => by cases h) dX0_tell_65
    by_cases w4 : w = 2
    · refine lv_tableIn (tgt := 66) hx hb dX0_tell_11 (by rw [w4]; decide) (by rw [w4]; decide) (by rw [w4]; rfl) (by decide) ?_
      refine lv_aload_n hx hb dX0_tell_66 rfl (lv_at hl 0 rfl) ?_
      refine lv_iload_n hx hb dX0_tell_67 rfl (lv_at hl 1 rfl) ?_
      refine rc_V (v := (nI (x_rank S a))) ⟨hx, hb, hml, hown, hts⟩ [.int (nI a)] [] (c_X0_rank l D A K S hI a (by omega)) (cwV 1 hts gX0_tell_X0_rank rfl rfl rfl (by decide +kernel) ⟨Nat.le_of_ble_eq_true rfl, Nat.le_of_ble_eq_true rfl⟩) hK hP (va_recv hK hP (ci := 0) (q0 := 0) rfl rfl) rfl hl.1 rfl (Nat.le_of_ble_eq_true rfl) ⟨Nat.zero_le _, Nat.zero_le _⟩ dX0_tell_68 ?_
      exact W.iret (v := (nI (x_rank S a))) hx hb hr (fun t ht hW => ⟨_, rfl, by simp [x_tell, tl, c1, ea, w2, w3, w4], ht⟩) (fun q h => by cases h) dX0_tell_71
    by_cases w5 : w = 3
    · refine lv_tableIn (tgt := 72) hx hb dX0_tell_11 (by rw [w5]; decide) (by rw [w5]; decide) (by rw [w5]; rfl) (by decide) ?_
      refine lv_aload_n hx hb dX0_tell_72 rfl (lv_at hl 0 rfl) ?_
      refine va_get (D := D) (ci := 0) (v := .ref (A 5)) (C := RX0) (T := TX0) (N := 9) hx hb hts hin hown hK hP 0 rfl rfl 4 (by decide) f_22 (fun _ h9 => h9) rfl dX0_tell_73 ?_
      refine lv_iload_n hx hb dX0_tell_76 rfl (lv_at hl 1 rfl) ?_
      refine xa_zld (i := a) (v := (zi ((s_sl S) a))) hx hb hK hP 5 4 rfl rfl (by omega) (by decide) (rfl) dX0_tell_77 ?_
      refine rc_S (v := (zi ((s_sl S) a))) ⟨hx, hb, hml, hown, hts⟩ [.int (zi ((s_sl S) a))] [] (c_X0_oneIf l ((s_sl S) a)) (va_cwS 1 hts gX0_tell_X0_oneIf rfl rfl rfl (by decide +kernel) ⟨Nat.le_of_ble_eq_true rfl, Nat.le_of_ble_eq_true rfl⟩) rfl hl.1 rfl (Nat.le_of_ble_eq_true rfl) ⟨Nat.zero_le _, Nat.zero_le _⟩ dX0_tell_78 ?_
      exact W.iret (v := (zi ((s_sl S) a))) hx hb hr (fun t ht hW => ⟨_, rfl, by simp [x_tell, tl, c1, ea, w2, w3, w4, w5], ht⟩) (fun q h => by cases h) dX0_tell_81
    by_cases w6 : w = 4
    · refine lv_tableIn (tgt := 82) hx hb dX0_tell_11 (by rw [w6]; decide) (by rw [w6]; decide) (by rw [w6]; rfl) (by decide) ?_
      refine lv_aload_n hx hb dX0_tell_82 rfl (lv_at hl 0 rfl) ?_
      refine lv_iload_n hx hb dX0_tell_83 rfl (lv_at hl 1 rfl) ?_
      refine rc_V (v := (nI (x_cold S a))) ⟨hx, hb, hml, hown, hts⟩ [.int (nI a)] [] (c_X0_coldTrials l D A K S hI a (by omega)) (cwV 1 hts gX0_tell_X0_coldTrials rfl rfl rfl (by decide +kernel) ⟨Nat.le_of_ble_eq_true rfl, Nat.le_of_ble_eq_true rfl⟩) hK hP (va_recv hK hP (ci := 0) (q0 := 0) rfl rfl) rfl hl.1 rfl (Nat.le_of_ble_eq_true rfl) ⟨Nat.zero_le _, Nat.zero_le _⟩ dX0_tell_84 ?_
      exact W.iret (v := (nI (x_cold S a))) hx hb hr (fun t ht hW => ⟨_, rfl, by simp [x_tell, tl, c1, ea, w2, w3, w4, w5, w6], ht⟩) (fun q h => by cases h) dX0_tell_87
    by_cases w7 : w = 5
    · refine lv_tableIn (tgt := 88) hx hb dX0_tell_11 (by rw [w7]; decide) (by rw [w7]; decide) (by rw [w7]; rfl) (by decide) ?_
      refine lv_aload_n hx hb dX0_tell_88 rfl (lv_at hl 0 rfl) ?_
      refine lv_iload_n hx hb dX0_tell_89 rfl (lv_at hl 1 rfl) ?_
      refine rc_V (v := (nI (x_more S a))) ⟨hx, hb, hml, hown, hts⟩ [.int (nI a)] [] (c_X0_trialsAheadOfBest l D A K S hI a (by omega)) (cwV 1 hts gX0_tell_X0_trialsAheadOfBest rfl rfl rfl (by decide +kernel) ⟨Nat.le_of_ble_eq_true rfl, Nat.le_of_ble_eq_true rfl⟩) hK hP (va_recv hK hP (ci := 0) (q0 := 0) rfl rfl) rfl hl.1 rfl (Nat.le_of_ble_eq_true rfl) ⟨Nat.zero_le _, Nat.zero_le _⟩ dX0_tell_90 ?_
      exact W.iret (v := (nI (x_more S a))) hx hb hr (fun t ht hW => ⟨_, rfl, by simp [x_tell, tl, c1, ea, w2, w3, w4, w5, w6, w7], ht⟩) (fun q h => by cases h) dX0_tell_93
    by_cases w8 : w = 6
    · refine lv_tableIn (tgt := 94) hx hb dX0_tell_11 (by rw [w8]; decide) (by rw [w8]; decide) (by rw [w8]; rfl) (by decide) ?_
      refine lv_aload_n hx hb dX0_tell_94 rfl (lv_at hl 0 rfl) ?_
      refine lv_iload_n hx hb dX0_tell_95 rfl (lv_at hl 1 rfl) ?_
      refine rc_V (v := (lc S a)) ⟨hx, hb, hml, hown, hts⟩ [.int (nI a)] [] (c_X0_latestChill l D A K S hI a (by omega)) (cwV 1 hts gX0_tell_X0_latestChill rfl rfl rfl (by decide +kernel) ⟨Nat.le_of_ble_eq_true rfl, Nat.le_of_ble_eq_true rfl⟩) hK hP (va_recv hK hP (ci := 0) (q0 := 0) rfl rfl) rfl hl.1 rfl (Nat.le_of_ble_eq_true rfl) ⟨Nat.zero_le _, Nat.zero_le _⟩ dX0_tell_96 ?_
      exact W.iret (v := (lc S a)) hx hb hr (fun t ht hW => ⟨_, rfl, by simp [x_tell, tl, c1, ea, w2, w3, w4, w5, w6, w7, w8], ht⟩) (fun q h => by cases h) dX0_tell_99
    refine lv_tableOut (tgt := 100) hx hb dX0_tell_11 (by have tw2 := lv_neT (a := 0) w2 rfl; have tw3 := lv_neT (a := 1) w3 rfl; have tw4 := lv_neT (a := 2) w4 rfl; have tw5 := lv_neT (a := 3) w5 rfl; have tw6 := lv_neT (a := 4) w6 rfl; have tw7 := lv_neT (a := 5) w7 rfl; have tw8 := lv_neT (a := 6) w8 rfl; omega) (by decide) ?_
    refine lv_iconst (v := (-1)) hx hb dX0_tell_100 (by decide) ?_
    exact W.iret (v := (-1)) hx hb hr (fun t ht hW => ⟨_, rfl, by simp [x_tell, tl, c1, ea, w2, w3, w4, w5, w6, w7, w8], ht⟩) (fun q h => by cases h) dX0_tell_101
  · refine lv_iconst (v := (-1)) hx hb dX0_tell_8 (by decide) ?_
    exact W.iret (v := (-1)) hx hb hr (fun t ht hW => ⟨_, rfl, by simp [x_tell, tl, c1], ht⟩) (fun q h => by cases h) dX0_tell_9
set_option maxHeartbeats 4000000 in
set_option maxRecDepth 100000 in
theorem c_X0_count (l : Launch) (D : va_G) (A : Nat → Nat) (K : Nat → ClassId) (S : XS) (hI : x_inv S) (w : Int32) : Met l yX0_count wsX0_count (rmD 4) (va_Pc [.ref (A 0), .int w] (i_w D vwCl (wX A K S) (tX K))) (vp_Si (fun r => r = (ct (x_first S) S w))) 0 0 (fun _ => False) := by
  refine Met.ofW (cc := cX0_count) (maxL := 2) (ret := some .int) (by decide) rfl ?_
  intro p e s m args below meth c s₁ B hml hv
  obtain ⟨rfl, hP, hK⟩ := hv
  have hx := B.exec
  have hb := B.bytes
  have hr := B.returns
  have hts := atoms_spec (ws := wsX0_count) B.pre
  have hown : s.vm.findClass RX0 = some m.cls := findClass_of_methodNamed B.named
  have hlocks := B.notSynchronized
  have hn8 := hI.1
  have hin : ∀ w ∈ u_ws RX0 TX0 9, w ∈ wsX0_count := fun w h => List.mem_cons_of_mem _ (List.mem_append_right _ h)
  have f_26 := hts (.fieldLink RX0 26 "ChronoTrials" "clocks" "I") (by decide +kernel)
  have f_30 := hts (.fieldLink RX0 30 "ChronoTrials" "prizeRate" "I") (by decide +kernel)
  have f_33 := hts (.fieldLink RX0 33 "ChronoTrials" "recordRate" "I") (by decide +kernel)
  have f_36 := hts (.fieldLink RX0 36 "ChronoTrials" "frostChill" "I") (by decide +kernel)
  have hl := lv_entry ([.ref (A 0), .int w]) (n := 2) (Nat.le_of_ble_eq_true rfl)
  rw [lg_entry_eq]
  generalize (lg_sl ([.ref (A 0), .int w]) ++ List.replicate (2 - (lg_sl ([.ref (A 0), .int w])).length) Slot.unset).toArray = ls at hl ⊢
  have hl : lv_has ls 2 [(0, .ref (A 0)), (1, .int w)] := hl
  refine lv_iload_n hx hb dX0_count_0 rfl (lv_at hl 1 rfl) ?_
  by_cases w1 : w = 0
  · refine lv_tableIn (tgt := 44) hx hb dX0_count_1 (by rw [w1]; decide) (by rw [w1]; decide) (by rw [w1]; rfl) (by decide) ?_
    refine lv_aload_n hx hb dX0_count_44 rfl (lv_at hl 0 rfl) ?_
    refine va_get (D := D) (ci := 0) (v := .int (nI (s_n S))) (C := RX0) (T := TX0) (N := 9) hx hb hts hin hown hK hP 0 rfl rfl 5 (by decide) f_26 (fun _ h9 => h9) rfl dX0_count_45 ?_
    exact W.iret (v := (nI (s_n S))) hx hb hr (fun t ht hW => ⟨_, rfl, by simp [ct, w1], ht⟩) (fun q h => by cases h) dX0_count_48
  by_cases w2 : w = 1
  · refine lv_tableIn (tgt := 49) hx hb dX0_count_1 (by rw [w2]; decide) (by rw [w2]; decide) (by rw [w2]; rfl) (by decide) ?_
    refine lv_aload_n hx hb dX0_count_49 rfl (lv_at hl 0 rfl) ?_
    refine va_get (D := D) (ci := 0) (v := .int (s_rc S)) (C := RX0) (T := TX0) (N := 9) hx hb hts hin hown hK hP 0 rfl rfl 7 (by decide) f_33 (fun _ h9 => h9) rfl dX0_count_50 ?_
    exact W.iret (v := (s_rc S)) hx hb hr (fun t ht hW => ⟨_, rfl, by simp [ct, w1, w2], ht⟩) (fun q h => by cases h) dX0_count_53
  by_cases w3 : w = 2
  · refine lv_tableIn (tgt := 54) hx hb dX0_count_1 (by rw [w3]; decide) (by rw [w3]; decide) (by rw [w3]; rfl) (by decide) ?_
    refine lv_aload_n hx hb dX0_count_54 rfl (lv_at hl 0 rfl) ?_
    refine va_get (D := D) (ci := 0) (v := .int (s_pz S)) (C := RX0) (T := TX0) (N := 9) hx hb hts hin hown hK hP 0 rfl rfl 6 (by decide) f_30 (fun _ h9 => h9) rfl dX0_count_55 ?_
    exact W.iret (v := (s_pz S)) hx hb hr (fun t ht hW => ⟨_, rfl, by simp [ct, w1, w2, w3], ht⟩) (fun q h => by cases h) dX0_count_58
  by_cases w4 : w = 3
  · refine lv_tableIn (tgt := 59) hx hb dX0_count_1 (by rw [w4]; decide) (by rw [w4]; decide) (by rw [w4]; rfl) (by decide) ?_
    refine lv_aload_n hx hb dX0_count_59 rfl (lv_at hl 0 rfl) ?_
    refine va_get (D := D) (ci := 0) (v := .int (s_fr S)) (C := RX0) (T := TX0) (N := 9) hx hb hts hin hown hK hP 0 rfl rfl 8 (by decide) f_36 (fun _ h9 => h9) rfl dX0_count_60 ?_
    exact W.iret (v := (s_fr S)) hx hb hr (fun t ht hW => ⟨_, rfl, by simp [ct, w1, w2, w3, w4], ht⟩) (fun q h => by cases h) dX0_count_63
  by_cases w5 : w = 4
  · refine lv_tableIn (tgt := 64) hx hb dX0_count_1 (by rw [w5]; decide) (by rw [w5]; decide) (by rw [w5]; rfl) (by decide) ?_
    refine lv_aload_n hx hb dX0_count_64 rfl (lv_at hl 0 rfl) ?_
    refine rc_V (v := (nI (sm (s_tr S) (s_n S)))) ⟨hx, hb, hml, hown, hts⟩ [] [] (c_X0_trialsOfAll l D A K S hI) (cwV 0 hts gX0_count_X0_trialsOfAll rfl rfl rfl (by decide +kernel) ⟨Nat.le_of_ble_eq_true rfl, Nat.le_of_ble_eq_true rfl⟩) hK hP (va_recv hK hP (ci := 0) (q0 := 0) rfl rfl) rfl hl.1 rfl (Nat.le_of_ble_eq_true rfl) ⟨Nat.zero_le _, Nat.zero_le _⟩ dX0_count_65 ?_
    exact W.iret (v := (nI (sm (s_tr S) (s_n S)))) hx hb hr (fun t ht hW => ⟨_, rfl, by simp [ct, w1, w2, w3, w4, w5], ht⟩) (fun q h => by cases h) dX0_count_68
  by_cases w6 : w = 5
  · refine lv_tableIn (tgt := 69) hx hb dX0_count_1 (by rw [w6]; decide) (by rw [w6]; decide) (by rw [w6]; rfl) (by decide) ?_
    refine lv_aload_n hx hb dX0_count_69 rfl (lv_at hl 0 rfl) ?_
    refine rc_V (v := (nI (cn (s_sl S) (s_n S)))) ⟨hx, hb, hml, hown, hts⟩ [] [] (c_X0_sealsOn l D A K S hI) (cwV 0 hts gX0_count_X0_sealsOn rfl rfl rfl (by decide +kernel) ⟨Nat.le_of_ble_eq_true rfl, Nat.le_of_ble_eq_true rfl⟩) hK hP (va_recv hK hP (ci := 0) (q0 := 0) rfl rfl) rfl hl.1 rfl (Nat.le_of_ble_eq_true rfl) ⟨Nat.zero_le _, Nat.zero_le _⟩ dX0_count_70 ?_
    exact W.iret (v := (nI (cn (s_sl S) (s_n S)))) hx hb hr (fun t ht hW => ⟨_, rfl, by simp [ct, w1, w2, w3, w4, w5, w6], ht⟩) (fun q h => by cases h) dX0_count_73
  by_cases w7 : w = 6
  · refine lv_tableIn (tgt := 74) hx hb dX0_count_1 (by rw [w7]; decide) (by rw [w7]; decide) (by rw [w7]; rfl) (by decide) ?_
    refine lv_aload_n hx hb dX0_count_74 rfl (lv_at hl 0 rfl) ?_
    refine rc_V (v := (x_first S)) ⟨hx, hb, hml, hown, hts⟩ [] [] (c_X0_firstOfTheBest l D A K S hI) (cwV 0 hts gX0_count_X0_firstOfTheBest rfl rfl rfl (by decide +kernel) ⟨Nat.le_of_ble_eq_true rfl, Nat.le_of_ble_eq_true rfl⟩) hK hP (va_recv hK hP (ci := 0) (q0 := 0) rfl rfl) rfl hl.1 rfl (Nat.le_of_ble_eq_true rfl) ⟨Nat.zero_le _, Nat.zero_le _⟩ dX0_count_75 ?_
    exact W.iret (v := (x_first S)) hx hb hr (fun t ht hW => ⟨_, rfl, by simp [ct, w1, w2, w3, w4, w5, w6, w7], ht⟩) (fun q h => by cases h) dX0_count_78
  refine lv_tableOut (tgt := 79) hx hb dX0_count_1 (by have tw1 := lv_neT (a := 0) w1 rfl; have tw2 := lv_neT (a := 1) w2 rfl; have tw3 := lv_neT (a := 2) w3 rfl; have tw4 := lv_neT (a := 3) w4 rfl; have tw5 := lv_neT (a := 4) w5 rfl; have tw6 := lv_neT (a := 5) w6 rfl; have tw7 := lv_neT (a := 6) w7 rfl; omega) (by decide) ?_
  refine lv_iconst (v := (-1)) hx hb dX0_count_79 (by decide) ?_
  exact W.iret (v := (-1)) hx hb hr (fun t ht hW => ⟨_, rfl, by simp [ct, w1, w2, w3, w4, w5, w6, w7], ht⟩) (fun q h => by cases h) dX0_count_80
end
section
set_option maxHeartbeats 4000000 in
set_option maxRecDepth 100000 in
theorem c_X0_admit (l : Launch) (D : va_G) (A : Nat → Nat) (K : Nat → ClassId) (S : XS) (hI : x_inv S) (sz : Nat) : Met l yX0_admit wsX0_admit (rmD 0) (va_Pc [.ref (A 0)] (Pw D (wX A K S) (tX K) sz)) (va_Qi (fun r u => (r, u) = x_admit S) (Bw D (wX A K) (tX K) (va_A (wX A K S) sz)) (va_A (wX A K S) sz)) 0 0 (va_A (wX A K S) sz) := by
  refine Met.ofW (cc := cX0_admit) (maxL := 2) (ret := some .int) (by decide) rfl ?_
  intro p e s m args below meth c s₁ B hml hv
  obtain ⟨rfl, hsz, hP, hK, hD0⟩ := hv
  have hx := B.exec
  have hb := B.bytes
  have hr := B.returns
  have hts := atoms_spec (ws := wsX0_admit) B.pre
  have hown : s.vm.findClass RX0 = some m.cls := findClass_of_methodNamed B.named
  have hlocks := B.notSynchronized
  have hn8 := hI.1
  have hin : ∀ w ∈ u_ws RX0 TX0 9, w ∈ wsX0_admit := fun w h => List.mem_cons_of_mem _ (List.mem_append_right _ h)
  have f_19 := hts (.fieldLink RX0 19 "ChronoTrials" "bests" "[I") (by decide +kernel)
  have f_26 := hts (.fieldLink RX0 26 "ChronoTrials" "clocks" "I") (by decide +kernel)
  subst hsz
  have hD := hD0.self (sz := s.heap.size)
  generalize hAe : va_A (wX A K S) s.heap.size = A9 at hD ⊢
  have hS : va_S A9 s.heap s.heap [] := va_S.rf
  have hl := lv_entry ([.ref (A 0)]) (n := 2) (Nat.le_of_ble_eq_true rfl)
  rw [lg_entry_eq]
  generalize (lg_sl ([.ref (A 0)]) ++ List.replicate (2 - (lg_sl ([.ref (A 0)])).length) Slot.unset).toArray = ls at hl ⊢
  have hl : lv_has ls 2 [(0, .ref (A 0))] := hl
  refine lv_aload_n hx hb dX0_admit_0 rfl (lv_at hl 0 rfl) ?_
  refine va_get (D := D) (ci := 0) (v := .int (nI (s_n S))) (C := RX0) (T := TX0) (N := 9) hx hb hts hin hown hK hP 0 rfl rfl 5 (by decide) f_26 (fun _ h9 => h9) rfl dX0_admit_1 ?_
  refine lv_bipush (v := 8) hx hb dX0_admit_4 (by decide) ?_
  refine xn_lt (i := (s_n S)) (j := 8) (tgt := 11) hx hb (by omega) (by omega) dX0_admit_6 (by decide) (fun c1 => ?_) (fun c1 => ?_)
  · refine lv_aload_n hx hb dX0_admit_11 rfl (lv_at hl 0 rfl) ?_
    refine va_get (D := D) (ci := 0) (v := .int (nI (s_n S))) (C := RX0) (T := TX0) (N := 9) hx hb hts hin hown hK hP 0 rfl rfl 5 (by decide) f_26 (fun _ h9 => h9) rfl dX0_admit_12 ?_
    refine lv_istore_n (lv' := [(1, .int (nI (s_n S))), (0, .ref (A 0))]) hx hb dX0_admit_15 rfl hl (by decide) rfl (fun ls hl => ?_)
    refine lv_aload_n hx hb dX0_admit_16 rfl (lv_at hl 1 rfl) ?_
    refine va_get (D := D) (ci := 0) (v := .ref (A 4)) (C := RX0) (T := TX0) (N := 9) hx hb hts hin hown hK hP 0 rfl rfl 3 (by decide) f_19 (fun _ h9 => h9) rfl dX0_admit_17 ?_
    refine lv_iload_n hx hb dX0_admit_20 rfl (lv_at hl 0 rfl) ?_
    refine lv_iconst (v := (-1)) hx hb dX0_admit_21 (by decide) ?_
    refine xa_st (i := (s_n S)) (x := (-1)) (ws' := wX A K (u_bs (upd (s_bs S) (s_n S) (-1)) S)) hx hb hK hP hD hS 4 3 rfl rfl (by omega) (by decide) (rfl) rfl dX0_admit_22 (fun H locs hP hD hS => ?_)
    refine lv_aload_n hx hb dX0_admit_23 rfl (lv_at hl 1 rfl) ?_
    refine lv_dup hx hb dX0_admit_24 rfl ?_
    refine va_get (D := D) (ci := 0) (v := .int (nI (s_n S))) (C := RX0) (T := TX0) (N := 9) hx hb hts hin hown hK hP 0 rfl rfl 5 (by decide) f_26 (fun _ h9 => h9) rfl dX0_admit_25 ?_
    refine lv_iconst (v := 1) hx hb dX0_admit_28 (by decide) ?_
    refine xn_add (i := (s_n S)) (j := 1) hx hb dX0_admit_29 ?_
    refine va_put (D := D) (ci := 0) (v := .int (nI ((s_n S) + 1))) (ty := .int) (C := RX0) (T := TX0) (N := 9) hx hb hts hin tyX0 tyX0_ok nmX0 hown hK hP hD hS 0 rfl rfl 5 (by decide) f_26 (fun _ h9 => h9) rfl (by decide +kernel) rfl rfl (Nat.le_of_ble_eq_true rfl) dX0_admit_30 (fun H locs hP hD hS => ?_)
    have hP : va_P D vwCl (wX A K (u_n ((s_n S) + 1) (u_bs (upd (s_bs S) (s_n S) (-1)) S))) H := hP
    have hD : va_D A9 (wX A K (u_n ((s_n S) + 1) (u_bs (upd (s_bs S) (s_n S) (-1)) S))) := hD
    refine lv_iload_n hx hb dX0_admit_33 rfl (lv_at hl 0 rfl) ?_
    exact W.iret (v := (nI (s_n S))) hx hb hr (fun t ht hW => ⟨⟨(nI (s_n S)), (u_n ((s_n S) + 1) (u_bs (upd (s_bs S) (s_n S) (-1)) S)), rfl, by simp [x_admit, c1], by rw [ht]; exact hP, va_K.moved hW.alike hK, hD⟩, hS.F ht⟩) hS.2.2 dX0_admit_34
  · refine lv_iconst (v := (-1)) hx hb dX0_admit_9 (by decide) ?_
    exact W.iret (v := (-1)) hx hb hr (fun t ht hW => ⟨⟨(-1), S, rfl, by simp [x_admit, c1], by rw [ht]; exact hP, va_K.moved hW.alike hK, hD⟩, hS.F ht⟩) hS.2.2 dX0_admit_10
set_option maxHeartbeats 4000000 in
set_option maxRecDepth 100000 in
theorem c_X0_prize (l : Launch) (D : va_G) (A : Nat → Nat) (K : Nat → ClassId) (S : XS) (hI : x_inv S) (sz : Nat) (v : Int32) : Met l yX0_prize wsX0_prize (rmD 2) (va_Pc [.ref (A 0), .int v] (Pw D (wX A K S) (tX K) sz)) (va_Qi (fun r u => (r, u) = x_prize S v) (Bw D (wX A K) (tX K) (va_A (wX A K S) sz)) (va_A (wX A K S) sz)) 0 0 (va_A (wX A K S) sz) := by
  refine Met.ofW (cc := cX0_prize) (maxL := 2) (ret := some .boolean) (by decide) rfl ?_
  intro p e s m args below meth c s₁ B hml hv
  obtain ⟨rfl, hsz, hP, hK, hD0⟩ := hv
  have hx := B.exec
  have hb := B.bytes
  have hr := B.returns
  have hts := atoms_spec (ws := wsX0_prize) B.pre
  have hown : s.vm.findClass RX0 = some m.cls := findClass_of_methodNamed B.named
  have hlocks := B.notSynchronized
  have hn8 := hI.1
  have hin : ∀ w ∈ u_ws RX0 TX0 9, w ∈ wsX0_prize := fun w h => List.mem_cons_of_mem _ (List.mem_append_right _ h)
  have f_30 := hts (.fieldLink RX0 30 "ChronoTrials" "prizeRate" "I") (by decide +kernel)
  subst hsz
  have hD := hD0.self (sz := s.heap.size)
  generalize hAe : va_A (wX A K S) s.heap.size = A9 at hD ⊢
  have hS : va_S A9 s.heap s.heap [] := va_S.rf
  have hl := lv_entry ([.ref (A 0), .int v]) (n := 2) (Nat.le_of_ble_eq_true rfl)
  rw [lg_entry_eq]
  generalize (lg_sl ([.ref (A 0), .int v]) ++ List.replicate (2 - (lg_sl ([.ref (A 0), .int v])).length) Slot.unset).toArray = ls at hl ⊢
  have hl : lv_has ls 2 [(0, .ref (A 0)), (1, .int v)] := hl
  refine lv_iload_n hx hb dX0_prize_0 rfl (lv_at hl 1 rfl) ?_
  refine rc_S (v := (zi (x_rate v))) ⟨hx, hb, hml, hown, hts⟩ [.int v] [] (c_X0_isRate l v) (va_cwS 1 hts gX0_prize_X0_isRate rfl rfl rfl (by decide +kernel) ⟨Nat.le_of_ble_eq_true rfl, Nat.le_of_ble_eq_true rfl⟩) rfl hl.1 rfl (Nat.le_of_ble_eq_true rfl) ⟨Nat.zero_le _, Nat.zero_le _⟩ dX0_prize_1 ?_
  refine xz_ne (b := (x_rate v)) (tgt := 9) hx hb dX0_prize_4 (by decide) (fun c1 => ?_) (fun c1 => ?_)
  · refine lv_aload_n hx hb dX0_prize_9 rfl (lv_at hl 0 rfl) ?_
    refine lv_iload_n hx hb dX0_prize_10 rfl (lv_at hl 1 rfl) ?_
    refine va_put (D := D) (ci := 0) (v := .int v) (ty := .int) (C := RX0) (T := TX0) (N := 9) hx hb hts hin tyX0 tyX0_ok nmX0 hown hK hP hD hS 0 rfl rfl 6 (by decide) f_30 (fun _ h9 => h9) rfl (by decide +kernel) rfl rfl (Nat.le_of_ble_eq_true rfl) dX0_prize_11 (fun H locs hP hD hS => ?_)
    have hP : va_P D vwCl (wX A K (u_pz v S)) H := hP
    have hD : va_D A9 (wX A K (u_pz v S)) := hD
    refine lv_iconst (v := 1) hx hb dX0_prize_14 (by decide) ?_
    exact W.zret (v := zi true) hx hb hr (zi_n _) (fun t ht hW => ⟨⟨zi true, (u_pz v S), rfl, by simp [x_prize, c1], by rw [ht]; exact hP, va_K.moved hW.alike hK, hD⟩, hS.F ht⟩) hS.2.2 dX0_prize_15
  · refine lv_iconst (v := 0) hx hb dX0_prize_7 (by decide) ?_
    exact W.zret (v := zi false) hx hb hr (zi_n _) (fun t ht hW => ⟨⟨zi false, S, rfl, by simp [x_prize, c1], by rw [ht]; exact hP, va_K.moved hW.alike hK, hD⟩, hS.F ht⟩) hS.2.2 dX0_prize_8
set_option maxHeartbeats 4000000 in
set_option maxRecDepth 100000 in
theorem c_X0_frost (l : Launch) (D : va_G) (A : Nat → Nat) (K : Nat → ClassId) (S : XS) (hI : x_inv S) (sz : Nat) (v : Int32) : Met l yX0_frost wsX0_frost (rmD 2) (va_Pc [.ref (A 0), .int v] (Pw D (wX A K S) (tX K) sz)) (va_Qi (fun r u => (r, u) = x_frost S v) (Bw D (wX A K) (tX K) (va_A (wX A K S) sz)) (va_A (wX A K S) sz)) 0 0 (va_A (wX A K S) sz) := by
  refine Met.ofW (cc := cX0_frost) (maxL := 2) (ret := some .boolean) (by decide) rfl ?_
  intro p e s m args below meth c s₁ B hml hv
  obtain ⟨rfl, hsz, hP, hK, hD0⟩ := hv
  have hx := B.exec
  have hb := B.bytes
  have hr := B.returns
  have hts := atoms_spec (ws := wsX0_frost) B.pre
  have hown : s.vm.findClass RX0 = some m.cls := findClass_of_methodNamed B.named
  have hlocks := B.notSynchronized
  have hn8 := hI.1
  have hin : ∀ w ∈ u_ws RX0 TX0 9, w ∈ wsX0_frost := fun w h => List.mem_cons_of_mem _ (List.mem_append_right _ h)
  have f_36 := hts (.fieldLink RX0 36 "ChronoTrials" "frostChill" "I") (by decide +kernel)
  subst hsz
  have hD := hD0.self (sz := s.heap.size)
  generalize hAe : va_A (wX A K S) s.heap.size = A9 at hD ⊢
  have hS : va_S A9 s.heap s.heap [] := va_S.rf
  have hl := lv_entry ([.ref (A 0), .int v]) (n := 2) (Nat.le_of_ble_eq_true rfl)
  rw [lg_entry_eq]
  generalize (lg_sl ([.ref (A 0), .int v]) ++ List.replicate (2 - (lg_sl ([.ref (A 0), .int v])).length) Slot.unset).toArray = ls at hl ⊢
  have hl : lv_has ls 2 [(0, .ref (A 0)), (1, .int v)] := hl
  refine lv_iload_n hx hb dX0_frost_0 rfl (lv_at hl 1 rfl) ?_
  refine rc_S (v := (zi (x_chill v))) ⟨hx, hb, hml, hown, hts⟩ [.int v] [] (c_X0_isChill l v) (va_cwS 1 hts gX0_frost_X0_isChill rfl rfl rfl (by decide +kernel) ⟨Nat.le_of_ble_eq_true rfl, Nat.le_of_ble_eq_true rfl⟩) rfl hl.1 rfl (Nat.le_of_ble_eq_true rfl) ⟨Nat.zero_le _, Nat.zero_le _⟩ dX0_frost_1 ?_
  refine xz_ne (b := (x_chill v)) (tgt := 9) hx hb dX0_frost_4 (by decide) (fun c1 => ?_) (fun c1 => ?_)
  · refine lv_aload_n hx hb dX0_frost_9 rfl (lv_at hl 0 rfl) ?_
    refine lv_iload_n hx hb dX0_frost_10 rfl (lv_at hl 1 rfl) ?_
    refine va_put (D := D) (ci := 0) (v := .int v) (ty := .int) (C := RX0) (T := TX0) (N := 9) hx hb hts hin tyX0 tyX0_ok nmX0 hown hK hP hD hS 0 rfl rfl 8 (by decide) f_36 (fun _ h9 => h9) rfl (by decide +kernel) rfl rfl (Nat.le_of_ble_eq_true rfl) dX0_frost_11 (fun H locs hP hD hS => ?_)
    have hP : va_P D vwCl (wX A K (u_fr v S)) H := hP
    have hD : va_D A9 (wX A K (u_fr v S)) := hD
    refine lv_iconst (v := 1) hx hb dX0_frost_14 (by decide) ?_
    exact W.zret (v := zi true) hx hb hr (zi_n _) (fun t ht hW => ⟨⟨zi true, (u_fr v S), rfl, by simp [x_frost, c1], by rw [ht]; exact hP, va_K.moved hW.alike hK, hD⟩, hS.F ht⟩) hS.2.2 dX0_frost_15
  · refine lv_iconst (v := 0) hx hb dX0_frost_7 (by decide) ?_
    exact W.zret (v := zi false) hx hb hr (zi_n _) (fun t ht hW => ⟨⟨zi false, S, rfl, by simp [x_frost, c1], by rw [ht]; exact hP, va_K.moved hW.alike hK, hD⟩, hS.F ht⟩) hS.2.2 dX0_frost_8
set_option maxHeartbeats 4000000 in
set_option maxRecDepth 100000 in
theorem c_X0_trial (l : Launch) (D : va_G) (A : Nat → Nat) (K : Nat → ClassId) (S : XS) (hI : x_inv S) (sz : Nat) (v : Int32) (hd : Int32) (te : Int32) : Met l yX0_trial wsX0_trial (rmD 4) (va_Pc [.ref (A 0), .int v, .int hd, .int te] (Pw D (wX A K S) (tX K) sz)) (va_Qi (fun r u => (r, u) = x_trial S v hd te) (Bw D (wX A K) (tX K) (va_A (wX A K S) sz)) (va_A (wX A K S) sz)) 0 0 (va_A (wX A K S) sz) := by
  refine Met.ofW (cc := cX0_trial) (maxL := 6) (ret := some .int) (by decide) rfl ?_
  intro p e s m args below meth c s₁ B hml hv
  obtain ⟨rfl, hsz, hP, hK, hD0⟩ := hv
  have hx := B.exec
  have hb := B.bytes
  have hr := B.returns
  have hts := atoms_spec (ws := wsX0_trial) B.pre
  have hown : s.vm.findClass RX0 = some m.cls := findClass_of_methodNamed B.named
  have hlocks := B.notSynchronized
  have hn8 := hI.1
  have hin : ∀ w ∈ u_ws RX0 TX0 9, w ∈ wsX0_trial := fun w h => List.mem_cons_of_mem _ (List.mem_append_right _ h)
  have f_9 := hts (.fieldLink RX0 9 "ChronoTrials" "rates" "[I") (by decide +kernel)
  have f_13 := hts (.fieldLink RX0 13 "ChronoTrials" "chills" "[I") (by decide +kernel)
  have f_16 := hts (.fieldLink RX0 16 "ChronoTrials" "trialsOf" "[I") (by decide +kernel)
  have f_19 := hts (.fieldLink RX0 19 "ChronoTrials" "bests" "[I") (by decide +kernel)
  have f_33 := hts (.fieldLink RX0 33 "ChronoTrials" "recordRate" "I") (by decide +kernel)
  subst hsz
  have hD := hD0.self (sz := s.heap.size)
  generalize hAe : va_A (wX A K S) s.heap.size = A9 at hD ⊢
  have hS : va_S A9 s.heap s.heap [] := va_S.rf
  have hl := lv_entry ([.ref (A 0), .int v, .int hd, .int te]) (n := 6) (Nat.le_of_ble_eq_true rfl)
  rw [lg_entry_eq]
  generalize (lg_sl ([.ref (A 0), .int v, .int hd, .int te]) ++ List.replicate (6 - (lg_sl ([.ref (A 0), .int v, .int hd, .int te])).length) Slot.unset).toArray = ls at hl ⊢
  have hl : lv_has ls 6 [(0, .ref (A 0)), (1, .int v), (2, .int hd), (3, .int te)] := hl
  refine lv_aload_n hx hb dX0_trial_0 rfl (lv_at hl 0 rfl) ?_
  refine lv_iload_n hx hb dX0_trial_1 rfl (lv_at hl 1 rfl) ?_
  refine rc_V (v := (zi (isClk S v))) ⟨hx, hb, hml, hown, hts⟩ [.int v] [] (c_X0_isClock l D A K S hI v) (cwV 1 hts gX0_trial_X0_isClock rfl rfl rfl (by decide +kernel) ⟨Nat.le_of_ble_eq_true rfl, Nat.le_of_ble_eq_true rfl⟩) hK hP (va_recv hK hP (ci := 0) (q0 := 0) rfl rfl) rfl hl.1 rfl (Nat.le_of_ble_eq_true rfl) ⟨Nat.zero_le _, Nat.zero_le _⟩ dX0_trial_2 ?_
  refine xz_eq (b := (isClk S v)) (tgt := 22) hx hb dX0_trial_5 (by decide) (fun c1 => ?_) (fun c1 => ?_)
  · refine lv_iconst (v := (-1)) hx hb dX0_trial_22 (by decide) ?_
    exact W.iret (v := (-1)) hx hb hr (fun t ht hW => ⟨⟨(-1), S, rfl, by simp [x_trial, trX, tr3, c1], by rw [ht]; exact hP, va_K.moved hW.alike hK, hD⟩, hS.F ht⟩) hS.2.2 dX0_trial_23
  · obtain ⟨a, ha, rfl⟩ := isClk_ex c1 hn8
    have ea : (nI a).toNatClampNeg = a := nI_clamp (by omega)
    have ht6 := hI.2 a
    refine lv_iload_n hx hb dX0_trial_8 rfl (lv_at hl 2 rfl) ?_
    refine rc_S (v := (zi (x_rate hd))) ⟨hx, hb, hml, hown, hts⟩ [.int hd] [] (c_X0_isRate l hd) (va_cwS 1 hts gX0_trial_X0_isRate rfl rfl rfl (by decide +kernel) ⟨Nat.le_of_ble_eq_true rfl, Nat.le_of_ble_eq_true rfl⟩) rfl hl.1 rfl (Nat.le_of_ble_eq_true rfl) ⟨Nat.zero_le _, Nat.zero_le _⟩ dX0_trial_9 ?_
    refine xz_eq (b := (x_rate hd)) (tgt := 22) hx hb dX0_trial_12 (by decide) (fun c2 => ?_) (fun c2 => ?_)
    · refine lv_iconst (v := (-1)) hx hb dX0_trial_22 (by decide) ?_
      exact W.iret (v := (-1)) hx hb hr (fun t ht hW => ⟨⟨(-1), S, rfl, by simp [x_trial, trX, tr3, c1, ea, c2], by rw [ht]; exact hP, va_K.moved hW.alike hK, hD⟩, hS.F ht⟩) hS.2.2 dX0_trial_23
    · refine lv_iload_n hx hb dX0_trial_15 rfl (lv_at hl 3 rfl) ?_
      refine rc_S (v := (zi (x_chill te))) ⟨hx, hb, hml, hown, hts⟩ [.int te] [] (c_X0_isChill l te) (va_cwS 1 hts gX0_trial_X0_isChill rfl rfl rfl (by decide +kernel) ⟨Nat.le_of_ble_eq_true rfl, Nat.le_of_ble_eq_true rfl⟩) rfl hl.1 rfl (Nat.le_of_ble_eq_true rfl) ⟨Nat.zero_le _, Nat.zero_le _⟩ dX0_trial_16 ?_
      refine xz_ne (b := (x_chill te)) (tgt := 24) hx hb dX0_trial_19 (by decide) (fun c3 => ?_) (fun c3 => ?_)
      · refine lv_aload_n hx hb dX0_trial_24 rfl (lv_at hl 0 rfl) ?_
        refine va_get (D := D) (ci := 0) (v := .ref (A 3)) (C := RX0) (T := TX0) (N := 9) hx hb hts hin hown hK hP 0 rfl rfl 2 (by decide) f_16 (fun _ h9 => h9) rfl dX0_trial_25 ?_
        refine lv_iload_n hx hb dX0_trial_28 rfl (lv_at hl 1 rfl) ?_
        refine xa_ld (i := a) (v := (nI ((s_tr S) a))) hx hb hK hP 3 2 rfl rfl (by omega) (by decide) (rfl) dX0_trial_29 ?_
        refine lv_bipush (v := 6) hx hb dX0_trial_30 (by decide) ?_
        refine xn_lt (i := ((s_tr S) a)) (j := 6) (tgt := 37) hx hb (by omega) (by omega) dX0_trial_32 (by decide) (fun c4 => ?_) (fun c4 => ?_)
        · refine lv_aload_n hx hb dX0_trial_37 rfl (lv_at hl 0 rfl) ?_
          refine lv_iload_n hx hb dX0_trial_38 rfl (lv_at hl 1 rfl) ?_
          refine lv_iload_n hx hb dX0_trial_39 rfl (lv_at hl 2 rfl) ?_
          refine lv_iload_n hx hb dX0_trial_40 rfl (lv_at hl 3 rfl) ?_
          refine rc_V (v := (nI (x_marks S a hd te))) ⟨hx, hb, hml, hown, hts⟩ [.int (nI a), .int hd, .int te] [] (c_X0_marksOf l D A K S hI a hd te (by omega)) (cwV 3 hts gX0_trial_X0_marksOf rfl rfl rfl (by decide +kernel) ⟨Nat.le_of_ble_eq_true rfl, Nat.le_of_ble_eq_true rfl⟩) hK hP (va_recv hK hP (ci := 0) (q0 := 0) rfl rfl) rfl hl.1 rfl (Nat.le_of_ble_eq_true rfl) ⟨Nat.zero_le _, Nat.zero_le _⟩ dX0_trial_41 ?_
          refine lv_istore (lv' := [(4, .int (nI (x_marks S a hd te))), (0, .ref (A 0)), (1, .int (nI a)), (2, .int hd), (3, .int te)]) hx hb dX0_trial_44 hl (by decide) rfl (fun ls hl => ?_)
          refine lv_iload_n hx hb dX0_trial_46 rfl (lv_at hl 2 rfl) ?_
          refine lv_aload_n hx hb dX0_trial_47 rfl (lv_at hl 1 rfl) ?_
          refine va_get (D := D) (ci := 0) (v := .ref (A 3)) (C := RX0) (T := TX0) (N := 9) hx hb hts hin hown hK hP 0 rfl rfl 2 (by decide) f_16 (fun _ h9 => h9) rfl dX0_trial_48 ?_
          refine lv_iload_n hx hb dX0_trial_51 rfl (lv_at hl 2 rfl) ?_
          refine xa_ld (i := a) (v := (nI ((s_tr S) a))) hx hb hK hP 3 2 rfl rfl (by omega) (by decide) (rfl) dX0_trial_52 ?_
          refine rc_S (v := (nI (a * 6 + ((s_tr S) a)))) ⟨hx, hb, hml, hown, hts⟩ [.int (nI a), .int (nI ((s_tr S) a))] [] (c_X0_slot l a ((s_tr S) a)) (va_cwS 2 hts gX0_trial_X0_slot rfl rfl rfl (by decide +kernel) ⟨Nat.le_of_ble_eq_true rfl, Nat.le_of_ble_eq_true rfl⟩) rfl hl.1 rfl (Nat.le_of_ble_eq_true rfl) ⟨Nat.zero_le _, Nat.zero_le _⟩ dX0_trial_53 ?_
          refine lv_istore (lv' := [(5, .int (nI (a * 6 + ((s_tr S) a)))), (4, .int (nI (x_marks S a hd te))), (0, .ref (A 0)), (1, .int (nI a)), (2, .int hd), (3, .int te)]) hx hb dX0_trial_56 hl (by decide) rfl (fun ls hl => ?_)
          refine lv_aload_n hx hb dX0_trial_58 rfl (lv_at hl 2 rfl) ?_
          refine va_get (D := D) (ci := 0) (v := .ref (A 1)) (C := RX0) (T := TX0) (N := 9) hx hb hts hin hown hK hP 0 rfl rfl 0 (by decide) f_9 (fun _ h9 => h9) rfl dX0_trial_59 ?_
          refine lv_iload hx hb dX0_trial_62 (lv_at hl 0 rfl) ?_
          refine lv_iload_n hx hb dX0_trial_64 rfl (lv_at hl 4 rfl) ?_
          refine xa_st (i := (a * 6 + ((s_tr S) a))) (x := hd) (ws' := wX A K (u_rt (upd (s_rt S) (a * 6 + ((s_tr S) a)) hd) S)) hx hb hK hP hD hS 1 0 rfl rfl (by omega) (by decide) (rfl) rfl dX0_trial_65 (fun H locs hP hD hS => ?_)
          refine lv_aload_n hx hb dX0_trial_66 rfl (lv_at hl 2 rfl) ?_
          refine va_get (D := D) (ci := 0) (v := .ref (A 2)) (C := RX0) (T := TX0) (N := 9) hx hb hts hin hown hK hP 0 rfl rfl 1 (by decide) f_13 (fun _ h9 => h9) rfl dX0_trial_67 ?_
          refine lv_iload hx hb dX0_trial_70 (lv_at hl 0 rfl) ?_
          refine lv_iload_n hx hb dX0_trial_72 rfl (lv_at hl 5 rfl) ?_
          refine xa_st (i := (a * 6 + ((s_tr S) a))) (x := te) (ws' := wX A K (u_ch (upd (s_ch S) (a * 6 + ((s_tr S) a)) te) (u_rt (upd (s_rt S) (a * 6 + ((s_tr S) a)) hd) S))) hx hb hK hP hD hS 2 1 rfl rfl (by omega) (by decide) (rfl) rfl dX0_trial_73 (fun H locs hP hD hS => ?_)
          refine lv_aload_n hx hb dX0_trial_74 rfl (lv_at hl 2 rfl) ?_
          refine va_get (D := D) (ci := 0) (v := .ref (A 3)) (C := RX0) (T := TX0) (N := 9) hx hb hts hin hown hK hP 0 rfl rfl 2 (by decide) f_16 (fun _ h9 => h9) rfl dX0_trial_75 ?_
          refine lv_iload_n hx hb dX0_trial_78 rfl (lv_at hl 3 rfl) ?_
          refine lv_dup2_11 hx hb dX0_trial_79 rfl rfl ?_
          refine xa_ld (i := a) (v := (nI ((s_tr S) a))) hx hb hK hP 3 2 rfl rfl (by omega) (by decide) (rfl) dX0_trial_80 ?_
          refine lv_iconst (v := 1) hx hb dX0_trial_81 (by decide) ?_
          refine xn_add (i := ((s_tr S) a)) (j := 1) hx hb dX0_trial_82 ?_
          refine xa_st (i := a) (x := nI (((s_tr S) a) + 1)) (ws' := wX A K (u_tr (upN (s_tr S) a (((s_tr S) a) + 1)) (u_ch (upd (s_ch S) (a * 6 + ((s_tr S) a)) te) (u_rt (upd (s_rt S) (a * 6 + ((s_tr S) a)) hd) S)))) hx hb hK hP hD hS 3 2 rfl rfl (by omega) (by decide) (upN_e _ _ _) rfl dX0_trial_83 (fun H locs hP hD hS => ?_)
          refine lv_iload hx hb dX0_trial_84 (lv_at hl 1 rfl) ?_
          refine lv_iconst (v := 4) hx hb dX0_trial_86 (by decide) ?_
          refine lv_iand hx hb dX0_trial_87 ?_
          refine lv_if_eq (tgt := 98) hx hb dX0_trial_88 (by decide) (fun c5 => ?_) (fun c5 => ?_)
          · have c5 := (mk4_4 _ _ _ _).mp c5
            refine lv_iload hx hb dX0_trial_98 (lv_at hl 1 rfl) ?_
            refine lv_bipush (v := 8) hx hb dX0_trial_100 (by decide) ?_
            refine lv_iand hx hb dX0_trial_102 ?_
            refine lv_if_eq (tgt := 111) hx hb dX0_trial_103 (by decide) (fun c6 => ?_) (fun c6 => ?_)
            · have c6 := (mk4_8 _ _ _ _).mp c6
              refine lv_iload hx hb dX0_trial_111 (lv_at hl 1 rfl) ?_
              exact W.iret (v := (nI (x_marks S a hd te))) hx hb hr (fun t ht hW => ⟨⟨(nI (x_marks S a hd te)), (u_tr (upN (s_tr S) a (((s_tr S) a) + 1)) (u_ch (upd (s_ch S) (a * 6 + ((s_tr S) a)) te) (u_rt (upd (s_rt S) (a * 6 + ((s_tr S) a)) hd) S))), rfl, by simp [x_trial, trX, tr3, c1, ea, c2, c3, c4, c5, c6], by rw [ht]; exact hP, va_K.moved hW.alike hK, hD⟩, hS.F ht⟩) hS.2.2 dX0_trial_113
            · have c6 := b_t (fun q => c6 ((mk4_8 _ _ _ _).mpr q))
              refine lv_aload_n hx hb dX0_trial_106 rfl (lv_at hl 2 rfl) ?_
              refine lv_iload_n hx hb dX0_trial_107 rfl (lv_at hl 4 rfl) ?_
              refine va_put (D := D) (ci := 0) (v := .int hd) (ty := .int) (C := RX0) (T := TX0) (N := 9) hx hb hts hin tyX0 tyX0_ok nmX0 hown hK hP hD hS 0 rfl rfl 7 (by decide) f_33 (fun _ h9 => h9) rfl (by decide +kernel) rfl rfl (Nat.le_of_ble_eq_true rfl) dX0_trial_108 (fun H locs hP hD hS => ?_)
              have hP : va_P D vwCl (wX A K (u_rc hd (u_tr (upN (s_tr S) a (((s_tr S) a) + 1)) (u_ch (upd (s_ch S) (a * 6 + ((s_tr S) a)) te) (u_rt (upd (s_rt S) (a * 6 + ((s_tr S) a)) hd) S))))) H := hP
              have hD : va_D A9 (wX A K (u_rc hd (u_tr (upN (s_tr S) a (((s_tr S) a) + 1)) (u_ch (upd (s_ch S) (a * 6 + ((s_tr S) a)) te) (u_rt (upd (s_rt S) (a * 6 + ((s_tr S) a)) hd) S))))) := hD
              refine lv_iload hx hb dX0_trial_111 (lv_at hl 1 rfl) ?_
              exact W.iret (v := (nI (x_marks S a hd te))) hx hb hr (fun t ht hW => ⟨⟨(nI (x_marks S a hd te)), (u_rc hd (u_tr (upN (s_tr S) a (((s_tr S) a) + 1)) (u_ch (upd (s_ch S) (a * 6 + ((s_tr S) a)) te) (u_rt (upd (s_rt S) (a * 6 + ((s_tr S) a)) hd) S)))), rfl, by simp [x_trial, trX, tr3, c1, ea, c2, c3, c4, c5, c6], by rw [ht]; exact hP, va_K.moved hW.alike hK, hD⟩, hS.F ht⟩) hS.2.2 dX0_trial_113
          · have c5 := b_t (fun q => c5 ((mk4_4 _ _ _ _).mpr q))
            refine lv_aload_n hx hb dX0_trial_91 rfl (lv_at hl 2 rfl) ?_
            refine va_get (D := D) (ci := 0) (v := .ref (A 4)) (C := RX0) (T := TX0) (N := 9) hx hb hts hin hown hK hP 0 rfl rfl 3 (by decide) f_19 (fun _ h9 => h9) rfl dX0_trial_92 ?_
            refine lv_iload_n hx hb dX0_trial_95 rfl (lv_at hl 3 rfl) ?_
            refine lv_iload_n hx hb dX0_trial_96 rfl (lv_at hl 4 rfl) ?_
            refine xa_st (i := a) (x := hd) (ws' := wX A K (u_bs (upd (s_bs S) a hd) (u_tr (upN (s_tr S) a (((s_tr S) a) + 1)) (u_ch (upd (s_ch S) (a * 6 + ((s_tr S) a)) te) (u_rt (upd (s_rt S) (a * 6 + ((s_tr S) a)) hd) S))))) hx hb hK hP hD hS 4 3 rfl rfl (by omega) (by decide) (rfl) rfl dX0_trial_97 (fun H locs hP hD hS => ?_)
            refine lv_iload hx hb dX0_trial_98 (lv_at hl 1 rfl) ?_
            refine lv_bipush (v := 8) hx hb dX0_trial_100 (by decide) ?_
            refine lv_iand hx hb dX0_trial_102 ?_
            refine lv_if_eq (tgt := 111) hx hb dX0_trial_103 (by decide) (fun c7 => ?_) (fun c7 => ?_)
            · have c7 := (mk4_8 _ _ _ _).mp c7
              refine lv_iload hx hb dX0_trial_111 (lv_at hl 1 rfl) ?_
              exact W.iret (v := (nI (x_marks S a hd te))) hx hb hr (fun t ht hW => ⟨⟨(nI (x_marks S a hd te)), (u_bs (upd (s_bs S) a hd) (u_tr (upN (s_tr S) a (((s_tr S) a) + 1)) (u_ch (upd (s_ch S) (a * 6 + ((s_tr S) a)) te) (u_rt (upd (s_rt S) (a * 6 + ((s_tr S) a)) hd) S)))), rfl, by simp [x_trial, trX, tr3, c1, ea, c2, c3, c4, c5, c7], by rw [ht]; exact hP, va_K.moved hW.alike hK, hD⟩, hS.F ht⟩) hS.2.2 dX0_trial_113
            · have c7 := b_t (fun q => c7 ((mk4_8 _ _ _ _).mpr q))
              refine lv_aload_n hx hb dX0_trial_106 rfl (lv_at hl 2 rfl) ?_
              refine lv_iload_n hx hb dX0_trial_107 rfl (lv_at hl 4 rfl) ?_
              refine va_put (D := D) (ci := 0) (v := .int hd) (ty := .int) (C := RX0) (T := TX0) (N := 9) hx hb hts hin tyX0 tyX0_ok nmX0 hown hK hP hD hS 0 rfl rfl 7 (by decide) f_33 (fun _ h9 => h9) rfl (by decide +kernel) rfl rfl (Nat.le_of_ble_eq_true rfl) dX0_trial_108 (fun H locs hP hD hS => ?_)
              have hP : va_P D vwCl (wX A K (u_rc hd (u_bs (upd (s_bs S) a hd) (u_tr (upN (s_tr S) a (((s_tr S) a) + 1)) (u_ch (upd (s_ch S) (a * 6 + ((s_tr S) a)) te) (u_rt (upd (s_rt S) (a * 6 + ((s_tr S) a)) hd) S)))))) H := hP
              have hD : va_D A9 (wX A K (u_rc hd (u_bs (upd (s_bs S) a hd) (u_tr (upN (s_tr S) a (((s_tr S) a) + 1)) (u_ch (upd (s_ch S) (a * 6 + ((s_tr S) a)) te) (u_rt (upd (s_rt S) (a * 6 + ((s_tr S) a)) hd) S)))))) := hD
              refine lv_iload hx hb dX0_trial_111 (lv_at hl 1 rfl) ?_
              exact W.iret (v := (nI (x_marks S a hd te))) hx hb hr (fun t ht hW => ⟨⟨(nI (x_marks S a hd te)), (u_rc hd (u_bs (upd (s_bs S) a hd) (u_tr (upN (s_tr S) a (((s_tr S) a) + 1)) (u_ch (upd (s_ch S) (a * 6 + ((s_tr S) a)) te) (u_rt (upd (s_rt S) (a * 6 + ((s_tr S) a)) hd) S))))), rfl, by simp [x_trial, trX, tr3, c1, ea, c2, c3, c4, c5, c7], by rw [ht]; exact hP, va_K.moved hW.alike hK, hD⟩, hS.F ht⟩) hS.2.2 dX0_trial_113
        · refine lv_iconst (v := (-1)) hx hb dX0_trial_35 (by decide) ?_
          exact W.iret (v := (-1)) hx hb hr (fun t ht hW => ⟨⟨(-1), S, rfl, by simp [x_trial, trX, tr3, c1, ea, c2, c3, c4], by rw [ht]; exact hP, va_K.moved hW.alike hK, hD⟩, hS.F ht⟩) hS.2.2 dX0_trial_36
      · refine lv_iconst (v := (-1)) hx hb dX0_trial_22 (by decide) ?_
        exact W.iret (v := (-1)) hx hb hr (fun t ht hW => ⟨⟨(-1), S, rfl, by simp [x_trial, trX, tr3, c1, ea, c2, c3], by rw [ht]; exact hP, va_K.moved hW.alike hK, hD⟩, hS.F ht⟩) hS.2.2 dX0_trial_23
set_option maxHeartbeats 4000000 in
set_option maxRecDepth 100000 in
theorem c_X0_annul (l : Launch) (D : va_G) (A : Nat → Nat) (K : Nat → ClassId) (S : XS) (hI : x_inv S) (sz : Nat) (v : Int32) : Met l yX0_annul wsX0_annul (rmD 4) (va_Pc [.ref (A 0), .int v] (Pw D (wX A K S) (tX K) sz)) (va_Qi (fun r u => (r, u) = x_annul S v) (Bw D (wX A K) (tX K) (va_A (wX A K S) sz)) (va_A (wX A K S) sz)) 0 0 (va_A (wX A K S) sz) := by
  refine Met.ofW (cc := cX0_annul) (maxL := 2) (ret := some .int) (by decide) rfl ?_
  intro p e s m args below meth c s₁ B hml hv
  obtain ⟨rfl, hsz, hP, hK, hD0⟩ := hv
  have hx := B.exec
  have hb := B.bytes
  have hr := B.returns
  have hts := atoms_spec (ws := wsX0_annul) B.pre
  have hown : s.vm.findClass RX0 = some m.cls := findClass_of_methodNamed B.named
  have hlocks := B.notSynchronized
  have hn8 := hI.1
  have hin : ∀ w ∈ u_ws RX0 TX0 9, w ∈ wsX0_annul := fun w h => List.mem_cons_of_mem _ (List.mem_append_right _ h)
  have f_16 := hts (.fieldLink RX0 16 "ChronoTrials" "trialsOf" "[I") (by decide +kernel)
  have f_19 := hts (.fieldLink RX0 19 "ChronoTrials" "bests" "[I") (by decide +kernel)
  subst hsz
  have hD := hD0.self (sz := s.heap.size)
  generalize hAe : va_A (wX A K S) s.heap.size = A9 at hD ⊢
  have hS : va_S A9 s.heap s.heap [] := va_S.rf
  have hl := lv_entry ([.ref (A 0), .int v]) (n := 2) (Nat.le_of_ble_eq_true rfl)
  rw [lg_entry_eq]
  generalize (lg_sl ([.ref (A 0), .int v]) ++ List.replicate (2 - (lg_sl ([.ref (A 0), .int v])).length) Slot.unset).toArray = ls at hl ⊢
  have hl : lv_has ls 2 [(0, .ref (A 0)), (1, .int v)] := hl
  refine lv_aload_n hx hb dX0_annul_0 rfl (lv_at hl 0 rfl) ?_
  refine lv_iload_n hx hb dX0_annul_1 rfl (lv_at hl 1 rfl) ?_
  refine rc_V (v := (zi (isClk S v))) ⟨hx, hb, hml, hown, hts⟩ [.int v] [] (c_X0_isClock l D A K S hI v) (cwV 1 hts gX0_annul_X0_isClock rfl rfl rfl (by decide +kernel) ⟨Nat.le_of_ble_eq_true rfl, Nat.le_of_ble_eq_true rfl⟩) hK hP (va_recv hK hP (ci := 0) (q0 := 0) rfl rfl) rfl hl.1 rfl (Nat.le_of_ble_eq_true rfl) ⟨Nat.zero_le _, Nat.zero_le _⟩ dX0_annul_2 ?_
  refine xz_eq (b := (isClk S v)) (tgt := 17) hx hb dX0_annul_5 (by decide) (fun c1 => ?_) (fun c1 => ?_)
  · refine lv_iconst (v := (-1)) hx hb dX0_annul_17 (by decide) ?_
    exact W.iret (v := (-1)) hx hb hr (fun t ht hW => ⟨⟨(-1), S, rfl, by simp [x_annul, an2, an1, upN_s, c1], by rw [ht]; exact hP, va_K.moved hW.alike hK, hD⟩, hS.F ht⟩) hS.2.2 dX0_annul_18
  · obtain ⟨a, ha, rfl⟩ := isClk_ex c1 hn8
    have ea : (nI a).toNatClampNeg = a := nI_clamp (by omega)
    have ht6 := hI.2 a
    refine lv_aload_n hx hb dX0_annul_8 rfl (lv_at hl 0 rfl) ?_
    refine va_get (D := D) (ci := 0) (v := .ref (A 3)) (C := RX0) (T := TX0) (N := 9) hx hb hts hin hown hK hP 0 rfl rfl 2 (by decide) f_16 (fun _ h9 => h9) rfl dX0_annul_9 ?_
    refine lv_iload_n hx hb dX0_annul_12 rfl (lv_at hl 1 rfl) ?_
    refine xa_ld (i := a) (v := (nI ((s_tr S) a))) hx hb hK hP 3 2 rfl rfl (by omega) (by decide) (rfl) dX0_annul_13 ?_
    refine xn_ifgt (i := ((s_tr S) a)) (tgt := 19) hx hb (by omega) dX0_annul_14 (by decide) (fun c2 => ?_) (fun c2 => ?_)
    · refine lv_aload_n hx hb dX0_annul_19 rfl (lv_at hl 0 rfl) ?_
      refine va_get (D := D) (ci := 0) (v := .ref (A 3)) (C := RX0) (T := TX0) (N := 9) hx hb hts hin hown hK hP 0 rfl rfl 2 (by decide) f_16 (fun _ h9 => h9) rfl dX0_annul_20 ?_
      refine lv_iload_n hx hb dX0_annul_23 rfl (lv_at hl 1 rfl) ?_
      refine lv_dup2_11 hx hb dX0_annul_24 rfl rfl ?_
      refine xa_ld (i := a) (v := (nI ((s_tr S) a))) hx hb hK hP 3 2 rfl rfl (by omega) (by decide) (rfl) dX0_annul_25 ?_
      refine lv_iconst (v := 1) hx hb dX0_annul_26 (by decide) ?_
      refine xn_sub (i := ((s_tr S) a)) (j := 1) hx hb (by omega) dX0_annul_27 ?_
      refine xa_st (i := a) (x := nI (((s_tr S) a) - 1)) (ws' := wX A K (an1 S a)) hx hb hK hP hD hS 3 2 rfl rfl (by omega) (by decide) (upN_e _ _ _) rfl dX0_annul_28 (fun H locs hP hD hS => ?_)
      have hI1 : x_inv (an1 S a) := ⟨hI.1, fun k => by show upN (s_tr S) a (s_tr S a - 1) k ≤ 6; unfold upN; have h6 := hI.2 k; split <;> omega⟩
      refine lv_aload_n hx hb dX0_annul_29 rfl (lv_at hl 0 rfl) ?_
      refine va_get (D := D) (ci := 0) (v := .ref (A 4)) (C := RX0) (T := TX0) (N := 9) hx hb hts hin hown hK hP 0 rfl rfl 3 (by decide) f_19 (fun _ h9 => h9) rfl dX0_annul_30 ?_
      refine lv_iload_n hx hb dX0_annul_33 rfl (lv_at hl 1 rfl) ?_
      refine lv_aload_n hx hb dX0_annul_34 rfl (lv_at hl 0 rfl) ?_
      refine lv_iload_n hx hb dX0_annul_35 rfl (lv_at hl 1 rfl) ?_
      refine rc_V (v := (x_least (an1 S a) a)) ⟨hx, hb, hml, hown, hts⟩ [.int (nI a)] [.int (nI a), .ref (A 4)] (c_X0_leastRate l D A K (an1 S a) hI1 a (by omega)) (cwV 1 hts gX0_annul_X0_leastRate rfl rfl rfl (by decide +kernel) ⟨Nat.le_of_ble_eq_true rfl, Nat.le_of_ble_eq_true rfl⟩) hK hP (va_recv hK hP (ci := 0) (q0 := 0) rfl rfl) rfl hl.1 rfl (Nat.le_of_ble_eq_true rfl) ⟨Nat.zero_le _, Nat.zero_le _⟩ dX0_annul_36 ?_
      refine xa_st (i := a) (x := (x_least (an1 S a) a)) (ws' := wX A K (an2 S a (x_least (an1 S a) a))) hx hb hK hP hD hS 4 3 rfl rfl (by omega) (by decide) (rfl) rfl dX0_annul_39 (fun H locs hP hD hS => ?_)
      refine lv_aload_n hx hb dX0_annul_40 rfl (lv_at hl 0 rfl) ?_
      refine va_get (D := D) (ci := 0) (v := .ref (A 3)) (C := RX0) (T := TX0) (N := 9) hx hb hts hin hown hK hP 0 rfl rfl 2 (by decide) f_16 (fun _ h9 => h9) rfl dX0_annul_41 ?_
      refine lv_iload_n hx hb dX0_annul_44 rfl (lv_at hl 1 rfl) ?_
      refine xa_ld (i := a) (v := (nI (s_tr S a - 1))) hx hb hK hP 3 2 rfl rfl (by omega) (by decide) (congrArg nI (upN_s _ _ _)) dX0_annul_45 ?_
      exact W.iret (v := (nI (s_tr S a - 1))) hx hb hr (fun t ht hW => ⟨⟨(nI (s_tr S a - 1)), an2 S a (x_least (an1 S a) a), rfl, by simp [x_annul, an2, an1, upN_s, c1, ea, c2], by rw [ht]; exact hP, va_K.moved hW.alike hK, hD⟩, hS.F ht⟩) hS.2.2 dX0_annul_46
    · refine lv_iconst (v := (-1)) hx hb dX0_annul_17 (by decide) ?_
      exact W.iret (v := (-1)) hx hb hr (fun t ht hW => ⟨⟨(-1), S, rfl, by simp [x_annul, an2, an1, upN_s, c1, ea, c2], by rw [ht]; exact hP, va_K.moved hW.alike hK, hD⟩, hS.F ht⟩) hS.2.2 dX0_annul_18
set_option maxHeartbeats 4000000 in
set_option maxRecDepth 100000 in
theorem c_X0_ask (l : Launch) (D : va_G) (A : Nat → Nat) (K : Nat → ClassId) (S : XS) (hI : x_inv S) (sz : Nat) (w : Int32) (sg : Int32) (hw : Int32) (v : Int32) (z : Int32) : Met l yX0_ask wsX0_ask (rmD 4) (va_Pc [.ref (A 0), .int w, .int sg, .int hw, .int v, .int z] (Pw D (wX A K S) (tX K) sz)) (va_Qi (fun r u => (r, u) = x_ask S w sg hw v z) (Bw D (wX A K) (tX K) (va_A (wX A K S) sz)) (va_A (wX A K S) sz)) 0 0 (va_A (wX A K S) sz) := by
  refine Met.ofW (cc := cX0_ask) (maxL := 7) (ret := some .int) (by decide) rfl ?_
  intro p e s m args below meth c s₁ B hml hv
  obtain ⟨rfl, hsz, hP, hK, hD0⟩ := hv
  have hx := B.exec
  have hb := B.bytes
  have hr := B.returns
  have hts := atoms_spec (ws := wsX0_ask) B.pre
  have hown : s.vm.findClass RX0 = some m.cls := findClass_of_methodNamed B.named
  have hlocks := B.notSynchronized
  have hn8 := hI.1
  have hin : ∀ w ∈ u_ws RX0 TX0 9, w ∈ wsX0_ask := fun w h => List.mem_cons_of_mem _ (List.mem_append_right _ h)
  have f_22 := hts (.fieldLink RX0 22 "ChronoTrials" "seals" "[Z") (by decide +kernel)
  subst hsz
  have hD := hD0.self (sz := s.heap.size)
  generalize hAe : va_A (wX A K S) s.heap.size = A9 at hD ⊢
  have hS : va_S A9 s.heap s.heap [] := va_S.rf
  have hl := lv_entry ([.ref (A 0), .int w, .int sg, .int hw, .int v, .int z]) (n := 7) (Nat.le_of_ble_eq_true rfl)
  rw [lg_entry_eq]
  generalize (lg_sl ([.ref (A 0), .int w, .int sg, .int hw, .int v, .int z]) ++ List.replicate (7 - (lg_sl ([.ref (A 0), .int w, .int sg, .int hw, .int v, .int z])).length) Slot.unset).toArray = ls at hl ⊢
  have hl : lv_has ls 7 [(0, .ref (A 0)), (1, .int w), (2, .int sg), (3, .int hw), (4, .int v), (5, .int z)] := hl
  refine lv_iload_n hx hb dX0_ask_0 rfl (lv_at hl 1 rfl) ?_
  refine lv_iconst (v := 0) hx hb dX0_ask_1 (by decide) ?_
  refine lv_iconst (v := 1) hx hb dX0_ask_2 (by decide) ?_
  refine rc_S (v := (zi (h_in w 0 1))) ⟨hx, hb, hml, hown, hts⟩ [.int w, .int 0, .int 1] [] (c_X0_isWithin l w 0 1) (va_cwS 3 hts gX0_ask_X0_isWithin rfl rfl rfl (by decide +kernel) ⟨Nat.le_of_ble_eq_true rfl, Nat.le_of_ble_eq_true rfl⟩) rfl hl.1 rfl (Nat.le_of_ble_eq_true rfl) ⟨Nat.zero_le _, Nat.zero_le _⟩ dX0_ask_3 ?_
  refine xz_eq (b := (h_in w 0 1)) (tgt := 18) hx hb dX0_ask_6 (by decide) (fun c1 => ?_) (fun c1 => ?_)
  · refine lv_iconst (v := (-1)) hx hb dX0_ask_18 (by decide) ?_
    exact W.iret (v := (-1)) hx hb hr (fun t ht hW => ⟨⟨(-1), S, rfl, by simp [x_ask, askN, a_sl, hi_0, hi_1, hi_2, hi_3, hi_4, c1], by rw [ht]; exact hP, va_K.moved hW.alike hK, hD⟩, hS.F ht⟩) hS.2.2 dX0_ask_19
  · refine lv_iload_n hx hb dX0_ask_9 rfl (lv_at hl 2 rfl) ?_
    refine lv_iconst (v := 0) hx hb dX0_ask_10 (by decide) ?_
    refine lv_iconst (v := 5) hx hb dX0_ask_11 (by decide) ?_
    refine rc_S (v := (zi (h_in sg 0 5))) ⟨hx, hb, hml, hown, hts⟩ [.int sg, .int 0, .int 5] [] (c_X0_isWithin l sg 0 5) (va_cwS 3 hts gX0_ask_X0_isWithin rfl rfl rfl (by decide +kernel) ⟨Nat.le_of_ble_eq_true rfl, Nat.le_of_ble_eq_true rfl⟩) rfl hl.1 rfl (Nat.le_of_ble_eq_true rfl) ⟨Nat.zero_le _, Nat.zero_le _⟩ dX0_ask_12 ?_
    refine xz_ne (b := (h_in sg 0 5)) (tgt := 20) hx hb dX0_ask_15 (by decide) (fun c2 => ?_) (fun c2 => ?_)
    · refine lv_iload_n hx hb dX0_ask_20 rfl (lv_at hl 3 rfl) ?_
      refine lv_iconst (v := 0) hx hb dX0_ask_21 (by decide) ?_
      refine lv_iconst (v := 5) hx hb dX0_ask_22 (by decide) ?_
      refine rc_S (v := (zi (h_in hw 0 5))) ⟨hx, hb, hml, hown, hts⟩ [.int hw, .int 0, .int 5] [] (c_X0_isWithin l hw 0 5) (va_cwS 3 hts gX0_ask_X0_isWithin rfl rfl rfl (by decide +kernel) ⟨Nat.le_of_ble_eq_true rfl, Nat.le_of_ble_eq_true rfl⟩) rfl hl.1 rfl (Nat.le_of_ble_eq_true rfl) ⟨Nat.zero_le _, Nat.zero_le _⟩ dX0_ask_23 ?_
      refine xz_eq (b := (h_in hw 0 5)) (tgt := 47) hx hb dX0_ask_26 (by decide) (fun c3 => ?_) (fun c3 => ?_)
      · refine lv_iconst (v := (-1)) hx hb dX0_ask_47 (by decide) ?_
        exact W.iret (v := (-1)) hx hb hr (fun t ht hW => ⟨⟨(-1), S, rfl, by simp [x_ask, askN, a_sl, hi_0, hi_1, hi_2, hi_3, hi_4, c1, c2, c3], by rw [ht]; exact hP, va_K.moved hW.alike hK, hD⟩, hS.F ht⟩) hS.2.2 dX0_ask_48
      · refine lv_aload_n hx hb dX0_ask_29 rfl (lv_at hl 0 rfl) ?_
        refine lv_iload hx hb dX0_ask_30 (lv_at hl 4 rfl) ?_
        refine rc_V (v := (zi (isClk S v))) ⟨hx, hb, hml, hown, hts⟩ [.int v] [] (c_X0_isClock l D A K S hI v) (cwV 1 hts gX0_ask_X0_isClock rfl rfl rfl (by decide +kernel) ⟨Nat.le_of_ble_eq_true rfl, Nat.le_of_ble_eq_true rfl⟩) hK hP (va_recv hK hP (ci := 0) (q0 := 0) rfl rfl) rfl hl.1 rfl (Nat.le_of_ble_eq_true rfl) ⟨Nat.zero_le _, Nat.zero_le _⟩ dX0_ask_32 ?_
        refine xz_eq (b := (isClk S v)) (tgt := 47) hx hb dX0_ask_35 (by decide) (fun c4 => ?_) (fun c4 => ?_)
        · refine lv_iconst (v := (-1)) hx hb dX0_ask_47 (by decide) ?_
          exact W.iret (v := (-1)) hx hb hr (fun t ht hW => ⟨⟨(-1), S, rfl, by simp [x_ask, askN, a_sl, hi_0, hi_1, hi_2, hi_3, hi_4, c1, c2, c3, c4], by rw [ht]; exact hP, va_K.moved hW.alike hK, hD⟩, hS.F ht⟩) hS.2.2 dX0_ask_48
        · obtain ⟨a, ha, rfl⟩ := isClk_ex c4 hn8
          have ea : (nI a).toNatClampNeg = a := nI_clamp (by omega)
          refine lv_aload_n hx hb dX0_ask_38 rfl (lv_at hl 0 rfl) ?_
          refine lv_iload hx hb dX0_ask_39 (lv_at hl 5 rfl) ?_
          refine rc_V (v := (zi (isClk S z))) ⟨hx, hb, hml, hown, hts⟩ [.int z] [] (c_X0_isClock l D A K S hI z) (cwV 1 hts gX0_ask_X0_isClock rfl rfl rfl (by decide +kernel) ⟨Nat.le_of_ble_eq_true rfl, Nat.le_of_ble_eq_true rfl⟩) hK hP (va_recv hK hP (ci := 0) (q0 := 0) rfl rfl) rfl hl.1 rfl (Nat.le_of_ble_eq_true rfl) ⟨Nat.zero_le _, Nat.zero_le _⟩ dX0_ask_41 ?_
          refine xz_ne (b := (isClk S z)) (tgt := 49) hx hb dX0_ask_44 (by decide) (fun c5 => ?_) (fun c5 => ?_)
          · obtain ⟨b, hb8, rfl⟩ := isClk_ex c5 hn8
            have eb : (nI b).toNatClampNeg = b := nI_clamp (by omega)
            refine lv_aload_n hx hb dX0_ask_49 rfl (lv_at hl 0 rfl) ?_
            refine lv_iload_n hx hb dX0_ask_50 rfl (lv_at hl 1 rfl) ?_
            refine lv_iload_n hx hb dX0_ask_51 rfl (lv_at hl 2 rfl) ?_
            refine lv_iload hx hb dX0_ask_52 (lv_at hl 4 rfl) ?_
            refine lv_iload hx hb dX0_ask_54 (lv_at hl 5 rfl) ?_
            refine rc_V (v := (zi (hc S w sg a b))) ⟨hx, hb, hml, hown, hts⟩ [.int w, .int sg, .int (nI a), .int (nI b)] [] (c_X0_holdsOfClocks l D A K S hI w sg a b (by omega) (by omega)) (cwV 4 hts gX0_ask_X0_holdsOfClocks rfl rfl rfl (by decide +kernel) ⟨Nat.le_of_ble_eq_true rfl, Nat.le_of_ble_eq_true rfl⟩) hK hP (va_recv hK hP (ci := 0) (q0 := 0) rfl rfl) rfl hl.1 rfl (Nat.le_of_ble_eq_true rfl) ⟨Nat.zero_le _, Nat.zero_le _⟩ dX0_ask_56 ?_
            refine lv_istore (lv' := [(6, .int (zi (hc S w sg a b))), (0, .ref (A 0)), (1, .int w), (2, .int sg), (3, .int hw), (4, .int (nI a)), (5, .int (nI b))]) hx hb dX0_ask_59 hl (by decide) rfl (fun ls hl => ?_)
            refine lv_iload_n hx hb dX0_ask_61 rfl (lv_at hl 4 rfl) ?_
            by_cases w6 : hw = 0
            · refine lv_tableIn (tgt := 96) hx hb dX0_ask_62 (by rw [w6]; decide) (by rw [w6]; decide) (by rw [w6]; rfl) (by decide) ?_
              refine lv_iload hx hb dX0_ask_96 (lv_at hl 0 rfl) ?_
              refine rc_S (v := (zi (hc S w sg a b))) ⟨hx, hb, hml, hown, hts⟩ [.int (zi (hc S w sg a b))] [] (c_X0_oneIf l (hc S w sg a b)) (va_cwS 1 hts gX0_ask_X0_oneIf rfl rfl rfl (by decide +kernel) ⟨Nat.le_of_ble_eq_true rfl, Nat.le_of_ble_eq_true rfl⟩) rfl hl.1 rfl (Nat.le_of_ble_eq_true rfl) ⟨Nat.zero_le _, Nat.zero_le _⟩ dX0_ask_98 ?_
              exact W.iret (v := (zi (hc S w sg a b))) hx hb hr (fun t ht hW => ⟨⟨(zi (hc S w sg a b)), S, rfl, by simp [x_ask, askN, a_sl, hi_0, hi_1, hi_2, hi_3, hi_4, c1, c2, c3, c4, ea, c5, eb, w6], by rw [ht]; exact hP, va_K.moved hW.alike hK, hD⟩, hS.F ht⟩) hS.2.2 dX0_ask_101
            by_cases w7 : hw = 1
            · refine lv_tableIn (tgt := 102) hx hb dX0_ask_62 (by rw [w7]; decide) (by rw [w7]; decide) (by rw [w7]; rfl) (by decide) ?_
              refine lv_iload hx hb dX0_ask_102 (lv_at hl 0 rfl) ?_
              refine xz_ne (b := (hc S w sg a b)) (tgt := 111) hx hb dX0_ask_104 (by decide) (fun c8 => ?_) (fun c8 => ?_)
              · refine lv_iconst (v := 0) hx hb dX0_ask_111 (by decide) ?_
                refine rc_S (v := (zi false)) ⟨hx, hb, hml, hown, hts⟩ [.int (zi false)] [] (c_X0_oneIf l false) (va_cwS 1 hts gX0_ask_X0_oneIf rfl rfl rfl (by decide +kernel) ⟨Nat.le_of_ble_eq_true rfl, Nat.le_of_ble_eq_true rfl⟩) rfl hl.1 rfl (Nat.le_of_ble_eq_true rfl) ⟨Nat.zero_le _, Nat.zero_le _⟩ dX0_ask_112 ?_
                exact W.iret (v := (zi false)) hx hb hr (fun t ht hW => ⟨⟨(zi false), S, rfl, by simp [x_ask, askN, a_sl, hi_0, hi_1, hi_2, hi_3, hi_4, c1, c2, c3, c4, ea, c5, eb, w6, w7, c8], by rw [ht]; exact hP, va_K.moved hW.alike hK, hD⟩, hS.F ht⟩) hS.2.2 dX0_ask_115
              · refine lv_iconst (v := 1) hx hb dX0_ask_107 (by decide) ?_
                refine lv_goto (tgt := 112) hx hb dX0_ask_108 (by decide) ?_
                refine rc_S (v := (zi true)) ⟨hx, hb, hml, hown, hts⟩ [.int (zi true)] [] (c_X0_oneIf l true) (va_cwS 1 hts gX0_ask_X0_oneIf rfl rfl rfl (by decide +kernel) ⟨Nat.le_of_ble_eq_true rfl, Nat.le_of_ble_eq_true rfl⟩) rfl hl.1 rfl (Nat.le_of_ble_eq_true rfl) ⟨Nat.zero_le _, Nat.zero_le _⟩ dX0_ask_112 ?_
                exact W.iret (v := (zi true)) hx hb hr (fun t ht hW => ⟨⟨(zi true), S, rfl, by simp [x_ask, askN, a_sl, hi_0, hi_1, hi_2, hi_3, hi_4, c1, c2, c3, c4, ea, c5, eb, w6, w7, c8], by rw [ht]; exact hP, va_K.moved hW.alike hK, hD⟩, hS.F ht⟩) hS.2.2 dX0_ask_115
            by_cases w9 : hw = 2
            · refine lv_tableIn (tgt := 116) hx hb dX0_ask_62 (by rw [w9]; decide) (by rw [w9]; decide) (by rw [w9]; rfl) (by decide) ?_
              refine lv_aload_n hx hb dX0_ask_116 rfl (lv_at hl 1 rfl) ?_
              refine lv_iload_n hx hb dX0_ask_117 rfl (lv_at hl 2 rfl) ?_
              refine lv_iload_n hx hb dX0_ask_118 rfl (lv_at hl 3 rfl) ?_
              refine lv_iload hx hb dX0_ask_119 (lv_at hl 5 rfl) ?_
              refine lv_iload hx hb dX0_ask_121 (lv_at hl 6 rfl) ?_
              refine rc_V (v := (nI (x_row S w sg a b - a))) ⟨hx, hb, hml, hown, hts⟩ [.int w, .int sg, .int (nI a), .int (nI b)] [] (c_X0_clocksInARow l D A K S hI w sg a b (by omega) (by omega)) (cwV 4 hts gX0_ask_X0_clocksInARow rfl rfl rfl (by decide +kernel) ⟨Nat.le_of_ble_eq_true rfl, Nat.le_of_ble_eq_true rfl⟩) hK hP (va_recv hK hP (ci := 0) (q0 := 0) rfl rfl) rfl hl.1 rfl (Nat.le_of_ble_eq_true rfl) ⟨Nat.zero_le _, Nat.zero_le _⟩ dX0_ask_123 ?_
              exact W.iret (v := (nI (x_row S w sg a b - a))) hx hb hr (fun t ht hW => ⟨⟨(nI (x_row S w sg a b - a)), S, rfl, by simp [x_ask, askN, a_sl, hi_0, hi_1, hi_2, hi_3, hi_4, c1, c2, c3, c4, ea, c5, eb, w6, w7, w9], by rw [ht]; exact hP, va_K.moved hW.alike hK, hD⟩, hS.F ht⟩) hS.2.2 dX0_ask_126
            by_cases w10 : hw = 3
            · refine lv_tableIn (tgt := 127) hx hb dX0_ask_62 (by rw [w10]; decide) (by rw [w10]; decide) (by rw [w10]; rfl) (by decide) ?_
              refine lv_iload hx hb dX0_ask_127 (lv_at hl 0 rfl) ?_
              refine xz_eq (b := (hc S w sg a b)) (tgt := 137) hx hb dX0_ask_129 (by decide) (fun c11 => ?_) (fun c11 => ?_)
              · refine lv_iload hx hb dX0_ask_137 (lv_at hl 6 rfl) ?_
                exact W.iret (v := (nI b)) hx hb hr (fun t ht hW => ⟨⟨(nI b), S, rfl, by simp [x_ask, askN, a_sl, hi_0, hi_1, hi_2, hi_3, hi_4, c1, c2, c3, c4, ea, c5, eb, w6, w7, w9, w10, c11], by rw [ht]; exact hP, va_K.moved hW.alike hK, hD⟩, hS.F ht⟩) hS.2.2 dX0_ask_139
              · refine lv_iload hx hb dX0_ask_132 (lv_at hl 5 rfl) ?_
                refine lv_goto (tgt := 139) hx hb dX0_ask_134 (by decide) ?_
                exact W.iret (v := (nI a)) hx hb hr (fun t ht hW => ⟨⟨(nI a), S, rfl, by simp [x_ask, askN, a_sl, hi_0, hi_1, hi_2, hi_3, hi_4, c1, c2, c3, c4, ea, c5, eb, w6, w7, w9, w10, c11], by rw [ht]; exact hP, va_K.moved hW.alike hK, hD⟩, hS.F ht⟩) hS.2.2 dX0_ask_139
            by_cases w12 : hw = 4
            · refine lv_tableIn (tgt := 140) hx hb dX0_ask_62 (by rw [w12]; decide) (by rw [w12]; decide) (by rw [w12]; rfl) (by decide) ?_
              refine lv_aload_n hx hb dX0_ask_140 rfl (lv_at hl 1 rfl) ?_
              refine va_get (D := D) (ci := 0) (v := .ref (A 5)) (C := RX0) (T := TX0) (N := 9) hx hb hts hin hown hK hP 0 rfl rfl 4 (by decide) f_22 (fun _ h9 => h9) rfl dX0_ask_141 ?_
              refine lv_iload hx hb dX0_ask_144 (lv_at hl 5 rfl) ?_
              refine lv_iload hx hb dX0_ask_146 (lv_at hl 0 rfl) ?_
              refine xa_zst (i := a) (b := (hc S w sg a b)) (ws' := wX A K (a_sl S a (hc S w sg a b))) hx hb hK hP hD hS 5 4 rfl rfl (by omega) (by decide) (upB_e _ _ _) rfl dX0_ask_148 (fun H locs hP hD hS => ?_)
              have hI2 : x_inv (a_sl S a (hc S w sg a b)) := hI
              refine lv_aload_n hx hb dX0_ask_149 rfl (lv_at hl 1 rfl) ?_
              refine rc_V (v := (nI (cn (s_sl (a_sl S a (hc S w sg a b))) (s_n S)))) ⟨hx, hb, hml, hown, hts⟩ [] [] (c_X0_sealsOn l D A K (a_sl S a (hc S w sg a b)) hI2) (cwV 0 hts gX0_ask_X0_sealsOn rfl rfl rfl (by decide +kernel) ⟨Nat.le_of_ble_eq_true rfl, Nat.le_of_ble_eq_true rfl⟩) hK hP (va_recv hK hP (ci := 0) (q0 := 0) rfl rfl) rfl hl.1 rfl (Nat.le_of_ble_eq_true rfl) ⟨Nat.zero_le _, Nat.zero_le _⟩ dX0_ask_150 ?_
              exact W.iret (v := (nI (cn (s_sl (a_sl S a (hc S w sg a b))) (s_n S)))) hx hb hr (fun t ht hW => ⟨⟨(nI (cn (s_sl (a_sl S a (hc S w sg a b))) (s_n S))), a_sl S a (hc S w sg a b), rfl, by simp [x_ask, askN, a_sl, hi_0, hi_1, hi_2, hi_3, hi_4, c1, c2, c3, c4, ea, c5, eb, w6, w7, w9, w10, w12], by rw [ht]; exact hP, va_K.moved hW.alike hK, hD⟩, hS.F ht⟩) hS.2.2 dX0_ask_153
            refine lv_tableOut (tgt := 154) hx hb dX0_ask_62 (by have tw6 := lv_neT (a := 0) w6 rfl; have tw7 := lv_neT (a := 1) w7 rfl; have tw9 := lv_neT (a := 2) w9 rfl; have tw10 := lv_neT (a := 3) w10 rfl; have tw12 := lv_neT (a := 4) w12 rfl; omega) (by decide) ?_
            refine lv_iload hx hb dX0_ask_154 (lv_at hl 0 rfl) ?_
            refine lv_aload_n hx hb dX0_ask_156 rfl (lv_at hl 1 rfl) ?_
            refine lv_iload_n hx hb dX0_ask_157 rfl (lv_at hl 2 rfl) ?_
            refine lv_iload_n hx hb dX0_ask_158 rfl (lv_at hl 3 rfl) ?_
            refine lv_iload hx hb dX0_ask_159 (lv_at hl 6 rfl) ?_
            refine lv_iload hx hb dX0_ask_161 (lv_at hl 5 rfl) ?_
            refine rc_V (v := (zi (hc S w sg b a))) ⟨hx, hb, hml, hown, hts⟩ [.int w, .int sg, .int (nI b), .int (nI a)] [.int (zi (hc S w sg a b))] (c_X0_holdsOfClocks l D A K S hI w sg b a (by omega) (by omega)) (cwV 4 hts gX0_ask_X0_holdsOfClocks rfl rfl rfl (by decide +kernel) ⟨Nat.le_of_ble_eq_true rfl, Nat.le_of_ble_eq_true rfl⟩) hK hP (va_recv hK hP (ci := 0) (q0 := 0) rfl rfl) rfl hl.1 rfl (Nat.le_of_ble_eq_true rfl) ⟨Nat.zero_le _, Nat.zero_le _⟩ dX0_ask_163 ?_
            refine rc_S (v := (both (hc S w sg a b) (hc S w sg b a))) ⟨hx, hb, hml, hown, hts⟩ [.int (zi (hc S w sg a b)), .int (zi (hc S w sg b a))] [] (c_X0_bothWays l (hc S w sg a b) (hc S w sg b a)) (va_cwS 2 hts gX0_ask_X0_bothWays rfl rfl rfl (by decide +kernel) ⟨Nat.le_of_ble_eq_true rfl, Nat.le_of_ble_eq_true rfl⟩) rfl hl.1 rfl (Nat.le_of_ble_eq_true rfl) ⟨Nat.zero_le _, Nat.zero_le _⟩ dX0_ask_166 ?_
            exact W.iret (v := (both (hc S w sg a b) (hc S w sg b a))) hx hb hr (fun t ht hW => ⟨⟨(both (hc S w sg a b) (hc S w sg b a)), S, rfl, by simp [x_ask, askN, a_sl, hi_0, hi_1, hi_2, hi_3, hi_4, c1, c2, c3, c4, ea, c5, eb, w6, w7, w9, w10, w12], by rw [ht]; exact hP, va_K.moved hW.alike hK, hD⟩, hS.F ht⟩) hS.2.2 dX0_ask_169
          · refine lv_iconst (v := (-1)) hx hb dX0_ask_47 (by decide) ?_
            exact W.iret (v := (-1)) hx hb hr (fun t ht hW => ⟨⟨(-1), S, rfl, by simp [x_ask, askN, a_sl, hi_0, hi_1, hi_2, hi_3, hi_4, c1, c2, c3, c4, ea, c5], by rw [ht]; exact hP, va_K.moved hW.alike hK, hD⟩, hS.F ht⟩) hS.2.2 dX0_ask_48
    · refine lv_iconst (v := (-1)) hx hb dX0_ask_18 (by decide) ?_
      exact W.iret (v := (-1)) hx hb hr (fun t ht hW => ⟨⟨(-1), S, rfl, by simp [x_ask, askN, a_sl, hi_0, hi_1, hi_2, hi_3, hi_4, c1, c2], by rw [ht]; exact hP, va_K.moved hW.alike hK, hD⟩, hS.F ht⟩) hS.2.2 dX0_ask_19
end
section
set_option maxHeartbeats 4000000 in
set_option maxRecDepth 100000 in
theorem c_X1_isRate (l : Launch) (v : Int32) : Met l yX1_isRate wsX1_isRate (rmD 0) (va_Pc [.int v] (fun _ => True)) (vp_Si (fun r => r = (zi (h_in v (-1) 999)))) 0 0 (fun _ => False) := by
  refine Met.ofW (cc := cX1_isRate) (maxL := 1) (ret := some .boolean) (by decide) rfl ?_
  intro p e s m args below meth c s₁ B hml hv
  obtain ⟨rfl, -⟩ := hv
  have hx := B.exec
  have hb := B.bytes
  have hr := B.returns
  have hts := atoms_spec (ws := wsX1_isRate) B.pre
  have hown : s.vm.findClass RX1 = some m.cls := findClass_of_methodNamed B.named
  have hlocks := B.notSynchronized
  have hl := lv_entry ([.int v]) (n := 1) (Nat.le_of_ble_eq_true rfl)
  rw [lg_entry_eq]
  generalize (lg_sl ([.int v]) ++ List.replicate (1 - (lg_sl ([.int v])).length) Slot.unset).toArray = ls at hl ⊢
  have hl : lv_has ls 1 [(0, .int v)] := hl
  refine lv_iload_n hx hb dX1_isRate_0 rfl (lv_at hl 0 rfl) ?_
  refine lv_iconst (v := (-1)) hx hb dX1_isRate_1 (by decide) ?_
  refine lv_icmp_lt (tgt := 16) hx hb dX1_isRate_2 (by decide) (fun c1 => ?_) (fun c1 => ?_)
  · refine lv_iconst (v := 0) hx hb dX1_isRate_16 (by decide) ?_
    exact W.zret (v := zi false) hx hb hr (zi_n _) (fun t ht hW => ⟨_, rfl, by simp [h_in, c1], ht⟩) (fun q h => by cases h) dX1_isRate_17
  · refine lv_iload_n hx hb dX1_isRate_5 rfl (lv_at hl 0 rfl) ?_
    refine lv_sipush (v := 999) hx hb dX1_isRate_6 (by decide) ?_
    refine lv_icmp_gt (tgt := 16) hx hb dX1_isRate_9 (by decide) (fun c2 => ?_) (fun c2 => ?_)
    · refine lv_iconst (v := 0) hx hb dX1_isRate_16 (by decide) ?_
      exact W.zret (v := zi false) hx hb hr (zi_n _) (fun t ht hW => ⟨_, rfl, by simp [h_in, c1, c2], ht⟩) (fun q h => by cases h) dX1_isRate_17
    · refine lv_iconst (v := 1) hx hb dX1_isRate_12 (by decide) ?_
      refine lv_goto (tgt := 17) hx hb dX1_isRate_13 (by decide) ?_
      exact W.zret (v := zi true) hx hb hr (zi_n _) (fun t ht hW => ⟨_, rfl, by simp [h_in, c1, c2], ht⟩) (fun q h => by cases h) dX1_isRate_17
set_option maxHeartbeats 4000000 in
set_option maxRecDepth 100000 in
theorem c_X1_isChill (l : Launch) (v : Int32) : Met l yX1_isChill wsX1_isChill (rmD 0) (va_Pc [.int v] (fun _ => True)) (vp_Si (fun r => r = (zi (h_in v (-99) 100)))) 0 0 (fun _ => False) := by
  refine Met.ofW (cc := cX1_isChill) (maxL := 1) (ret := some .boolean) (by decide) rfl ?_
  intro p e s m args below meth c s₁ B hml hv
  obtain ⟨rfl, -⟩ := hv
  have hx := B.exec
  have hb := B.bytes
  have hr := B.returns
  have hts := atoms_spec (ws := wsX1_isChill) B.pre
  have hown : s.vm.findClass RX1 = some m.cls := findClass_of_methodNamed B.named
  have hlocks := B.notSynchronized
  have hl := lv_entry ([.int v]) (n := 1) (Nat.le_of_ble_eq_true rfl)
  rw [lg_entry_eq]
  generalize (lg_sl ([.int v]) ++ List.replicate (1 - (lg_sl ([.int v])).length) Slot.unset).toArray = ls at hl ⊢
  have hl : lv_has ls 1 [(0, .int v)] := hl
  refine lv_iload_n hx hb dX1_isChill_0 rfl (lv_at hl 0 rfl) ?_
  refine lv_bipush (v := (-99)) hx hb dX1_isChill_1 (by decide) ?_
  refine lv_icmp_lt (tgt := 16) hx hb dX1_isChill_3 (by decide) (fun c1 => ?_) (fun c1 => ?_)
  · refine lv_iconst (v := 0) hx hb dX1_isChill_16 (by decide) ?_
    exact W.zret (v := zi false) hx hb hr (zi_n _) (fun t ht hW => ⟨_, rfl, by simp [h_in, c1], ht⟩) (fun q h => by cases h) dX1_isChill_17
  · refine lv_iload_n hx hb dX1_isChill_6 rfl (lv_at hl 0 rfl) ?_
    refine lv_bipush (v := 100) hx hb dX1_isChill_7 (by decide) ?_
    refine lv_icmp_gt (tgt := 16) hx hb dX1_isChill_9 (by decide) (fun c2 => ?_) (fun c2 => ?_)
    · refine lv_iconst (v := 0) hx hb dX1_isChill_16 (by decide) ?_
      exact W.zret (v := zi false) hx hb hr (zi_n _) (fun t ht hW => ⟨_, rfl, by simp [h_in, c1, c2], ht⟩) (fun q h => by cases h) dX1_isChill_17
    · refine lv_iconst (v := 1) hx hb dX1_isChill_12 (by decide) ?_
      refine lv_goto (tgt := 17) hx hb dX1_isChill_13 (by decide) ?_
      exact W.zret (v := zi true) hx hb hr (zi_n _) (fun t ht hW => ⟨_, rfl, by simp [h_in, c1, c2], ht⟩) (fun q h => by cases h) dX1_isChill_17
set_option maxHeartbeats 4000000 in
set_option maxRecDepth 100000 in
theorem c_X1_holds (l : Launch) (sg : Int32) (v : Int32) (z : Int32) (nn : Int32) : Met l yX1_holds wsX1_holds (rmD 0) (va_Pc [.int sg, .int v, .int z, .int nn] (fun _ => True)) (vp_Si (fun r => r = (zi (h_all nn sg v z)))) 0 0 (fun _ => False) := by
  refine Met.ofW (cc := cX1_holds) (maxL := 4) (ret := some .boolean) (by decide) rfl ?_
  intro p e s m args below meth c s₁ B hml hv
  obtain ⟨rfl, -⟩ := hv
  have hx := B.exec
  have hb := B.bytes
  have hr := B.returns
  have hts := atoms_spec (ws := wsX1_holds) B.pre
  have hown : s.vm.findClass RX1 = some m.cls := findClass_of_methodNamed B.named
  have hlocks := B.notSynchronized
  have hl := lv_entry ([.int sg, .int v, .int z, .int nn]) (n := 4) (Nat.le_of_ble_eq_true rfl)
  rw [lg_entry_eq]
  generalize (lg_sl ([.int sg, .int v, .int z, .int nn]) ++ List.replicate (4 - (lg_sl ([.int sg, .int v, .int z, .int nn])).length) Slot.unset).toArray = ls at hl ⊢
  have hl : lv_has ls 4 [(0, .int sg), (1, .int v), (2, .int z), (3, .int nn)] := hl
  refine lv_iload_n hx hb dX1_holds_0 rfl (lv_at hl 1 rfl) ?_
  refine lv_iload_n hx hb dX1_holds_1 rfl (lv_at hl 3 rfl) ?_
  refine lv_icmp_eq (tgt := 10) hx hb dX1_holds_2 (by decide) (fun c1 => ?_) (fun c1 => ?_)
  · refine lv_iload_n hx hb dX1_holds_10 rfl (lv_at hl 0 rfl) ?_
    refine lv_iconst (v := 5) hx hb dX1_holds_11 (by decide) ?_
    refine lv_icmp_ne (tgt := 19) hx hb dX1_holds_12 (by decide) (fun c2 => ?_) (fun c2 => ?_)
    · refine lv_iconst (v := 0) hx hb dX1_holds_19 (by decide) ?_
      exact W.zret (v := zi false) hx hb hr (zi_n _) (fun t ht hW => ⟨_, rfl, by simp [h_all, h_num, c1, c2], ht⟩) (fun q h => by cases h) dX1_holds_20
    · refine lv_iconst (v := 1) hx hb dX1_holds_15 (by decide) ?_
      refine lv_goto (tgt := 20) hx hb dX1_holds_16 (by decide) ?_
      exact W.zret (v := zi true) hx hb hr (zi_n _) (fun t ht hW => ⟨_, rfl, by simp [h_all, h_num, c1, c2], ht⟩) (fun q h => by cases h) dX1_holds_20
  · refine lv_iload_n hx hb dX1_holds_5 rfl (lv_at hl 2 rfl) ?_
    refine lv_iload_n hx hb dX1_holds_6 rfl (lv_at hl 3 rfl) ?_
    refine lv_icmp_ne (tgt := 21) hx hb dX1_holds_7 (by decide) (fun c3 => ?_) (fun c3 => ?_)
    · refine lv_iload_n hx hb dX1_holds_21 rfl (lv_at hl 0 rfl) ?_
      by_cases w4 : sg = 0
      · refine lv_tableIn (tgt := 56) hx hb dX1_holds_22 (by rw [w4]; decide) (by rw [w4]; decide) (by rw [w4]; rfl) (by decide) ?_
        refine lv_iload_n hx hb dX1_holds_56 rfl (lv_at hl 1 rfl) ?_
        refine lv_iload_n hx hb dX1_holds_57 rfl (lv_at hl 2 rfl) ?_
        refine lv_icmp_ge (tgt := 65) hx hb dX1_holds_58 (by decide) (fun c5 => ?_) (fun c5 => ?_)
        · refine lv_iconst (v := 0) hx hb dX1_holds_65 (by decide) ?_
          exact W.zret (v := zi false) hx hb hr (zi_n _) (fun t ht hW => ⟨_, rfl, by simp [h_all, h_num, c1, c3, w4, c5], ht⟩) (fun q h => by cases h) dX1_holds_66
        · refine lv_iconst (v := 1) hx hb dX1_holds_61 (by decide) ?_
          refine lv_goto (tgt := 66) hx hb dX1_holds_62 (by decide) ?_
          exact W.zret (v := zi true) hx hb hr (zi_n _) (fun t ht hW => ⟨_, rfl, by simp [h_all, h_num, c1, c3, w4, c5], ht⟩) (fun q h => by cases h) dX1_holds_66
      by_cases w6 : sg = 1
      · refine lv_tableIn (tgt := 67) hx hb dX1_holds_22 (by rw [w6]; decide) (by rw [w6]; decide) (by rw [w6]; rfl) (by decide) ?_
        refine lv_iload_n hx hb dX1_holds_67 rfl (lv_at hl 1 rfl) ?_
        refine lv_iload_n hx hb dX1_holds_68 rfl (lv_at hl 2 rfl) ?_
        refine lv_icmp_gt (tgt := 76) hx hb dX1_holds_69 (by decide) (fun c7 => ?_) (fun c7 => ?_)
        · refine lv_iconst (v := 0) hx hb dX1_holds_76 (by decide) ?_
          exact W.zret (v := zi false) hx hb hr (zi_n _) (fun t ht hW => ⟨_, rfl, by simp [h_all, h_num, c1, c3, w4, w6, c7], ht⟩) (fun q h => by cases h) dX1_holds_77
        · refine lv_iconst (v := 1) hx hb dX1_holds_72 (by decide) ?_
          refine lv_goto (tgt := 77) hx hb dX1_holds_73 (by decide) ?_
          exact W.zret (v := zi true) hx hb hr (zi_n _) (fun t ht hW => ⟨_, rfl, by simp [h_all, h_num, c1, c3, w4, w6, c7], ht⟩) (fun q h => by cases h) dX1_holds_77
      by_cases w8 : sg = 2
      · refine lv_tableIn (tgt := 78) hx hb dX1_holds_22 (by rw [w8]; decide) (by rw [w8]; decide) (by rw [w8]; rfl) (by decide) ?_
        refine lv_iload_n hx hb dX1_holds_78 rfl (lv_at hl 1 rfl) ?_
        refine lv_iload_n hx hb dX1_holds_79 rfl (lv_at hl 2 rfl) ?_
        refine lv_icmp_le (tgt := 87) hx hb dX1_holds_80 (by decide) (fun c9 => ?_) (fun c9 => ?_)
        · refine lv_iconst (v := 0) hx hb dX1_holds_87 (by decide) ?_
          exact W.zret (v := zi false) hx hb hr (zi_n _) (fun t ht hW => ⟨_, rfl, by simp [h_all, h_num, c1, c3, w4, w6, w8, c9], ht⟩) (fun q h => by cases h) dX1_holds_88
        · refine lv_iconst (v := 1) hx hb dX1_holds_83 (by decide) ?_
          refine lv_goto (tgt := 88) hx hb dX1_holds_84 (by decide) ?_
          exact W.zret (v := zi true) hx hb hr (zi_n _) (fun t ht hW => ⟨_, rfl, by simp [h_all, h_num, c1, c3, w4, w6, w8, c9], ht⟩) (fun q h => by cases h) dX1_holds_88
      by_cases w10 : sg = 3
      · refine lv_tableIn (tgt := 89) hx hb dX1_holds_22 (by rw [w10]; decide) (by rw [w10]; decide) (by rw [w10]; rfl) (by decide) ?_
        refine lv_iload_n hx hb dX1_holds_89 rfl (lv_at hl 1 rfl) ?_
        refine lv_iload_n hx hb dX1_holds_90 rfl (lv_at hl 2 rfl) ?_
        refine lv_icmp_lt (tgt := 98) hx hb dX1_holds_91 (by decide) (fun c11 => ?_) (fun c11 => ?_)
        · refine lv_iconst (v := 0) hx hb dX1_holds_98 (by decide) ?_
          exact W.zret (v := zi false) hx hb hr (zi_n _) (fun t ht hW => ⟨_, rfl, by simp [h_all, h_num, c1, c3, w4, w6, w8, w10, c11], ht⟩) (fun q h => by cases h) dX1_holds_99
        · refine lv_iconst (v := 1) hx hb dX1_holds_94 (by decide) ?_
          refine lv_goto (tgt := 99) hx hb dX1_holds_95 (by decide) ?_
          exact W.zret (v := zi true) hx hb hr (zi_n _) (fun t ht hW => ⟨_, rfl, by simp [h_all, h_num, c1, c3, w4, w6, w8, w10, c11], ht⟩) (fun q h => by cases h) dX1_holds_99
      by_cases w12 : sg = 4
      · refine lv_tableIn (tgt := 100) hx hb dX1_holds_22 (by rw [w12]; decide) (by rw [w12]; decide) (by rw [w12]; rfl) (by decide) ?_
        refine lv_iload_n hx hb dX1_holds_100 rfl (lv_at hl 1 rfl) ?_
        refine lv_iload_n hx hb dX1_holds_101 rfl (lv_at hl 2 rfl) ?_
        refine lv_icmp_ne (tgt := 109) hx hb dX1_holds_102 (by decide) (fun c13 => ?_) (fun c13 => ?_)
        · refine lv_iconst (v := 0) hx hb dX1_holds_109 (by decide) ?_
          exact W.zret (v := zi false) hx hb hr (zi_n _) (fun t ht hW => ⟨_, rfl, by simp [h_all, h_num, c1, c3, w4, w6, w8, w10, w12, c13], ht⟩) (fun q h => by cases h) dX1_holds_110
        · refine lv_iconst (v := 1) hx hb dX1_holds_105 (by decide) ?_
          refine lv_goto (tgt := 110) hx hb dX1_holds_106 (by decide) ?_
          exact W.zret (v := zi true) hx hb hr (zi_n _) (fun t ht hW => ⟨_, rfl, by simp [h_all, h_num, c1, c3, w4, w6, w8, w10, w12, c13], ht⟩) (fun q h => by cases h) dX1_holds_110
      refine lv_tableOut (tgt := 111) hx hb dX1_holds_22 (by have tw4 := lv_neT (a := 0) w4 rfl; have tw6 := lv_neT (a := 1) w6 rfl; have tw8 := lv_neT (a := 2) w8 rfl; have tw10 := lv_neT (a := 3) w10 rfl; have tw12 := lv_neT (a := 4) w12 rfl; omega) (by decide) ?_
      refine lv_iload_n hx hb dX1_holds_111 rfl (lv_at hl 1 rfl) ?_
      refine lv_iload_n hx hb dX1_holds_112 rfl (lv_at hl 2 rfl) ?_
      refine lv_icmp_eq (tgt := 120) hx hb dX1_holds_113 (by decide) (fun c14 => ?_) (fun c14 => ?_)
      · refine lv_iconst (v := 0) hx hb dX1_holds_120 (by decide) ?_
        exact W.zret (v := zi false) hx hb hr (zi_n _) (fun t ht hW => ⟨_, rfl, by simp [h_all, h_num, c1, c3, w4, w6, w8, w10, w12, c14], ht⟩) (fun q h => by cases h) dX1_holds_121
      · refine lv_iconst (v := 1) hx hb dX1_holds_116 (by decide) ?_
        refine lv_goto (tgt := 121) hx hb dX1_holds_117 (by decide) ?_
        exact W.zret (v := zi true) hx hb hr (zi_n _) (fun t ht hW => ⟨_, rfl, by simp [h_all, h_num, c1, c3, w4, w6, w8, w10, w12, c14], ht⟩) (fun q h => by cases h) dX1_holds_121
    · refine lv_iload_n hx hb dX1_holds_10 rfl (lv_at hl 0 rfl) ?_
      refine lv_iconst (v := 5) hx hb dX1_holds_11 (by decide) ?_
      refine lv_icmp_ne (tgt := 19) hx hb dX1_holds_12 (by decide) (fun c15 => ?_) (fun c15 => ?_)
      · refine lv_iconst (v := 0) hx hb dX1_holds_19 (by decide) ?_
        exact W.zret (v := zi false) hx hb hr (zi_n _) (fun t ht hW => ⟨_, rfl, by simp [h_all, h_num, c1, c3, c15], ht⟩) (fun q h => by cases h) dX1_holds_20
      · refine lv_iconst (v := 1) hx hb dX1_holds_15 (by decide) ?_
        refine lv_goto (tgt := 20) hx hb dX1_holds_16 (by decide) ?_
        exact W.zret (v := zi true) hx hb hr (zi_n _) (fun t ht hW => ⟨_, rfl, by simp [h_all, h_num, c1, c3, c15], ht⟩) (fun q h => by cases h) dX1_holds_20
set_option maxHeartbeats 4000000 in
set_option maxRecDepth 100000 in
theorem c_X1_beats (l : Launch) (v : Int32) (z : Int32) : Met l yX1_beats wsX1_beats (rmD 1) (va_Pc [.int v, .int z] (fun _ => True)) (vp_Si (fun r => r = (zi (be v z)))) 0 0 (fun _ => False) := by
  refine Met.ofW (cc := cX1_beats) (maxL := 2) (ret := some .boolean) (by decide) rfl ?_
  intro p e s m args below meth c s₁ B hml hv
  obtain ⟨rfl, -⟩ := hv
  have hx := B.exec
  have hb := B.bytes
  have hr := B.returns
  have hts := atoms_spec (ws := wsX1_beats) B.pre
  have hown : s.vm.findClass RX1 = some m.cls := findClass_of_methodNamed B.named
  have hlocks := B.notSynchronized
  have hl := lv_entry ([.int v, .int z]) (n := 2) (Nat.le_of_ble_eq_true rfl)
  rw [lg_entry_eq]
  generalize (lg_sl ([.int v, .int z]) ++ List.replicate (2 - (lg_sl ([.int v, .int z])).length) Slot.unset).toArray = ls at hl ⊢
  have hl : lv_has ls 2 [(0, .int v), (1, .int z)] := hl
  refine lv_iload_n hx hb dX1_beats_0 rfl (lv_at hl 0 rfl) ?_
  refine lv_iconst (v := (-1)) hx hb dX1_beats_1 (by decide) ?_
  refine lv_icmp_eq (tgt := 19) hx hb dX1_beats_2 (by decide) (fun c1 => ?_) (fun c1 => ?_)
  · refine lv_iconst (v := 0) hx hb dX1_beats_19 (by decide) ?_
    exact W.zret (v := zi false) hx hb hr (zi_n _) (fun t ht hW => ⟨_, rfl, by simp [be, c1], ht⟩) (fun q h => by cases h) dX1_beats_20
  · refine lv_iconst (v := 1) hx hb dX1_beats_5 (by decide) ?_
    refine lv_iload_n hx hb dX1_beats_6 rfl (lv_at hl 1 rfl) ?_
    refine lv_iload_n hx hb dX1_beats_7 rfl (lv_at hl 0 rfl) ?_
    refine lv_iconst (v := (-1)) hx hb dX1_beats_8 (by decide) ?_
    refine rc_S (v := (zi (h_all (-1) 1 z v))) ⟨hx, hb, hml, hown, hts⟩ [.int 1, .int z, .int v, .int (-1)] [] (c_X1_holds l 1 z v (-1)) (va_cwS 4 hts gX1_beats_X1_holds rfl rfl rfl (by decide +kernel) ⟨Nat.le_of_ble_eq_true rfl, Nat.le_of_ble_eq_true rfl⟩) rfl hl.1 rfl (Nat.le_of_ble_eq_true rfl) ⟨Nat.zero_le _, Nat.zero_le _⟩ dX1_beats_9 ?_
    refine xz_ne (b := (h_all (-1) 1 z v)) (tgt := 19) hx hb dX1_beats_12 (by decide) (fun c2 => ?_) (fun c2 => ?_)
    · refine lv_iconst (v := 0) hx hb dX1_beats_19 (by decide) ?_
      exact W.zret (v := zi false) hx hb hr (zi_n _) (fun t ht hW => ⟨_, rfl, by simp [be, c1, c2], ht⟩) (fun q h => by cases h) dX1_beats_20
    · refine lv_iconst (v := 1) hx hb dX1_beats_15 (by decide) ?_
      refine lv_goto (tgt := 20) hx hb dX1_beats_16 (by decide) ?_
      exact W.zret (v := zi true) hx hb hr (zi_n _) (fun t ht hW => ⟨_, rfl, by simp [be, c1, c2], ht⟩) (fun q h => by cases h) dX1_beats_20
end
section
set_option maxHeartbeats 4000000 in
set_option maxRecDepth 100000 in
theorem c_X1_isClock (l : Launch) (D : va_G) (A : Nat → Nat) (K : Nat → ClassId) (S : XS) (hI : x_inv S) (v : Int32) : Met l yX1_isClock wsX1_isClock (rmD 0) (va_Pc [.ref (A 0), .int v] (i_w D vwCl (wM A K S) (tM K))) (vp_Si (fun r => r = (zi (isClk S v)))) 0 0 (fun _ => False) := by
  refine Met.ofW (cc := cX1_isClock) (maxL := 2) (ret := some .boolean) (by decide) rfl ?_
  intro p e s m args below meth c s₁ B hml hv
  obtain ⟨rfl, hP, hK⟩ := hv
  have hx := B.exec
  have hb := B.bytes
  have hr := B.returns
  have hts := atoms_spec (ws := wsX1_isClock) B.pre
  have hown : s.vm.findClass RX1 = some m.cls := findClass_of_methodNamed B.named
  have hlocks := B.notSynchronized
  have hn8 := hI.1
  have hin : ∀ w ∈ u_ws RX1 TX1 9, w ∈ wsX1_isClock := fun w h => List.mem_cons_of_mem _ (List.mem_append_right _ h)
  have f_35 := hts (.fieldLink RX1 35 "ChronoTrialsModel" "clocks" "I") (by decide +kernel)
  have hl := lv_entry ([.ref (A 0), .int v]) (n := 2) (Nat.le_of_ble_eq_true rfl)
  rw [lg_entry_eq]
  generalize (lg_sl ([.ref (A 0), .int v]) ++ List.replicate (2 - (lg_sl ([.ref (A 0), .int v])).length) Slot.unset).toArray = ls at hl ⊢
  have hl : lv_has ls 2 [(0, .ref (A 0)), (1, .int v)] := hl
  refine lv_iload_n hx hb dX1_isClock_0 rfl (lv_at hl 1 rfl) ?_
  refine lv_if_lt (tgt := 16) hx hb dX1_isClock_1 (by decide) (fun c1 => ?_) (fun c1 => ?_)
  · refine lv_iconst (v := 0) hx hb dX1_isClock_16 (by decide) ?_
    exact W.zret (v := zi false) hx hb hr (zi_n _) (fun t ht hW => ⟨_, rfl, by simp [isClk, c1], ht⟩) (fun q h => by cases h) dX1_isClock_17
  · refine lv_iload_n hx hb dX1_isClock_4 rfl (lv_at hl 1 rfl) ?_
    refine lv_aload_n hx hb dX1_isClock_5 rfl (lv_at hl 0 rfl) ?_
    refine va_get (D := D) (ci := 1) (v := .int (nI (s_n S))) (C := RX1) (T := TX1) (N := 9) hx hb hts hin hown hK hP 0 rfl rfl 0 (by decide) f_35 (fun _ h9 => h9) rfl dX1_isClock_6 ?_
    refine lv_icmp_ge (tgt := 16) hx hb dX1_isClock_9 (by decide) (fun c2 => ?_) (fun c2 => ?_)
    · refine lv_iconst (v := 0) hx hb dX1_isClock_16 (by decide) ?_
      exact W.zret (v := zi false) hx hb hr (zi_n _) (fun t ht hW => ⟨_, rfl, by simp [isClk, c1, c2], ht⟩) (fun q h => by cases h) dX1_isClock_17
    · refine lv_iconst (v := 1) hx hb dX1_isClock_12 (by decide) ?_
      refine lv_goto (tgt := 17) hx hb dX1_isClock_13 (by decide) ?_
      exact W.zret (v := zi true) hx hb hr (zi_n _) (fun t ht hW => ⟨_, rfl, by simp [isClk, c1, c2], ht⟩) (fun q h => by cases h) dX1_isClock_17
set_option maxHeartbeats 4000000 in
set_option maxRecDepth 100000 in
theorem c_X1_isCold (l : Launch) (D : va_G) (A : Nat → Nat) (K : Nat → ClassId) (S : XS) (hI : x_inv S) (v : Int32) : Met l yX1_isCold wsX1_isCold (rmD 1) (va_Pc [.ref (A 0), .int v] (i_w D vwCl (wM A K S) (tM K))) (vp_Si (fun r => r = (zi (cold S v)))) 0 0 (fun _ => False) := by
  refine Met.ofW (cc := cX1_isCold) (maxL := 2) (ret := some .boolean) (by decide) rfl ?_
  intro p e s m args below meth c s₁ B hml hv
  obtain ⟨rfl, hP, hK⟩ := hv
  have hx := B.exec
  have hb := B.bytes
  have hr := B.returns
  have hts := atoms_spec (ws := wsX1_isCold) B.pre
  have hown : s.vm.findClass RX1 = some m.cls := findClass_of_methodNamed B.named
  have hlocks := B.notSynchronized
  have hn8 := hI.1
  have hin : ∀ w ∈ u_ws RX1 TX1 9, w ∈ wsX1_isCold := fun w h => List.mem_cons_of_mem _ (List.mem_append_right _ h)
  have f_13 := hts (.fieldLink RX1 13 "ChronoTrialsModel" "frost" "I") (by decide +kernel)
  have hl := lv_entry ([.ref (A 0), .int v]) (n := 2) (Nat.le_of_ble_eq_true rfl)
  rw [lg_entry_eq]
  generalize (lg_sl ([.ref (A 0), .int v]) ++ List.replicate (2 - (lg_sl ([.ref (A 0), .int v])).length) Slot.unset).toArray = ls at hl ⊢
  have hl : lv_has ls 2 [(0, .ref (A 0)), (1, .int v)] := hl
  refine lv_iconst (v := 1) hx hb dX1_isCold_0 (by decide) ?_
  refine lv_iload_n hx hb dX1_isCold_1 rfl (lv_at hl 1 rfl) ?_
  refine lv_aload_n hx hb dX1_isCold_2 rfl (lv_at hl 0 rfl) ?_
  refine va_get (D := D) (ci := 1) (v := .int (s_fr S)) (C := RX1) (T := TX1) (N := 9) hx hb hts hin hown hK hP 0 rfl rfl 2 (by decide) f_13 (fun _ h9 => h9) rfl dX1_isCold_3 ?_
  refine lv_bipush (v := 100) hx hb dX1_isCold_6 (by decide) ?_
  refine rc_S (v := (zi (h_all 100 1 v (s_fr S)))) ⟨hx, hb, hml, hown, hts⟩ [.int 1, .int v, .int (s_fr S), .int 100] [] (c_X1_holds l 1 v (s_fr S) 100) (va_cwS 4 hts gX1_isCold_X1_holds rfl rfl rfl (by decide +kernel) ⟨Nat.le_of_ble_eq_true rfl, Nat.le_of_ble_eq_true rfl⟩) rfl hl.1 rfl (Nat.le_of_ble_eq_true rfl) ⟨Nat.zero_le _, Nat.zero_le _⟩ dX1_isCold_8 ?_
  exact W.zret (v := zi (h_all 100 1 v (s_fr S))) hx hb hr (zi_n _) (fun t ht hW => ⟨_, rfl, rfl, ht⟩) (fun q h => by cases h) dX1_isCold_11
set_option maxHeartbeats 4000000 in
set_option maxRecDepth 100000 in
theorem c_X1_isAhead (l : Launch) (D : va_G) (A : Nat → Nat) (K : Nat → ClassId) (S : XS) (hI : x_inv S) (a : Nat) (b : Nat) (ha : a < 8) (hb8 : b < 8) : Met l yX1_isAhead wsX1_isAhead (rmD 2) (va_Pc [.ref (A 0), .int (nI a), .int (nI b)] (i_w D vwCl (wM A K S) (tM K))) (vp_Si (fun r => r = (zi (ga S a b)))) 0 0 (fun _ => False) := by
  refine Met.ofW (cc := cX1_isAhead) (maxL := 3) (ret := some .boolean) (by decide) rfl ?_
  intro p e s m args below meth c s₁ B hml hv
  obtain ⟨rfl, hP, hK⟩ := hv
  have hx := B.exec
  have hb := B.bytes
  have hr := B.returns
  have hts := atoms_spec (ws := wsX1_isAhead) B.pre
  have hown : s.vm.findClass RX1 = some m.cls := findClass_of_methodNamed B.named
  have hlocks := B.notSynchronized
  have hn8 := hI.1
  have hin : ∀ w ∈ u_ws RX1 TX1 9, w ∈ wsX1_isAhead := fun w h => List.mem_cons_of_mem _ (List.mem_append_right _ h)
  have f_23 := hts (.fieldLink RX1 23 "ChronoTrialsModel" "best" "[I") (by decide +kernel)
  have hl := lv_entry ([.ref (A 0), .int (nI a), .int (nI b)]) (n := 3) (Nat.le_of_ble_eq_true rfl)
  rw [lg_entry_eq]
  generalize (lg_sl ([.ref (A 0), .int (nI a), .int (nI b)]) ++ List.replicate (3 - (lg_sl ([.ref (A 0), .int (nI a), .int (nI b)])).length) Slot.unset).toArray = ls at hl ⊢
  have hl : lv_has ls 3 [(0, .ref (A 0)), (1, .int (nI a)), (2, .int (nI b))] := hl
  refine lv_aload_n hx hb dX1_isAhead_0 rfl (lv_at hl 0 rfl) ?_
  refine va_get (D := D) (ci := 1) (v := .ref (A 2)) (C := RX1) (T := TX1) (N := 9) hx hb hts hin hown hK hP 0 rfl rfl 5 (by decide) f_23 (fun _ h9 => h9) rfl dX1_isAhead_1 ?_
  refine lv_iload_n hx hb dX1_isAhead_4 rfl (lv_at hl 1 rfl) ?_
  refine xa_ld (i := a) (v := ((s_bs S) a)) hx hb hK hP 2 1 rfl rfl (by omega) (by decide) (rfl) dX1_isAhead_5 ?_
  refine lv_aload_n hx hb dX1_isAhead_6 rfl (lv_at hl 0 rfl) ?_
  refine va_get (D := D) (ci := 1) (v := .ref (A 2)) (C := RX1) (T := TX1) (N := 9) hx hb hts hin hown hK hP 0 rfl rfl 5 (by decide) f_23 (fun _ h9 => h9) rfl dX1_isAhead_7 ?_
  refine lv_iload_n hx hb dX1_isAhead_10 rfl (lv_at hl 2 rfl) ?_
  refine xa_ld (i := b) (v := ((s_bs S) b)) hx hb hK hP 2 1 rfl rfl (by omega) (by decide) (rfl) dX1_isAhead_11 ?_
  refine lv_icmp_ne (tgt := 26) hx hb dX1_isAhead_12 (by decide) (fun c1 => ?_) (fun c1 => ?_)
  · refine lv_aload_n hx hb dX1_isAhead_26 rfl (lv_at hl 0 rfl) ?_
    refine va_get (D := D) (ci := 1) (v := .ref (A 2)) (C := RX1) (T := TX1) (N := 9) hx hb hts hin hown hK hP 0 rfl rfl 5 (by decide) f_23 (fun _ h9 => h9) rfl dX1_isAhead_27 ?_
    refine lv_iload_n hx hb dX1_isAhead_30 rfl (lv_at hl 1 rfl) ?_
    refine xa_ld (i := a) (v := ((s_bs S) a)) hx hb hK hP 2 1 rfl rfl (by omega) (by decide) (rfl) dX1_isAhead_31 ?_
    refine lv_aload_n hx hb dX1_isAhead_32 rfl (lv_at hl 0 rfl) ?_
    refine va_get (D := D) (ci := 1) (v := .ref (A 2)) (C := RX1) (T := TX1) (N := 9) hx hb hts hin hown hK hP 0 rfl rfl 5 (by decide) f_23 (fun _ h9 => h9) rfl dX1_isAhead_33 ?_
    refine lv_iload_n hx hb dX1_isAhead_36 rfl (lv_at hl 2 rfl) ?_
    refine xa_ld (i := b) (v := ((s_bs S) b)) hx hb hK hP 2 1 rfl rfl (by omega) (by decide) (rfl) dX1_isAhead_37 ?_
    refine rc_S (v := (zi (be ((s_bs S) a) ((s_bs S) b)))) ⟨hx, hb, hml, hown, hts⟩ [.int ((s_bs S) a), .int ((s_bs S) b)] [] (c_X1_beats l ((s_bs S) a) ((s_bs S) b)) (va_cwS 2 hts gX1_isAhead_X1_beats rfl rfl rfl (by decide +kernel) ⟨Nat.le_of_ble_eq_true rfl, Nat.le_of_ble_eq_true rfl⟩) rfl hl.1 rfl (Nat.le_of_ble_eq_true rfl) ⟨Nat.zero_le _, Nat.zero_le _⟩ dX1_isAhead_38 ?_
    exact W.zret (v := zi (be ((s_bs S) a) ((s_bs S) b))) hx hb hr (zi_n _) (fun t ht hW => ⟨_, rfl, by simp [ga, c1], ht⟩) (fun q h => by cases h) dX1_isAhead_41
  · refine lv_iload_n hx hb dX1_isAhead_15 rfl (lv_at hl 1 rfl) ?_
    refine lv_iload_n hx hb dX1_isAhead_16 rfl (lv_at hl 2 rfl) ?_
    refine xn_ge (i := a) (j := b) (tgt := 24) hx hb (by omega) (by omega) dX1_isAhead_17 (by decide) (fun c2 => ?_) (fun c2 => ?_)
    · refine lv_iconst (v := 0) hx hb dX1_isAhead_24 (by decide) ?_
      exact W.zret (v := zi false) hx hb hr (zi_n _) (fun t ht hW => ⟨_, rfl, by simp [ga, c1, c2], ht⟩) (fun q h => by cases h) dX1_isAhead_25
    · refine lv_iconst (v := 1) hx hb dX1_isAhead_20 (by decide) ?_
      refine lv_goto (tgt := 25) hx hb dX1_isAhead_21 (by decide) ?_
      exact W.zret (v := zi true) hx hb hr (zi_n _) (fun t ht hW => ⟨_, rfl, by simp [ga, c1, c2], ht⟩) (fun q h => by cases h) dX1_isAhead_25
set_option maxHeartbeats 4000000 in
set_option maxRecDepth 100000 in
theorem c_X1_chill (l : Launch) (D : va_G) (A : Nat → Nat) (K : Nat → ClassId) (S : XS) (hI : x_inv S) (a : Nat) (ha : a < 8) : Met l yX1_chill wsX1_chill (rmD 0) (va_Pc [.ref (A 0), .int (nI a)] (i_w D vwCl (wM A K S) (tM K))) (vp_Si (fun r => r = (lc S a))) 0 0 (fun _ => False) := by
  refine Met.ofW (cc := cX1_chill) (maxL := 2) (ret := some .int) (by decide) rfl ?_
  intro p e s m args below meth c s₁ B hml hv
  obtain ⟨rfl, hP, hK⟩ := hv
  have hx := B.exec
  have hb := B.bytes
  have hr := B.returns
  have hts := atoms_spec (ws := wsX1_chill) B.pre
  have hown : s.vm.findClass RX1 = some m.cls := findClass_of_methodNamed B.named
  have hlocks := B.notSynchronized
  have hn8 := hI.1
  have hin : ∀ w ∈ u_ws RX1 TX1 9, w ∈ wsX1_chill := fun w h => List.mem_cons_of_mem _ (List.mem_append_right _ h)
  have f_19 := hts (.fieldLink RX1 19 "ChronoTrialsModel" "many" "[I") (by decide +kernel)
  have f_32 := hts (.fieldLink RX1 32 "ChronoTrialsModel" "chills" "[I") (by decide +kernel)
  have ht6 := hI.2 a
  have hl := lv_entry ([.ref (A 0), .int (nI a)]) (n := 2) (Nat.le_of_ble_eq_true rfl)
  rw [lg_entry_eq]
  generalize (lg_sl ([.ref (A 0), .int (nI a)]) ++ List.replicate (2 - (lg_sl ([.ref (A 0), .int (nI a)])).length) Slot.unset).toArray = ls at hl ⊢
  have hl : lv_has ls 2 [(0, .ref (A 0)), (1, .int (nI a))] := hl
  refine lv_aload_n hx hb dX1_chill_0 rfl (lv_at hl 0 rfl) ?_
  refine va_get (D := D) (ci := 1) (v := .ref (A 1)) (C := RX1) (T := TX1) (N := 9) hx hb hts hin hown hK hP 0 rfl rfl 4 (by decide) f_19 (fun _ h9 => h9) rfl dX1_chill_1 ?_
  refine lv_iload_n hx hb dX1_chill_4 rfl (lv_at hl 1 rfl) ?_
  refine xa_ld (i := a) (v := (nI ((s_tr S) a))) hx hb hK hP 1 0 rfl rfl (by omega) (by decide) (rfl) dX1_chill_5 ?_
  refine xn_ifne (i := ((s_tr S) a)) (tgt := 14) hx hb (by omega) dX1_chill_6 (by decide) (fun c1 => ?_) (fun c1 => ?_)
  · refine lv_aload_n hx hb dX1_chill_14 rfl (lv_at hl 0 rfl) ?_
    refine va_get (D := D) (ci := 1) (v := .ref (A 5)) (C := RX1) (T := TX1) (N := 9) hx hb hts hin hown hK hP 0 rfl rfl 8 (by decide) f_32 (fun _ h9 => h9) rfl dX1_chill_15 ?_
    refine lv_bipush (v := 6) hx hb dX1_chill_18 (by decide) ?_
    refine lv_iload_n hx hb dX1_chill_20 rfl (lv_at hl 1 rfl) ?_
    refine xn_mulc (i := 6) (j := a) hx hb dX1_chill_21 ?_
    refine lv_aload_n hx hb dX1_chill_22 rfl (lv_at hl 0 rfl) ?_
    refine va_get (D := D) (ci := 1) (v := .ref (A 1)) (C := RX1) (T := TX1) (N := 9) hx hb hts hin hown hK hP 0 rfl rfl 4 (by decide) f_19 (fun _ h9 => h9) rfl dX1_chill_23 ?_
    refine lv_iload_n hx hb dX1_chill_26 rfl (lv_at hl 1 rfl) ?_
    refine xa_ld (i := a) (v := (nI ((s_tr S) a))) hx hb hK hP 1 0 rfl rfl (by omega) (by decide) (rfl) dX1_chill_27 ?_
    refine xn_add (i := (a * 6)) (j := ((s_tr S) a)) hx hb dX1_chill_28 ?_
    refine lv_iconst (v := 1) hx hb dX1_chill_29 (by decide) ?_
    refine xn_sub (i := ((a * 6) + ((s_tr S) a))) (j := 1) hx hb (by omega) dX1_chill_30 ?_
    refine xa_ld (i := (((a * 6) + ((s_tr S) a)) - 1)) (v := (s_ch S (a * 6 + (s_tr S a - 1)))) hx hb hK hP 5 4 rfl rfl (by omega) (by decide) (congrArg (s_ch S) (by omega)) dX1_chill_31 ?_
    exact W.iret (v := (s_ch S (a * 6 + (s_tr S a - 1)))) hx hb hr (fun t ht hW => ⟨_, rfl, by simp [lc, c1], ht⟩) (fun q h => by cases h) dX1_chill_32
  · refine lv_bipush (v := 100) hx hb dX1_chill_9 (by decide) ?_
    refine lv_goto (tgt := 32) hx hb dX1_chill_11 (by decide) ?_
    exact W.iret (v := 100) hx hb hr (fun t ht hW => ⟨_, rfl, by simp [lc, c1], ht⟩) (fun q h => by cases h) dX1_chill_32
set_option maxHeartbeats 4000000 in
set_option maxRecDepth 100000 in
theorem c_X1_asked (l : Launch) (D : va_G) (A : Nat → Nat) (K : Nat → ClassId) (S : XS) (hI : x_inv S) (w : Int32) (sg : Int32) (a : Nat) (b : Nat) (ha : a < 8) (hb8 : b < 8) : Met l yX1_asked wsX1_asked (rmD 1) (va_Pc [.ref (A 0), .int w, .int sg, .int (nI a), .int (nI b)] (i_w D vwCl (wM A K S) (tM K))) (vp_Si (fun r => r = (zi (hc S w sg a b)))) 0 0 (fun _ => False) := by
  refine Met.ofW (cc := cX1_asked) (maxL := 5) (ret := some .boolean) (by decide) rfl ?_
  intro p e s m args below meth c s₁ B hml hv
  obtain ⟨rfl, hP, hK⟩ := hv
  have hx := B.exec
  have hb := B.bytes
  have hr := B.returns
  have hts := atoms_spec (ws := wsX1_asked) B.pre
  have hown : s.vm.findClass RX1 = some m.cls := findClass_of_methodNamed B.named
  have hlocks := B.notSynchronized
  have hn8 := hI.1
  have hin : ∀ w ∈ u_ws RX1 TX1 9, w ∈ wsX1_asked := fun w h => List.mem_cons_of_mem _ (List.mem_append_right _ h)
  have f_23 := hts (.fieldLink RX1 23 "ChronoTrialsModel" "best" "[I") (by decide +kernel)
  have hl := lv_entry ([.ref (A 0), .int w, .int sg, .int (nI a), .int (nI b)]) (n := 5) (Nat.le_of_ble_eq_true rfl)
  rw [lg_entry_eq]
  generalize (lg_sl ([.ref (A 0), .int w, .int sg, .int (nI a), .int (nI b)]) ++ List.replicate (5 - (lg_sl ([.ref (A 0), .int w, .int sg, .int (nI a), .int (nI b)])).length) Slot.unset).toArray = ls at hl ⊢
  have hl : lv_has ls 5 [(0, .ref (A 0)), (1, .int w), (2, .int sg), (3, .int (nI a)), (4, .int (nI b))] := hl
  refine lv_iload_n hx hb dX1_asked_0 rfl (lv_at hl 1 rfl) ?_
  refine lv_if_ne (tgt := 25) hx hb dX1_asked_1 (by decide) (fun c1 => ?_) (fun c1 => ?_)
  · refine lv_iload_n hx hb dX1_asked_25 rfl (lv_at hl 2 rfl) ?_
    refine lv_aload_n hx hb dX1_asked_26 rfl (lv_at hl 0 rfl) ?_
    refine lv_iload_n hx hb dX1_asked_27 rfl (lv_at hl 3 rfl) ?_
    refine rc_V (v := (lc S a)) ⟨hx, hb, hml, hown, hts⟩ [.int (nI a)] [.int sg] (c_X1_chill l D A K S hI a (by omega)) (cwV 1 hts gX1_asked_X1_chill rfl rfl rfl (by decide +kernel) ⟨Nat.le_of_ble_eq_true rfl, Nat.le_of_ble_eq_true rfl⟩) hK hP (va_recv hK hP (ci := 1) (q0 := 0) rfl rfl) rfl hl.1 rfl (Nat.le_of_ble_eq_true rfl) ⟨Nat.zero_le _, Nat.zero_le _⟩ dX1_asked_28 ?_
    refine lv_aload_n hx hb dX1_asked_31 rfl (lv_at hl 0 rfl) ?_
    refine lv_iload hx hb dX1_asked_32 (lv_at hl 4 rfl) ?_
    refine rc_V (v := (lc S b)) ⟨hx, hb, hml, hown, hts⟩ [.int (nI b)] [.int (lc S a), .int sg] (c_X1_chill l D A K S hI b (by omega)) (cwV 1 hts gX1_asked_X1_chill rfl rfl rfl (by decide +kernel) ⟨Nat.le_of_ble_eq_true rfl, Nat.le_of_ble_eq_true rfl⟩) hK hP (va_recv hK hP (ci := 1) (q0 := 0) rfl rfl) rfl hl.1 rfl (Nat.le_of_ble_eq_true rfl) ⟨Nat.zero_le _, Nat.zero_le _⟩ dX1_asked_34 ?_
    refine lv_bipush (v := 100) hx hb dX1_asked_37 (by decide) ?_
    refine rc_S (v := (zi (h_all 100 sg (lc S a) (lc S b)))) ⟨hx, hb, hml, hown, hts⟩ [.int sg, .int (lc S a), .int (lc S b), .int 100] [] (c_X1_holds l sg (lc S a) (lc S b) 100) (va_cwS 4 hts gX1_asked_X1_holds rfl rfl rfl (by decide +kernel) ⟨Nat.le_of_ble_eq_true rfl, Nat.le_of_ble_eq_true rfl⟩) rfl hl.1 rfl (Nat.le_of_ble_eq_true rfl) ⟨Nat.zero_le _, Nat.zero_le _⟩ dX1_asked_39 ?_
    exact W.zret (v := zi (h_all 100 sg (lc S a) (lc S b))) hx hb hr (zi_n _) (fun t ht hW => ⟨_, rfl, by simp [hc, c1], ht⟩) (fun q h => by cases h) dX1_asked_42
  · refine lv_iload_n hx hb dX1_asked_4 rfl (lv_at hl 2 rfl) ?_
    refine lv_aload_n hx hb dX1_asked_5 rfl (lv_at hl 0 rfl) ?_
    refine va_get (D := D) (ci := 1) (v := .ref (A 2)) (C := RX1) (T := TX1) (N := 9) hx hb hts hin hown hK hP 0 rfl rfl 5 (by decide) f_23 (fun _ h9 => h9) rfl dX1_asked_6 ?_
    refine lv_iload_n hx hb dX1_asked_9 rfl (lv_at hl 3 rfl) ?_
    refine xa_ld (i := a) (v := ((s_bs S) a)) hx hb hK hP 2 1 rfl rfl (by omega) (by decide) (rfl) dX1_asked_10 ?_
    refine lv_aload_n hx hb dX1_asked_11 rfl (lv_at hl 0 rfl) ?_
    refine va_get (D := D) (ci := 1) (v := .ref (A 2)) (C := RX1) (T := TX1) (N := 9) hx hb hts hin hown hK hP 0 rfl rfl 5 (by decide) f_23 (fun _ h9 => h9) rfl dX1_asked_12 ?_
    refine lv_iload hx hb dX1_asked_15 (lv_at hl 4 rfl) ?_
    refine xa_ld (i := b) (v := ((s_bs S) b)) hx hb hK hP 2 1 rfl rfl (by omega) (by decide) (rfl) dX1_asked_17 ?_
    refine lv_iconst (v := (-1)) hx hb dX1_asked_18 (by decide) ?_
    refine rc_S (v := (zi (h_all (-1) sg ((s_bs S) a) ((s_bs S) b)))) ⟨hx, hb, hml, hown, hts⟩ [.int sg, .int ((s_bs S) a), .int ((s_bs S) b), .int (-1)] [] (c_X1_holds l sg ((s_bs S) a) ((s_bs S) b) (-1)) (va_cwS 4 hts gX1_asked_X1_holds rfl rfl rfl (by decide +kernel) ⟨Nat.le_of_ble_eq_true rfl, Nat.le_of_ble_eq_true rfl⟩) rfl hl.1 rfl (Nat.le_of_ble_eq_true rfl) ⟨Nat.zero_le _, Nat.zero_le _⟩ dX1_asked_19 ?_
    refine lv_goto (tgt := 42) hx hb dX1_asked_22 (by decide) ?_
    exact W.zret (v := zi (h_all (-1) sg ((s_bs S) a) ((s_bs S) b))) hx hb hr (zi_n _) (fun t ht hW => ⟨_, rfl, by simp [hc, c1], ht⟩) (fun q h => by cases h) dX1_asked_42
end
section
set_option maxHeartbeats 4000000 in
set_option maxRecDepth 100000 in
theorem c_X1_ahead (l : Launch) (D : va_G) (A : Nat → Nat) (K : Nat → ClassId) (S : XS) (hI : x_inv S) (a : Nat) (ha : a < 8) : Met l yX1_ahead wsX1_ahead (rmD 3) (va_Pc [.ref (A 0), .int (nI a)] (i_w D vwCl (wM A K S) (tM K))) (vp_Si (fun r => r = (nI (m_ahead S a)))) 0 0 (fun _ => False) := by
  refine Met.ofW (cc := cX1_ahead) (maxL := 4) (ret := some .int) (by decide) rfl ?_
  intro p e s m args below meth c s₁ B hml hv
  obtain ⟨rfl, hP, hK⟩ := hv
  have hx := B.exec
  have hb := B.bytes
  have hr := B.returns
  have hts := atoms_spec (ws := wsX1_ahead) B.pre
  have hown : s.vm.findClass RX1 = some m.cls := findClass_of_methodNamed B.named
  have hlocks := B.notSynchronized
  have hn8 := hI.1
  have hin : ∀ w ∈ u_ws RX1 TX1 9, w ∈ wsX1_ahead := fun w h => List.mem_cons_of_mem _ (List.mem_append_right _ h)
  have f_35 := hts (.fieldLink RX1 35 "ChronoTrialsModel" "clocks" "I") (by decide +kernel)
  have hl := lv_entry ([.ref (A 0), .int (nI a)]) (n := 4) (Nat.le_of_ble_eq_true rfl)
  rw [lg_entry_eq]
  generalize (lg_sl ([.ref (A 0), .int (nI a)]) ++ List.replicate (4 - (lg_sl ([.ref (A 0), .int (nI a)])).length) Slot.unset).toArray = ls at hl ⊢
  have hl : lv_has ls 4 [(0, .ref (A 0)), (1, .int (nI a))] := hl
  refine lv_iconst (v := 0) hx hb dX1_ahead_0 (by decide) ?_
  refine lv_istore_n (lv' := [(2, .int 0), (0, .ref (A 0)), (1, .int (nI a))]) hx hb dX1_ahead_1 rfl hl (by decide) rfl (fun ls hl => ?_)
  refine lv_iconst (v := 0) hx hb dX1_ahead_2 (by decide) ?_
  refine lv_istore_n (lv' := [(3, .int 0), (2, .int 0), (0, .ref (A 0)), (1, .int (nI a))]) hx hb dX1_ahead_3 rfl hl (by decide) rfl (fun ls hl => ?_)
  have L4 : ∀ (m1 i1 : Nat) (acc : Nat), i1 + m1 = s_n S → acc = cn (fun k => !decide (k = a) && ga S k a) i1 → ∀ (ls : Array Slot), lv_has ls 4 [(0, .ref (A 0)), (1, .int (nI a)), (2, .int (nI acc)), (3, .int (nI i1))] → W p l e (headSpec wsX1_ahead (rmD 3)).room s m ([.ref (A 0), .int (nI a)] : List Value).toArray below meth c s.heap [] 0 0 (MQ below (vp_Si (fun r => r = (nI (m_ahead S a)))) ([.ref (A 0), .int (nI a)] : List Value).toArray s 0 0 (fun _ => False)) (F0 m 4 ls []) := by
    intro m1
    induction m1 with
    | zero =>
      intro i1 acc hm1 hacc ls hl
      refine lv_iload_n hx hb dX1_ahead_4 rfl (lv_at hl 3 rfl) ?_
      refine lv_aload_n hx hb dX1_ahead_5 rfl (lv_at hl 0 rfl) ?_
      refine va_get (D := D) (ci := 1) (v := .int (nI (s_n S))) (C := RX1) (T := TX1) (N := 9) hx hb hts hin hown hK hP 0 rfl rfl 0 (by decide) f_35 (fun _ h9 => h9) rfl dX1_ahead_6 ?_
      refine xn_ge (i := i1) (j := (s_n S)) (tgt := 40) hx hb (by omega) (by omega) dX1_ahead_9 (by decide) (fun c1 => ?_) (fun c1 => ?_)
      · refine lv_iload_n hx hb dX1_ahead_40 rfl (lv_at hl 2 rfl) ?_
        exact W.iret (v := (nI acc)) hx hb hr (fun t ht hW => ⟨_, rfl, by rw [hacc, show i1 = s_n S by omega]; try rfl, ht⟩) (fun q h => by cases h) dX1_ahead_41
      · exfalso; omega
    | succ m1 ih =>
      intro i1 acc hm1 hacc ls hl
      refine lv_iload_n hx hb dX1_ahead_4 rfl (lv_at hl 3 rfl) ?_
      refine lv_aload_n hx hb dX1_ahead_5 rfl (lv_at hl 0 rfl) ?_
      refine va_get (D := D) (ci := 1) (v := .int (nI (s_n S))) (C := RX1) (T := TX1) (N := 9) hx hb hts hin hown hK hP 0 rfl rfl 0 (by decide) f_35 (fun _ h9 => h9) rfl dX1_ahead_6 ?_
      refine xn_ge (i := i1) (j := (s_n S)) (tgt := 40) hx hb (by omega) (by omega) dX1_ahead_9 (by decide) (fun c2 => ?_) (fun c2 => ?_)
      · exfalso; omega
      · refine lv_iload_n hx hb dX1_ahead_12 rfl (lv_at hl 2 rfl) ?_
        refine lv_iload_n hx hb dX1_ahead_13 rfl (lv_at hl 3 rfl) ?_
        refine lv_iload_n hx hb dX1_ahead_14 rfl (lv_at hl 1 rfl) ?_
        refine xn_eq (i := i1) (j := a) (tgt := 31) hx hb (by omega) (by omega) dX1_ahead_15 (by decide) (fun c3 => ?_) (fun c3 => ?_)
        · refine lv_iconst (v := 0) hx hb dX1_ahead_31 (by decide) ?_
          refine xn_add (i := acc) (j := 0) hx hb dX1_ahead_32 ?_
          refine lv_istore_n (lv' := [(2, .int (nI (acc + 0))), (0, .ref (A 0)), (1, .int (nI a)), (3, .int (nI i1))]) hx hb dX1_ahead_33 rfl hl (by decide) rfl (fun ls hl => ?_)
          refine lv_iinc (v := (nI (i1 + 1))) (lv' := [(3, .int (nI (i1 + 1))), (2, .int (nI (acc + 0))), (0, .ref (A 0)), (1, .int (nI a))]) hx hb dX1_ahead_34 hl (k := 3) rfl (nI_add i1 1) (by decide) rfl (fun ls hl => ?_)
          refine lv_goto (tgt := 4) hx hb dX1_ahead_37 (by decide) ?_
          exact ih (i1 + 1) (acc + 0) (by omega) (by simp [cn, b2, hacc, c2, c3]) ls (lv_sub hl [2, 3, 1, 0] rfl)
        · refine lv_aload_n hx hb dX1_ahead_18 rfl (lv_at hl 0 rfl) ?_
          refine lv_iload_n hx hb dX1_ahead_19 rfl (lv_at hl 3 rfl) ?_
          refine lv_iload_n hx hb dX1_ahead_20 rfl (lv_at hl 1 rfl) ?_
          refine rc_V (v := (zi (ga S i1 a))) ⟨hx, hb, hml, hown, hts⟩ [.int (nI i1), .int (nI a)] [.int (nI acc)] (c_X1_isAhead l D A K S hI i1 a (by omega) (by omega)) (cwV 2 hts gX1_ahead_X1_isAhead rfl rfl rfl (by decide +kernel) ⟨Nat.le_of_ble_eq_true rfl, Nat.le_of_ble_eq_true rfl⟩) hK hP (va_recv hK hP (ci := 1) (q0 := 0) rfl rfl) rfl hl.1 rfl (Nat.le_of_ble_eq_true rfl) ⟨Nat.zero_le _, Nat.zero_le _⟩ dX1_ahead_21 ?_
          refine xz_eq (b := (ga S i1 a)) (tgt := 31) hx hb dX1_ahead_24 (by decide) (fun c4 => ?_) (fun c4 => ?_)
          · refine lv_iconst (v := 0) hx hb dX1_ahead_31 (by decide) ?_
            refine xn_add (i := acc) (j := 0) hx hb dX1_ahead_32 ?_
            refine lv_istore_n (lv' := [(2, .int (nI (acc + 0))), (0, .ref (A 0)), (1, .int (nI a)), (3, .int (nI i1))]) hx hb dX1_ahead_33 rfl hl (by decide) rfl (fun ls hl => ?_)
            refine lv_iinc (v := (nI (i1 + 1))) (lv' := [(3, .int (nI (i1 + 1))), (2, .int (nI (acc + 0))), (0, .ref (A 0)), (1, .int (nI a))]) hx hb dX1_ahead_34 hl (k := 3) rfl (nI_add i1 1) (by decide) rfl (fun ls hl => ?_)
            refine lv_goto (tgt := 4) hx hb dX1_ahead_37 (by decide) ?_
            exact ih (i1 + 1) (acc + 0) (by omega) (by simp [cn, b2, hacc, c2, c3, c4]) ls (lv_sub hl [2, 3, 1, 0] rfl)
          · refine lv_iconst (v := 1) hx hb dX1_ahead_27 (by decide) ?_
            refine lv_goto (tgt := 32) hx hb dX1_ahead_28 (by decide) ?_
            refine xn_add (i := acc) (j := 1) hx hb dX1_ahead_32 ?_
            refine lv_istore_n (lv' := [(2, .int (nI (acc + 1))), (0, .ref (A 0)), (1, .int (nI a)), (3, .int (nI i1))]) hx hb dX1_ahead_33 rfl hl (by decide) rfl (fun ls hl => ?_)
            refine lv_iinc (v := (nI (i1 + 1))) (lv' := [(3, .int (nI (i1 + 1))), (2, .int (nI (acc + 1))), (0, .ref (A 0)), (1, .int (nI a))]) hx hb dX1_ahead_34 hl (k := 3) rfl (nI_add i1 1) (by decide) rfl (fun ls hl => ?_)
            refine lv_goto (tgt := 4) hx hb dX1_ahead_37 (by decide) ?_
            exact ih (i1 + 1) (acc + 1) (by omega) (by simp [cn, b2, hacc, c2, c3, c4]) ls (lv_sub hl [2, 3, 1, 0] rfl)
  exact L4 (s_n S) 0 0 (by omega) (rfl) ls (lv_sub hl [2, 3, 1, 0] rfl)
set_option maxHeartbeats 4000000 in
set_option maxRecDepth 100000 in
theorem c_X1_place (l : Launch) (D : va_G) (A : Nat → Nat) (K : Nat → ClassId) (S : XS) (hI : x_inv S) (v : Int32) : Met l yX1_place wsX1_place (rmD 4) (va_Pc [.ref (A 0), .int v] (i_w D vwCl (wM A K S) (tM K))) (vp_Si (fun r => r = (m_place S v))) 0 0 (fun _ => False) := by
  refine Met.ofW (cc := cX1_place) (maxL := 4) (ret := some .int) (by decide) rfl ?_
  intro p e s m args below meth c s₁ B hml hv
  obtain ⟨rfl, hP, hK⟩ := hv
  have hx := B.exec
  have hb := B.bytes
  have hr := B.returns
  have hts := atoms_spec (ws := wsX1_place) B.pre
  have hown : s.vm.findClass RX1 = some m.cls := findClass_of_methodNamed B.named
  have hlocks := B.notSynchronized
  have hn8 := hI.1
  have hin : ∀ w ∈ u_ws RX1 TX1 9, w ∈ wsX1_place := fun w h => List.mem_cons_of_mem _ (List.mem_append_right _ h)
  have f_35 := hts (.fieldLink RX1 35 "ChronoTrialsModel" "clocks" "I") (by decide +kernel)
  have hl := lv_entry ([.ref (A 0), .int v]) (n := 4) (Nat.le_of_ble_eq_true rfl)
  rw [lg_entry_eq]
  generalize (lg_sl ([.ref (A 0), .int v]) ++ List.replicate (4 - (lg_sl ([.ref (A 0), .int v])).length) Slot.unset).toArray = ls at hl ⊢
  have hl : lv_has ls 4 [(0, .ref (A 0)), (1, .int v)] := hl
  refine lv_iconst (v := (-1)) hx hb dX1_place_0 (by decide) ?_
  refine lv_istore_n (lv' := [(2, .int (-1)), (0, .ref (A 0)), (1, .int v)]) hx hb dX1_place_1 rfl hl (by decide) rfl (fun ls hl => ?_)
  refine lv_iconst (v := 0) hx hb dX1_place_2 (by decide) ?_
  refine lv_istore_n (lv' := [(3, .int 0), (2, .int (-1)), (0, .ref (A 0)), (1, .int v)]) hx hb dX1_place_3 rfl hl (by decide) rfl (fun ls hl => ?_)
  have L4 : ∀ (m1 i1 : Nat) (acc : Int32), i1 + m1 = s_n S → acc = lf (fun c => decide (nI (m_ahead S c) = v)) i1 → ∀ (ls : Array Slot), lv_has ls 4 [(0, .ref (A 0)), (1, .int v), (2, .int acc), (3, .int (nI i1))] → W p l e (headSpec wsX1_place (rmD 4)).room s m ([.ref (A 0), .int v] : List Value).toArray below meth c s.heap [] 0 0 (MQ below (vp_Si (fun r => r = (m_place S v))) ([.ref (A 0), .int v] : List Value).toArray s 0 0 (fun _ => False)) (F0 m 4 ls []) := by
    intro m1
    induction m1 with
    | zero =>
      intro i1 acc hm1 hacc ls hl
      refine lv_iload_n hx hb dX1_place_4 rfl (lv_at hl 3 rfl) ?_
      refine lv_aload_n hx hb dX1_place_5 rfl (lv_at hl 0 rfl) ?_
      refine va_get (D := D) (ci := 1) (v := .int (nI (s_n S))) (C := RX1) (T := TX1) (N := 9) hx hb hts hin hown hK hP 0 rfl rfl 0 (by decide) f_35 (fun _ h9 => h9) rfl dX1_place_6 ?_
      refine xn_ge (i := i1) (j := (s_n S)) (tgt := 33) hx hb (by omega) (by omega) dX1_place_9 (by decide) (fun c1 => ?_) (fun c1 => ?_)
      · refine lv_iload_n hx hb dX1_place_33 rfl (lv_at hl 2 rfl) ?_
        exact W.iret (v := acc) hx hb hr (fun t ht hW => ⟨_, rfl, by rw [hacc, show i1 = s_n S by omega]; try rfl, ht⟩) (fun q h => by cases h) dX1_place_34
      · exfalso; omega
    | succ m1 ih =>
      intro i1 acc hm1 hacc ls hl
      refine lv_iload_n hx hb dX1_place_4 rfl (lv_at hl 3 rfl) ?_
      refine lv_aload_n hx hb dX1_place_5 rfl (lv_at hl 0 rfl) ?_
      refine va_get (D := D) (ci := 1) (v := .int (nI (s_n S))) (C := RX1) (T := TX1) (N := 9) hx hb hts hin hown hK hP 0 rfl rfl 0 (by decide) f_35 (fun _ h9 => h9) rfl dX1_place_6 ?_
      refine xn_ge (i := i1) (j := (s_n S)) (tgt := 33) hx hb (by omega) (by omega) dX1_place_9 (by decide) (fun c2 => ?_) (fun c2 => ?_)
      · exfalso; omega
      · refine lv_aload_n hx hb dX1_place_12 rfl (lv_at hl 0 rfl) ?_
        refine lv_iload_n hx hb dX1_place_13 rfl (lv_at hl 3 rfl) ?_
        refine rc_V (v := (nI (m_ahead S i1))) ⟨hx, hb, hml, hown, hts⟩ [.int (nI i1)] [] (c_X1_ahead l D A K S hI i1 (by omega)) (cwV 1 hts gX1_place_X1_ahead rfl rfl rfl (by decide +kernel) ⟨Nat.le_of_ble_eq_true rfl, Nat.le_of_ble_eq_true rfl⟩) hK hP (va_recv hK hP (ci := 1) (q0 := 0) rfl rfl) rfl hl.1 rfl (Nat.le_of_ble_eq_true rfl) ⟨Nat.zero_le _, Nat.zero_le _⟩ dX1_place_14 ?_
        refine lv_iload_n hx hb dX1_place_17 rfl (lv_at hl 1 rfl) ?_
        refine lv_icmp_ne (tgt := 25) hx hb dX1_place_18 (by decide) (fun c3 => ?_) (fun c3 => ?_)
        · refine lv_iload_n hx hb dX1_place_25 rfl (lv_at hl 2 rfl) ?_
          refine lv_istore_n (lv' := [(2, .int acc), (0, .ref (A 0)), (1, .int v), (3, .int (nI i1))]) hx hb dX1_place_26 rfl hl (by decide) rfl (fun ls hl => ?_)
          refine lv_iinc (v := (nI (i1 + 1))) (lv' := [(3, .int (nI (i1 + 1))), (2, .int acc), (0, .ref (A 0)), (1, .int v)]) hx hb dX1_place_27 hl (k := 3) rfl (nI_add i1 1) (by decide) rfl (fun ls hl => ?_)
          refine lv_goto (tgt := 4) hx hb dX1_place_30 (by decide) ?_
          exact ih (i1 + 1) acc (by omega) (by rw [lf, ← hacc]; simp [c2, c3]) ls (lv_sub hl [2, 3, 1, 0] rfl)
        · refine lv_iload_n hx hb dX1_place_21 rfl (lv_at hl 3 rfl) ?_
          refine lv_goto (tgt := 26) hx hb dX1_place_22 (by decide) ?_
          refine lv_istore_n (lv' := [(2, .int (nI i1)), (0, .ref (A 0)), (1, .int v), (3, .int (nI i1))]) hx hb dX1_place_26 rfl hl (by decide) rfl (fun ls hl => ?_)
          refine lv_iinc (v := (nI (i1 + 1))) (lv' := [(3, .int (nI (i1 + 1))), (2, .int (nI i1)), (0, .ref (A 0)), (1, .int v)]) hx hb dX1_place_27 hl (k := 3) rfl (nI_add i1 1) (by decide) rfl (fun ls hl => ?_)
          refine lv_goto (tgt := 4) hx hb dX1_place_30 (by decide) ?_
          exact ih (i1 + 1) (nI i1) (by omega) (by rw [lf, ← hacc]; simp [c2, c3]) ls (lv_sub hl [2, 3, 1, 0] rfl)
  exact L4 (s_n S) 0 (-1) (by omega) (rfl) ls (lv_sub hl [2, 3, 1, 0] rfl)
set_option maxHeartbeats 4000000 in
set_option maxRecDepth 100000 in
theorem c_X1_rank (l : Launch) (D : va_G) (A : Nat → Nat) (K : Nat → ClassId) (S : XS) (hI : x_inv S) (a : Nat) (ha : a < 8) : Met l yX1_rank wsX1_rank (rmD 1) (va_Pc [.ref (A 0), .int (nI a)] (i_w D vwCl (wM A K S) (tM K))) (vp_Si (fun r => r = (nI (m_rank S a)))) 0 0 (fun _ => False) := by
  refine Met.ofW (cc := cX1_rank) (maxL := 4) (ret := some .int) (by decide) rfl ?_
  intro p e s m args below meth c s₁ B hml hv
  obtain ⟨rfl, hP, hK⟩ := hv
  have hx := B.exec
  have hb := B.bytes
  have hr := B.returns
  have hts := atoms_spec (ws := wsX1_rank) B.pre
  have hown : s.vm.findClass RX1 = some m.cls := findClass_of_methodNamed B.named
  have hlocks := B.notSynchronized
  have hn8 := hI.1
  have hin : ∀ w ∈ u_ws RX1 TX1 9, w ∈ wsX1_rank := fun w h => List.mem_cons_of_mem _ (List.mem_append_right _ h)
  have f_23 := hts (.fieldLink RX1 23 "ChronoTrialsModel" "best" "[I") (by decide +kernel)
  have f_35 := hts (.fieldLink RX1 35 "ChronoTrialsModel" "clocks" "I") (by decide +kernel)
  have hl := lv_entry ([.ref (A 0), .int (nI a)]) (n := 4) (Nat.le_of_ble_eq_true rfl)
  rw [lg_entry_eq]
  generalize (lg_sl ([.ref (A 0), .int (nI a)]) ++ List.replicate (4 - (lg_sl ([.ref (A 0), .int (nI a)])).length) Slot.unset).toArray = ls at hl ⊢
  have hl : lv_has ls 4 [(0, .ref (A 0)), (1, .int (nI a))] := hl
  refine lv_iconst (v := 0) hx hb dX1_rank_0 (by decide) ?_
  refine lv_istore_n (lv' := [(2, .int 0), (0, .ref (A 0)), (1, .int (nI a))]) hx hb dX1_rank_1 rfl hl (by decide) rfl (fun ls hl => ?_)
  refine lv_iconst (v := 0) hx hb dX1_rank_2 (by decide) ?_
  refine lv_istore_n (lv' := [(3, .int 0), (2, .int 0), (0, .ref (A 0)), (1, .int (nI a))]) hx hb dX1_rank_3 rfl hl (by decide) rfl (fun ls hl => ?_)
  have L4 : ∀ (m1 i1 : Nat) (acc : Nat), i1 + m1 = s_n S → acc = cn (m_rk S a) i1 → ∀ (ls : Array Slot), lv_has ls 4 [(0, .ref (A 0)), (1, .int (nI a)), (2, .int (nI acc)), (3, .int (nI i1))] → W p l e (headSpec wsX1_rank (rmD 1)).room s m ([.ref (A 0), .int (nI a)] : List Value).toArray below meth c s.heap [] 0 0 (MQ below (vp_Si (fun r => r = (nI (m_rank S a)))) ([.ref (A 0), .int (nI a)] : List Value).toArray s 0 0 (fun _ => False)) (F0 m 4 ls []) := by
    intro m1
    induction m1 with
    | zero =>
      intro i1 acc hm1 hacc ls hl
      refine lv_iload_n hx hb dX1_rank_4 rfl (lv_at hl 3 rfl) ?_
      refine lv_aload_n hx hb dX1_rank_5 rfl (lv_at hl 0 rfl) ?_
      refine va_get (D := D) (ci := 1) (v := .int (nI (s_n S))) (C := RX1) (T := TX1) (N := 9) hx hb hts hin hown hK hP 0 rfl rfl 0 (by decide) f_35 (fun _ h9 => h9) rfl dX1_rank_6 ?_
      refine xn_ge (i := i1) (j := (s_n S)) (tgt := 74) hx hb (by omega) (by omega) dX1_rank_9 (by decide) (fun c1 => ?_) (fun c1 => ?_)
      · refine lv_iload_n hx hb dX1_rank_74 rfl (lv_at hl 2 rfl) ?_
        exact W.iret (v := (nI acc)) hx hb hr (fun t ht hW => ⟨_, rfl, by rw [hacc, show i1 = s_n S by omega]; try rfl, ht⟩) (fun q h => by cases h) dX1_rank_75
      · exfalso; omega
    | succ m1 ih =>
      intro i1 acc hm1 hacc ls hl
      refine lv_iload_n hx hb dX1_rank_4 rfl (lv_at hl 3 rfl) ?_
      refine lv_aload_n hx hb dX1_rank_5 rfl (lv_at hl 0 rfl) ?_
      refine va_get (D := D) (ci := 1) (v := .int (nI (s_n S))) (C := RX1) (T := TX1) (N := 9) hx hb hts hin hown hK hP 0 rfl rfl 0 (by decide) f_35 (fun _ h9 => h9) rfl dX1_rank_6 ?_
      refine xn_ge (i := i1) (j := (s_n S)) (tgt := 74) hx hb (by omega) (by omega) dX1_rank_9 (by decide) (fun c2 => ?_) (fun c2 => ?_)
      · exfalso; omega
      · refine lv_iload_n hx hb dX1_rank_12 rfl (lv_at hl 2 rfl) ?_
        refine lv_iload_n hx hb dX1_rank_13 rfl (lv_at hl 3 rfl) ?_
        refine lv_iload_n hx hb dX1_rank_14 rfl (lv_at hl 1 rfl) ?_
        refine xn_eq (i := i1) (j := a) (tgt := 65) hx hb (by omega) (by omega) dX1_rank_15 (by decide) (fun c3 => ?_) (fun c3 => ?_)
        · refine lv_iconst (v := 0) hx hb dX1_rank_65 (by decide) ?_
          refine xn_add (i := acc) (j := 0) hx hb dX1_rank_66 ?_
          refine lv_istore_n (lv' := [(2, .int (nI (acc + 0))), (0, .ref (A 0)), (1, .int (nI a)), (3, .int (nI i1))]) hx hb dX1_rank_67 rfl hl (by decide) rfl (fun ls hl => ?_)
          refine lv_iinc (v := (nI (i1 + 1))) (lv' := [(3, .int (nI (i1 + 1))), (2, .int (nI (acc + 0))), (0, .ref (A 0)), (1, .int (nI a))]) hx hb dX1_rank_68 hl (k := 3) rfl (nI_add i1 1) (by decide) rfl (fun ls hl => ?_)
          refine lv_goto (tgt := 4) hx hb dX1_rank_71 (by decide) ?_
          exact ih (i1 + 1) (acc + 0) (by omega) (by simp [cn, b2, m_rk, hacc, c2, c3]) ls (lv_sub hl [2, 3, 1, 0] rfl)
        · refine lv_aload_n hx hb dX1_rank_18 rfl (lv_at hl 0 rfl) ?_
          refine va_get (D := D) (ci := 1) (v := .ref (A 2)) (C := RX1) (T := TX1) (N := 9) hx hb hts hin hown hK hP 0 rfl rfl 5 (by decide) f_23 (fun _ h9 => h9) rfl dX1_rank_19 ?_
          refine lv_iload_n hx hb dX1_rank_22 rfl (lv_at hl 1 rfl) ?_
          refine xa_ld (i := a) (v := ((s_bs S) a)) hx hb hK hP 2 1 rfl rfl (by omega) (by decide) (rfl) dX1_rank_23 ?_
          refine lv_iconst (v := (-1)) hx hb dX1_rank_24 (by decide) ?_
          refine lv_icmp_ne (tgt := 41) hx hb dX1_rank_25 (by decide) (fun c4 => ?_) (fun c4 => ?_)
          · refine lv_iconst (v := 0) hx hb dX1_rank_41 (by decide) ?_
            refine lv_aload_n hx hb dX1_rank_42 rfl (lv_at hl 0 rfl) ?_
            refine va_get (D := D) (ci := 1) (v := .ref (A 2)) (C := RX1) (T := TX1) (N := 9) hx hb hts hin hown hK hP 0 rfl rfl 5 (by decide) f_23 (fun _ h9 => h9) rfl dX1_rank_43 ?_
            refine lv_iload_n hx hb dX1_rank_46 rfl (lv_at hl 3 rfl) ?_
            refine xa_ld (i := i1) (v := ((s_bs S) i1)) hx hb hK hP 2 1 rfl rfl (by omega) (by decide) (rfl) dX1_rank_47 ?_
            refine lv_aload_n hx hb dX1_rank_48 rfl (lv_at hl 0 rfl) ?_
            refine va_get (D := D) (ci := 1) (v := .ref (A 2)) (C := RX1) (T := TX1) (N := 9) hx hb hts hin hown hK hP 0 rfl rfl 5 (by decide) f_23 (fun _ h9 => h9) rfl dX1_rank_49 ?_
            refine lv_iload_n hx hb dX1_rank_52 rfl (lv_at hl 1 rfl) ?_
            refine xa_ld (i := a) (v := ((s_bs S) a)) hx hb hK hP 2 1 rfl rfl (by omega) (by decide) (rfl) dX1_rank_53 ?_
            refine lv_iconst (v := (-1)) hx hb dX1_rank_54 (by decide) ?_
            refine rc_S (v := (zi (h_all (-1) 0 ((s_bs S) i1) ((s_bs S) a)))) ⟨hx, hb, hml, hown, hts⟩ [.int 0, .int ((s_bs S) i1), .int ((s_bs S) a), .int (-1)] [.int (nI acc)] (c_X1_holds l 0 ((s_bs S) i1) ((s_bs S) a) (-1)) (va_cwS 4 hts gX1_rank_X1_holds rfl rfl rfl (by decide +kernel) ⟨Nat.le_of_ble_eq_true rfl, Nat.le_of_ble_eq_true rfl⟩) rfl hl.1 rfl (Nat.le_of_ble_eq_true rfl) ⟨Nat.zero_le _, Nat.zero_le _⟩ dX1_rank_55 ?_
            refine xz_eq (b := (h_all (-1) 0 ((s_bs S) i1) ((s_bs S) a))) (tgt := 65) hx hb dX1_rank_58 (by decide) (fun c5 => ?_) (fun c5 => ?_)
            · refine lv_iconst (v := 0) hx hb dX1_rank_65 (by decide) ?_
              refine xn_add (i := acc) (j := 0) hx hb dX1_rank_66 ?_
              refine lv_istore_n (lv' := [(2, .int (nI (acc + 0))), (0, .ref (A 0)), (1, .int (nI a)), (3, .int (nI i1))]) hx hb dX1_rank_67 rfl hl (by decide) rfl (fun ls hl => ?_)
              refine lv_iinc (v := (nI (i1 + 1))) (lv' := [(3, .int (nI (i1 + 1))), (2, .int (nI (acc + 0))), (0, .ref (A 0)), (1, .int (nI a))]) hx hb dX1_rank_68 hl (k := 3) rfl (nI_add i1 1) (by decide) rfl (fun ls hl => ?_)
              refine lv_goto (tgt := 4) hx hb dX1_rank_71 (by decide) ?_
              exact ih (i1 + 1) (acc + 0) (by omega) (by simp [cn, b2, m_rk, hacc, c2, c3, c4, c5]) ls (lv_sub hl [2, 3, 1, 0] rfl)
            · refine lv_iconst (v := 1) hx hb dX1_rank_61 (by decide) ?_
              refine lv_goto (tgt := 66) hx hb dX1_rank_62 (by decide) ?_
              refine xn_add (i := acc) (j := 1) hx hb dX1_rank_66 ?_
              refine lv_istore_n (lv' := [(2, .int (nI (acc + 1))), (0, .ref (A 0)), (1, .int (nI a)), (3, .int (nI i1))]) hx hb dX1_rank_67 rfl hl (by decide) rfl (fun ls hl => ?_)
              refine lv_iinc (v := (nI (i1 + 1))) (lv' := [(3, .int (nI (i1 + 1))), (2, .int (nI (acc + 1))), (0, .ref (A 0)), (1, .int (nI a))]) hx hb dX1_rank_68 hl (k := 3) rfl (nI_add i1 1) (by decide) rfl (fun ls hl => ?_)
              refine lv_goto (tgt := 4) hx hb dX1_rank_71 (by decide) ?_
              exact ih (i1 + 1) (acc + 1) (by omega) (by simp [cn, b2, m_rk, hacc, c2, c3, c4, c5]) ls (lv_sub hl [2, 3, 1, 0] rfl)
          · refine lv_aload_n hx hb dX1_rank_28 rfl (lv_at hl 0 rfl) ?_
            refine va_get (D := D) (ci := 1) (v := .ref (A 2)) (C := RX1) (T := TX1) (N := 9) hx hb hts hin hown hK hP 0 rfl rfl 5 (by decide) f_23 (fun _ h9 => h9) rfl dX1_rank_29 ?_
            refine lv_iload_n hx hb dX1_rank_32 rfl (lv_at hl 3 rfl) ?_
            refine xa_ld (i := i1) (v := ((s_bs S) i1)) hx hb hK hP 2 1 rfl rfl (by omega) (by decide) (rfl) dX1_rank_33 ?_
            refine lv_iconst (v := (-1)) hx hb dX1_rank_34 (by decide) ?_
            refine lv_icmp_eq (tgt := 65) hx hb dX1_rank_35 (by decide) (fun c6 => ?_) (fun c6 => ?_)
            · refine lv_iconst (v := 0) hx hb dX1_rank_65 (by decide) ?_
              refine xn_add (i := acc) (j := 0) hx hb dX1_rank_66 ?_
              refine lv_istore_n (lv' := [(2, .int (nI (acc + 0))), (0, .ref (A 0)), (1, .int (nI a)), (3, .int (nI i1))]) hx hb dX1_rank_67 rfl hl (by decide) rfl (fun ls hl => ?_)
              refine lv_iinc (v := (nI (i1 + 1))) (lv' := [(3, .int (nI (i1 + 1))), (2, .int (nI (acc + 0))), (0, .ref (A 0)), (1, .int (nI a))]) hx hb dX1_rank_68 hl (k := 3) rfl (nI_add i1 1) (by decide) rfl (fun ls hl => ?_)
              refine lv_goto (tgt := 4) hx hb dX1_rank_71 (by decide) ?_
              exact ih (i1 + 1) (acc + 0) (by omega) (by simp [cn, b2, m_rk, hacc, c2, c3, c4, c6]) ls (lv_sub hl [2, 3, 1, 0] rfl)
            · refine lv_goto (tgt := 61) hx hb dX1_rank_38 (by decide) ?_
              refine lv_iconst (v := 1) hx hb dX1_rank_61 (by decide) ?_
              refine lv_goto (tgt := 66) hx hb dX1_rank_62 (by decide) ?_
              refine xn_add (i := acc) (j := 1) hx hb dX1_rank_66 ?_
              refine lv_istore_n (lv' := [(2, .int (nI (acc + 1))), (0, .ref (A 0)), (1, .int (nI a)), (3, .int (nI i1))]) hx hb dX1_rank_67 rfl hl (by decide) rfl (fun ls hl => ?_)
              refine lv_iinc (v := (nI (i1 + 1))) (lv' := [(3, .int (nI (i1 + 1))), (2, .int (nI (acc + 1))), (0, .ref (A 0)), (1, .int (nI a))]) hx hb dX1_rank_68 hl (k := 3) rfl (nI_add i1 1) (by decide) rfl (fun ls hl => ?_)
              refine lv_goto (tgt := 4) hx hb dX1_rank_71 (by decide) ?_
              exact ih (i1 + 1) (acc + 1) (by omega) (by simp [cn, b2, m_rk, hacc, c2, c3, c4, c6]) ls (lv_sub hl [2, 3, 1, 0] rfl)
  exact L4 (s_n S) 0 0 (by omega) (rfl) ls (lv_sub hl [2, 3, 1, 0] rfl)
set_option maxHeartbeats 4000000 in
set_option maxRecDepth 100000 in
theorem c_X1_cold (l : Launch) (D : va_G) (A : Nat → Nat) (K : Nat → ClassId) (S : XS) (hI : x_inv S) (a : Nat) (ha : a < 8) : Met l yX1_cold wsX1_cold (rmD 2) (va_Pc [.ref (A 0), .int (nI a)] (i_w D vwCl (wM A K S) (tM K))) (vp_Si (fun r => r = (nI (x_cold S a)))) 0 0 (fun _ => False) := by
  refine Met.ofW (cc := cX1_cold) (maxL := 4) (ret := some .int) (by decide) rfl ?_
  intro p e s m args below meth c s₁ B hml hv
  obtain ⟨rfl, hP, hK⟩ := hv
  have hx := B.exec
  have hb := B.bytes
  have hr := B.returns
  have hts := atoms_spec (ws := wsX1_cold) B.pre
  have hown : s.vm.findClass RX1 = some m.cls := findClass_of_methodNamed B.named
  have hlocks := B.notSynchronized
  have hn8 := hI.1
  have hin : ∀ w ∈ u_ws RX1 TX1 9, w ∈ wsX1_cold := fun w h => List.mem_cons_of_mem _ (List.mem_append_right _ h)
  have f_19 := hts (.fieldLink RX1 19 "ChronoTrialsModel" "many" "[I") (by decide +kernel)
  have f_32 := hts (.fieldLink RX1 32 "ChronoTrialsModel" "chills" "[I") (by decide +kernel)
  have ht6 := hI.2 a
  have hl := lv_entry ([.ref (A 0), .int (nI a)]) (n := 4) (Nat.le_of_ble_eq_true rfl)
  rw [lg_entry_eq]
  generalize (lg_sl ([.ref (A 0), .int (nI a)]) ++ List.replicate (4 - (lg_sl ([.ref (A 0), .int (nI a)])).length) Slot.unset).toArray = ls at hl ⊢
  have hl : lv_has ls 4 [(0, .ref (A 0)), (1, .int (nI a))] := hl
  refine lv_iconst (v := 0) hx hb dX1_cold_0 (by decide) ?_
  refine lv_istore_n (lv' := [(2, .int 0), (0, .ref (A 0)), (1, .int (nI a))]) hx hb dX1_cold_1 rfl hl (by decide) rfl (fun ls hl => ?_)
  refine lv_iconst (v := 0) hx hb dX1_cold_2 (by decide) ?_
  refine lv_istore_n (lv' := [(3, .int 0), (2, .int 0), (0, .ref (A 0)), (1, .int (nI a))]) hx hb dX1_cold_3 rfl hl (by decide) rfl (fun ls hl => ?_)
  have L4 : ∀ (m1 i1 : Nat) (acc : Nat), i1 + m1 = s_tr S a → acc = cn (fun t => cold S (s_ch S (a * 6 + t))) i1 → ∀ (ls : Array Slot), lv_has ls 4 [(0, .ref (A 0)), (1, .int (nI a)), (2, .int (nI acc)), (3, .int (nI i1))] → W p l e (headSpec wsX1_cold (rmD 2)).room s m ([.ref (A 0), .int (nI a)] : List Value).toArray below meth c s.heap [] 0 0 (MQ below (vp_Si (fun r => r = (nI (x_cold S a)))) ([.ref (A 0), .int (nI a)] : List Value).toArray s 0 0 (fun _ => False)) (F0 m 4 ls []) := by
    intro m1
    induction m1 with
    | zero =>
      intro i1 acc hm1 hacc ls hl
      refine lv_iload_n hx hb dX1_cold_4 rfl (lv_at hl 3 rfl) ?_
      refine lv_aload_n hx hb dX1_cold_5 rfl (lv_at hl 0 rfl) ?_
      refine va_get (D := D) (ci := 1) (v := .ref (A 1)) (C := RX1) (T := TX1) (N := 9) hx hb hts hin hown hK hP 0 rfl rfl 4 (by decide) f_19 (fun _ h9 => h9) rfl dX1_cold_6 ?_
      refine lv_iload_n hx hb dX1_cold_9 rfl (lv_at hl 1 rfl) ?_
      refine xa_ld (i := a) (v := (nI ((s_tr S) a))) hx hb hK hP 1 0 rfl rfl (by omega) (by decide) (rfl) dX1_cold_10 ?_
      refine xn_ge (i := i1) (j := ((s_tr S) a)) (tgt := 46) hx hb (by omega) (by omega) dX1_cold_11 (by decide) (fun c1 => ?_) (fun c1 => ?_)
      · refine lv_iload_n hx hb dX1_cold_46 rfl (lv_at hl 2 rfl) ?_
        exact W.iret (v := (nI acc)) hx hb hr (fun t ht hW => ⟨_, rfl, by rw [hacc, show i1 = s_tr S a by omega]; try rfl, ht⟩) (fun q h => by cases h) dX1_cold_47
      · exfalso; omega
    | succ m1 ih =>
      intro i1 acc hm1 hacc ls hl
      refine lv_iload_n hx hb dX1_cold_4 rfl (lv_at hl 3 rfl) ?_
      refine lv_aload_n hx hb dX1_cold_5 rfl (lv_at hl 0 rfl) ?_
      refine va_get (D := D) (ci := 1) (v := .ref (A 1)) (C := RX1) (T := TX1) (N := 9) hx hb hts hin hown hK hP 0 rfl rfl 4 (by decide) f_19 (fun _ h9 => h9) rfl dX1_cold_6 ?_
      refine lv_iload_n hx hb dX1_cold_9 rfl (lv_at hl 1 rfl) ?_
      refine xa_ld (i := a) (v := (nI ((s_tr S) a))) hx hb hK hP 1 0 rfl rfl (by omega) (by decide) (rfl) dX1_cold_10 ?_
      refine xn_ge (i := i1) (j := ((s_tr S) a)) (tgt := 46) hx hb (by omega) (by omega) dX1_cold_11 (by decide) (fun c2 => ?_) (fun c2 => ?_)
      · exfalso; omega
      · refine lv_iload_n hx hb dX1_cold_14 rfl (lv_at hl 2 rfl) ?_
        refine lv_aload_n hx hb dX1_cold_15 rfl (lv_at hl 0 rfl) ?_
        refine lv_aload_n hx hb dX1_cold_16 rfl (lv_at hl 0 rfl) ?_
        refine va_get (D := D) (ci := 1) (v := .ref (A 5)) (C := RX1) (T := TX1) (N := 9) hx hb hts hin hown hK hP 0 rfl rfl 8 (by decide) f_32 (fun _ h9 => h9) rfl dX1_cold_17 ?_
        refine lv_bipush (v := 6) hx hb dX1_cold_20 (by decide) ?_
        refine lv_iload_n hx hb dX1_cold_22 rfl (lv_at hl 1 rfl) ?_
        refine xn_mulc (i := 6) (j := a) hx hb dX1_cold_23 ?_
        refine lv_iload_n hx hb dX1_cold_24 rfl (lv_at hl 3 rfl) ?_
        refine xn_add (i := (a * 6)) (j := i1) hx hb dX1_cold_25 ?_
        refine xa_ld (i := ((a * 6) + i1)) (v := ((s_ch S) ((a * 6) + i1))) hx hb hK hP 5 4 rfl rfl (by omega) (by decide) (rfl) dX1_cold_26 ?_
        refine rc_V (v := (zi (cold S ((s_ch S) ((a * 6) + i1))))) ⟨hx, hb, hml, hown, hts⟩ [.int ((s_ch S) ((a * 6) + i1))] [.int (nI acc)] (c_X1_isCold l D A K S hI ((s_ch S) ((a * 6) + i1))) (cwV 1 hts gX1_cold_X1_isCold rfl rfl rfl (by decide +kernel) ⟨Nat.le_of_ble_eq_true rfl, Nat.le_of_ble_eq_true rfl⟩) hK hP (va_recv hK hP (ci := 1) (q0 := 0) rfl rfl) rfl hl.1 rfl (Nat.le_of_ble_eq_true rfl) ⟨Nat.zero_le _, Nat.zero_le _⟩ dX1_cold_27 ?_
        refine xz_eq (b := (cold S ((s_ch S) ((a * 6) + i1)))) (tgt := 37) hx hb dX1_cold_30 (by decide) (fun c3 => ?_) (fun c3 => ?_)
        · refine lv_iconst (v := 0) hx hb dX1_cold_37 (by decide) ?_
          refine xn_add (i := acc) (j := 0) hx hb dX1_cold_38 ?_
          refine lv_istore_n (lv' := [(2, .int (nI (acc + 0))), (0, .ref (A 0)), (1, .int (nI a)), (3, .int (nI i1))]) hx hb dX1_cold_39 rfl hl (by decide) rfl (fun ls hl => ?_)
          refine lv_iinc (v := (nI (i1 + 1))) (lv' := [(3, .int (nI (i1 + 1))), (2, .int (nI (acc + 0))), (0, .ref (A 0)), (1, .int (nI a))]) hx hb dX1_cold_40 hl (k := 3) rfl (nI_add i1 1) (by decide) rfl (fun ls hl => ?_)
          refine lv_goto (tgt := 4) hx hb dX1_cold_43 (by decide) ?_
          exact ih (i1 + 1) (acc + 0) (by omega) (by simp [cn, b2, hacc, c2, c3]) ls (lv_sub hl [2, 3, 1, 0] rfl)
        · refine lv_iconst (v := 1) hx hb dX1_cold_33 (by decide) ?_
          refine lv_goto (tgt := 38) hx hb dX1_cold_34 (by decide) ?_
          refine xn_add (i := acc) (j := 1) hx hb dX1_cold_38 ?_
          refine lv_istore_n (lv' := [(2, .int (nI (acc + 1))), (0, .ref (A 0)), (1, .int (nI a)), (3, .int (nI i1))]) hx hb dX1_cold_39 rfl hl (by decide) rfl (fun ls hl => ?_)
          refine lv_iinc (v := (nI (i1 + 1))) (lv' := [(3, .int (nI (i1 + 1))), (2, .int (nI (acc + 1))), (0, .ref (A 0)), (1, .int (nI a))]) hx hb dX1_cold_40 hl (k := 3) rfl (nI_add i1 1) (by decide) rfl (fun ls hl => ?_)
          refine lv_goto (tgt := 4) hx hb dX1_cold_43 (by decide) ?_
          exact ih (i1 + 1) (acc + 1) (by omega) (by simp [cn, b2, hacc, c2, c3]) ls (lv_sub hl [2, 3, 1, 0] rfl)
  exact L4 (s_tr S a) 0 0 (by omega) (rfl) ls (lv_sub hl [2, 3, 1, 0] rfl)
set_option maxHeartbeats 4000000 in
set_option maxRecDepth 100000 in
theorem c_X1_more (l : Launch) (D : va_G) (A : Nat → Nat) (K : Nat → ClassId) (S : XS) (hI : x_inv S) (a : Nat) (ha : a < 8) : Met l yX1_more wsX1_more (rmD 1) (va_Pc [.ref (A 0), .int (nI a)] (i_w D vwCl (wM A K S) (tM K))) (vp_Si (fun r => r = (nI (x_more S a)))) 0 0 (fun _ => False) := by
  refine Met.ofW (cc := cX1_more) (maxL := 3) (ret := some .int) (by decide) rfl ?_
  intro p e s m args below meth c s₁ B hml hv
  obtain ⟨rfl, hP, hK⟩ := hv
  have hx := B.exec
  have hb := B.bytes
  have hr := B.returns
  have hts := atoms_spec (ws := wsX1_more) B.pre
  have hown : s.vm.findClass RX1 = some m.cls := findClass_of_methodNamed B.named
  have hlocks := B.notSynchronized
  have hn8 := hI.1
  have hin : ∀ w ∈ u_ws RX1 TX1 9, w ∈ wsX1_more := fun w h => List.mem_cons_of_mem _ (List.mem_append_right _ h)
  have f_19 := hts (.fieldLink RX1 19 "ChronoTrialsModel" "many" "[I") (by decide +kernel)
  have f_23 := hts (.fieldLink RX1 23 "ChronoTrialsModel" "best" "[I") (by decide +kernel)
  have f_29 := hts (.fieldLink RX1 29 "ChronoTrialsModel" "rates" "[I") (by decide +kernel)
  have ht6 := hI.2 a
  have hl := lv_entry ([.ref (A 0), .int (nI a)]) (n := 3) (Nat.le_of_ble_eq_true rfl)
  rw [lg_entry_eq]
  generalize (lg_sl ([.ref (A 0), .int (nI a)]) ++ List.replicate (3 - (lg_sl ([.ref (A 0), .int (nI a)])).length) Slot.unset).toArray = ls at hl ⊢
  have hl : lv_has ls 3 [(0, .ref (A 0)), (1, .int (nI a))] := hl
  refine lv_iconst (v := 0) hx hb dX1_more_0 (by decide) ?_
  refine lv_istore_n (lv' := [(2, .int 0), (0, .ref (A 0)), (1, .int (nI a))]) hx hb dX1_more_1 rfl hl (by decide) rfl (fun ls hl => ?_)
  have L2 : ∀ (m1 i1 : Nat), i1 + m1 = s_tr S a → x_more S a = wh (fun t => h_all (-1) 2 (s_rt S (a * 6 + t)) (s_bs S a)) m1 i1 → ∀ (ls : Array Slot), lv_has ls 3 [(0, .ref (A 0)), (1, .int (nI a)), (2, .int (nI i1))] → W p l e (headSpec wsX1_more (rmD 1)).room s m ([.ref (A 0), .int (nI a)] : List Value).toArray below meth c s.heap [] 0 0 (MQ below (vp_Si (fun r => r = (nI (x_more S a)))) ([.ref (A 0), .int (nI a)] : List Value).toArray s 0 0 (fun _ => False)) (F0 m 2 ls []) := by
    intro m1
    induction m1 with
    | zero =>
      intro i1 hm1 hinv ls hl
      refine lv_iload_n hx hb dX1_more_2 rfl (lv_at hl 2 rfl) ?_
      refine lv_aload_n hx hb dX1_more_3 rfl (lv_at hl 0 rfl) ?_
      refine va_get (D := D) (ci := 1) (v := .ref (A 1)) (C := RX1) (T := TX1) (N := 9) hx hb hts hin hown hK hP 0 rfl rfl 4 (by decide) f_19 (fun _ h9 => h9) rfl dX1_more_4 ?_
      refine lv_iload_n hx hb dX1_more_7 rfl (lv_at hl 1 rfl) ?_
      refine xa_ld (i := a) (v := (nI ((s_tr S) a))) hx hb hK hP 1 0 rfl rfl (by omega) (by decide) (rfl) dX1_more_8 ?_
      refine xn_ge (i := i1) (j := ((s_tr S) a)) (tgt := 43) hx hb (by omega) (by omega) dX1_more_9 (by decide) (fun c1 => ?_) (fun c1 => ?_)
      · refine lv_iload_n hx hb dX1_more_43 rfl (lv_at hl 2 rfl) ?_
        exact W.iret (v := (nI i1)) hx hb hr (fun t ht hW => ⟨_, rfl, by rw [hinv]; simp [wh, hinv, c1], ht⟩) (fun q h => by cases h) dX1_more_44
      · exfalso; omega
    | succ m1 ih =>
      intro i1 hm1 hinv ls hl
      refine lv_iload_n hx hb dX1_more_2 rfl (lv_at hl 2 rfl) ?_
      refine lv_aload_n hx hb dX1_more_3 rfl (lv_at hl 0 rfl) ?_
      refine va_get (D := D) (ci := 1) (v := .ref (A 1)) (C := RX1) (T := TX1) (N := 9) hx hb hts hin hown hK hP 0 rfl rfl 4 (by decide) f_19 (fun _ h9 => h9) rfl dX1_more_4 ?_
      refine lv_iload_n hx hb dX1_more_7 rfl (lv_at hl 1 rfl) ?_
      refine xa_ld (i := a) (v := (nI ((s_tr S) a))) hx hb hK hP 1 0 rfl rfl (by omega) (by decide) (rfl) dX1_more_8 ?_
      refine xn_ge (i := i1) (j := ((s_tr S) a)) (tgt := 43) hx hb (by omega) (by omega) dX1_more_9 (by decide) (fun c2 => ?_) (fun c2 => ?_)
      · exfalso; omega
      · refine lv_iconst (v := 2) hx hb dX1_more_12 (by decide) ?_
        refine lv_aload_n hx hb dX1_more_13 rfl (lv_at hl 0 rfl) ?_
        refine va_get (D := D) (ci := 1) (v := .ref (A 4)) (C := RX1) (T := TX1) (N := 9) hx hb hts hin hown hK hP 0 rfl rfl 7 (by decide) f_29 (fun _ h9 => h9) rfl dX1_more_14 ?_
        refine lv_bipush (v := 6) hx hb dX1_more_17 (by decide) ?_
        refine lv_iload_n hx hb dX1_more_19 rfl (lv_at hl 1 rfl) ?_
        refine xn_mulc (i := 6) (j := a) hx hb dX1_more_20 ?_
        refine lv_iload_n hx hb dX1_more_21 rfl (lv_at hl 2 rfl) ?_
        refine xn_add (i := (a * 6)) (j := i1) hx hb dX1_more_22 ?_
        refine xa_ld (i := ((a * 6) + i1)) (v := ((s_rt S) ((a * 6) + i1))) hx hb hK hP 4 3 rfl rfl (by omega) (by decide) (rfl) dX1_more_23 ?_
        refine lv_aload_n hx hb dX1_more_24 rfl (lv_at hl 0 rfl) ?_
        refine va_get (D := D) (ci := 1) (v := .ref (A 2)) (C := RX1) (T := TX1) (N := 9) hx hb hts hin hown hK hP 0 rfl rfl 5 (by decide) f_23 (fun _ h9 => h9) rfl dX1_more_25 ?_
        refine lv_iload_n hx hb dX1_more_28 rfl (lv_at hl 1 rfl) ?_
        refine xa_ld (i := a) (v := ((s_bs S) a)) hx hb hK hP 2 1 rfl rfl (by omega) (by decide) (rfl) dX1_more_29 ?_
        refine lv_iconst (v := (-1)) hx hb dX1_more_30 (by decide) ?_
        refine rc_S (v := (zi (h_all (-1) 2 ((s_rt S) ((a * 6) + i1)) ((s_bs S) a)))) ⟨hx, hb, hml, hown, hts⟩ [.int 2, .int ((s_rt S) ((a * 6) + i1)), .int ((s_bs S) a), .int (-1)] [] (c_X1_holds l 2 ((s_rt S) ((a * 6) + i1)) ((s_bs S) a) (-1)) (va_cwS 4 hts gX1_more_X1_holds rfl rfl rfl (by decide +kernel) ⟨Nat.le_of_ble_eq_true rfl, Nat.le_of_ble_eq_true rfl⟩) rfl hl.1 rfl (Nat.le_of_ble_eq_true rfl) ⟨Nat.zero_le _, Nat.zero_le _⟩ dX1_more_31 ?_
        refine xz_eq (b := (h_all (-1) 2 ((s_rt S) ((a * 6) + i1)) ((s_bs S) a))) (tgt := 43) hx hb dX1_more_34 (by decide) (fun c3 => ?_) (fun c3 => ?_)
        · refine lv_iload_n hx hb dX1_more_43 rfl (lv_at hl 2 rfl) ?_
          exact W.iret (v := (nI i1)) hx hb hr (fun t ht hW => ⟨_, rfl, by rw [hinv]; simp [wh, hinv, c2, c3], ht⟩) (fun q h => by cases h) dX1_more_44
        · refine lv_iinc (v := (nI (i1 + 1))) (lv' := [(2, .int (nI (i1 + 1))), (0, .ref (A 0)), (1, .int (nI a))]) hx hb dX1_more_37 hl (k := 2) rfl (nI_add i1 1) (by decide) rfl (fun ls hl => ?_)
          refine lv_goto (tgt := 2) hx hb dX1_more_40 (by decide) ?_
          exact ih (i1 + 1) (by omega) (by rw [hinv, wh]; simp [hinv, c2, c3]) ls (lv_sub hl [1, 2, 0] rfl)
  exact L2 (s_tr S a) 0 (by omega) (rfl) ls (lv_sub hl [1, 2, 0] rfl)
set_option maxHeartbeats 4000000 in
set_option maxRecDepth 100000 in
theorem c_X1_seals (l : Launch) (D : va_G) (A : Nat → Nat) (K : Nat → ClassId) (S : XS) (hI : x_inv S) : Met l yX1_seals wsX1_seals (rmD 0) (va_Pc [.ref (A 0)] (i_w D vwCl (wM A K S) (tM K))) (vp_Si (fun r => r = (nI (cn (s_sl S) (s_n S))))) 0 0 (fun _ => False) := by
  refine Met.ofW (cc := cX1_seals) (maxL := 3) (ret := some .int) (by decide) rfl ?_
  intro p e s m args below meth c s₁ B hml hv
  obtain ⟨rfl, hP, hK⟩ := hv
  have hx := B.exec
  have hb := B.bytes
  have hr := B.returns
  have hts := atoms_spec (ws := wsX1_seals) B.pre
  have hown : s.vm.findClass RX1 = some m.cls := findClass_of_methodNamed B.named
  have hlocks := B.notSynchronized
  have hn8 := hI.1
  have hin : ∀ w ∈ u_ws RX1 TX1 9, w ∈ wsX1_seals := fun w h => List.mem_cons_of_mem _ (List.mem_append_right _ h)
  have f_26 := hts (.fieldLink RX1 26 "ChronoTrialsModel" "seal" "[I") (by decide +kernel)
  have f_35 := hts (.fieldLink RX1 35 "ChronoTrialsModel" "clocks" "I") (by decide +kernel)
  have hl := lv_entry ([.ref (A 0)]) (n := 3) (Nat.le_of_ble_eq_true rfl)
  rw [lg_entry_eq]
  generalize (lg_sl ([.ref (A 0)]) ++ List.replicate (3 - (lg_sl ([.ref (A 0)])).length) Slot.unset).toArray = ls at hl ⊢
  have hl : lv_has ls 3 [(0, .ref (A 0))] := hl
  refine lv_iconst (v := 0) hx hb dX1_seals_0 (by decide) ?_
  refine lv_istore_n (lv' := [(1, .int 0), (0, .ref (A 0))]) hx hb dX1_seals_1 rfl hl (by decide) rfl (fun ls hl => ?_)
  refine lv_iconst (v := 0) hx hb dX1_seals_2 (by decide) ?_
  refine lv_istore_n (lv' := [(2, .int 0), (1, .int 0), (0, .ref (A 0))]) hx hb dX1_seals_3 rfl hl (by decide) rfl (fun ls hl => ?_)
  have L4 : ∀ (m1 i1 : Nat) (acc : Nat), i1 + m1 = s_n S → acc = cn (s_sl S) i1 → ∀ (ls : Array Slot), lv_has ls 3 [(0, .ref (A 0)), (1, .int (nI acc)), (2, .int (nI i1))] → W p l e (headSpec wsX1_seals (rmD 0)).room s m ([.ref (A 0)] : List Value).toArray below meth c s.heap [] 0 0 (MQ below (vp_Si (fun r => r = (nI (cn (s_sl S) (s_n S))))) ([.ref (A 0)] : List Value).toArray s 0 0 (fun _ => False)) (F0 m 4 ls []) := by
    intro m1
    induction m1 with
    | zero =>
      intro i1 acc hm1 hacc ls hl
      refine lv_iload_n hx hb dX1_seals_4 rfl (lv_at hl 2 rfl) ?_
      refine lv_aload_n hx hb dX1_seals_5 rfl (lv_at hl 0 rfl) ?_
      refine va_get (D := D) (ci := 1) (v := .int (nI (s_n S))) (C := RX1) (T := TX1) (N := 9) hx hb hts hin hown hK hP 0 rfl rfl 0 (by decide) f_35 (fun _ h9 => h9) rfl dX1_seals_6 ?_
      refine xn_ge (i := i1) (j := (s_n S)) (tgt := 27) hx hb (by omega) (by omega) dX1_seals_9 (by decide) (fun c1 => ?_) (fun c1 => ?_)
      · refine lv_iload_n hx hb dX1_seals_27 rfl (lv_at hl 1 rfl) ?_
        exact W.iret (v := (nI acc)) hx hb hr (fun t ht hW => ⟨_, rfl, by rw [hacc, show i1 = s_n S by omega]; try rfl, ht⟩) (fun q h => by cases h) dX1_seals_28
      · exfalso; omega
    | succ m1 ih =>
      intro i1 acc hm1 hacc ls hl
      refine lv_iload_n hx hb dX1_seals_4 rfl (lv_at hl 2 rfl) ?_
      refine lv_aload_n hx hb dX1_seals_5 rfl (lv_at hl 0 rfl) ?_
      refine va_get (D := D) (ci := 1) (v := .int (nI (s_n S))) (C := RX1) (T := TX1) (N := 9) hx hb hts hin hown hK hP 0 rfl rfl 0 (by decide) f_35 (fun _ h9 => h9) rfl dX1_seals_6 ?_
      refine xn_ge (i := i1) (j := (s_n S)) (tgt := 27) hx hb (by omega) (by omega) dX1_seals_9 (by decide) (fun c2 => ?_) (fun c2 => ?_)
      · exfalso; omega
      · refine lv_iload_n hx hb dX1_seals_12 rfl (lv_at hl 1 rfl) ?_
        refine lv_aload_n hx hb dX1_seals_13 rfl (lv_at hl 0 rfl) ?_
        refine va_get (D := D) (ci := 1) (v := .ref (A 3)) (C := RX1) (T := TX1) (N := 9) hx hb hts hin hown hK hP 0 rfl rfl 6 (by decide) f_26 (fun _ h9 => h9) rfl dX1_seals_14 ?_
        refine lv_iload_n hx hb dX1_seals_17 rfl (lv_at hl 2 rfl) ?_
        refine xa_ld (i := i1) (v := (zi ((s_sl S) i1))) hx hb hK hP 3 2 rfl rfl (by omega) (by decide) (rfl) dX1_seals_18 ?_
        refine xz_add (i := acc) (b := ((s_sl S) i1)) hx hb dX1_seals_19 ?_
        refine lv_istore_n (lv' := [(1, .int (nI (acc + b2 ((s_sl S) i1) 1))), (0, .ref (A 0)), (2, .int (nI i1))]) hx hb dX1_seals_20 rfl hl (by decide) rfl (fun ls hl => ?_)
        refine lv_iinc (v := (nI (i1 + 1))) (lv' := [(2, .int (nI (i1 + 1))), (1, .int (nI (acc + b2 ((s_sl S) i1) 1))), (0, .ref (A 0))]) hx hb dX1_seals_21 hl (k := 2) rfl (nI_add i1 1) (by decide) rfl (fun ls hl => ?_)
        refine lv_goto (tgt := 4) hx hb dX1_seals_24 (by decide) ?_
        exact ih (i1 + 1) (acc + b2 ((s_sl S) i1) 1) (by omega) (by simp [cn, b2, hacc, c2]) ls (lv_sub hl [2, 1, 0] rfl)
  exact L4 (s_n S) 0 0 (by omega) (rfl) ls (lv_sub hl [2, 1, 0] rfl)
set_option maxHeartbeats 4000000 in
set_option maxRecDepth 100000 in
theorem c_X1_trials (l : Launch) (D : va_G) (A : Nat → Nat) (K : Nat → ClassId) (S : XS) (hI : x_inv S) : Met l yX1_trials wsX1_trials (rmD 0) (va_Pc [.ref (A 0)] (i_w D vwCl (wM A K S) (tM K))) (vp_Si (fun r => r = (nI (sm (s_tr S) (s_n S))))) 0 0 (fun _ => False) := by
  refine Met.ofW (cc := cX1_trials) (maxL := 3) (ret := some .int) (by decide) rfl ?_
  intro p e s m args below meth c s₁ B hml hv
  obtain ⟨rfl, hP, hK⟩ := hv
  have hx := B.exec
  have hb := B.bytes
  have hr := B.returns
  have hts := atoms_spec (ws := wsX1_trials) B.pre
  have hown : s.vm.findClass RX1 = some m.cls := findClass_of_methodNamed B.named
  have hlocks := B.notSynchronized
  have hn8 := hI.1
  have hin : ∀ w ∈ u_ws RX1 TX1 9, w ∈ wsX1_trials := fun w h => List.mem_cons_of_mem _ (List.mem_append_right _ h)
  have f_19 := hts (.fieldLink RX1 19 "ChronoTrialsModel" "many" "[I") (by decide +kernel)
  have f_35 := hts (.fieldLink RX1 35 "ChronoTrialsModel" "clocks" "I") (by decide +kernel)
  have hl := lv_entry ([.ref (A 0)]) (n := 3) (Nat.le_of_ble_eq_true rfl)
  rw [lg_entry_eq]
  generalize (lg_sl ([.ref (A 0)]) ++ List.replicate (3 - (lg_sl ([.ref (A 0)])).length) Slot.unset).toArray = ls at hl ⊢
  have hl : lv_has ls 3 [(0, .ref (A 0))] := hl
  refine lv_iconst (v := 0) hx hb dX1_trials_0 (by decide) ?_
  refine lv_istore_n (lv' := [(1, .int 0), (0, .ref (A 0))]) hx hb dX1_trials_1 rfl hl (by decide) rfl (fun ls hl => ?_)
  refine lv_iconst (v := 0) hx hb dX1_trials_2 (by decide) ?_
  refine lv_istore_n (lv' := [(2, .int 0), (1, .int 0), (0, .ref (A 0))]) hx hb dX1_trials_3 rfl hl (by decide) rfl (fun ls hl => ?_)
  have L4 : ∀ (m1 i1 : Nat) (acc : Nat), i1 + m1 = s_n S → acc = sm (s_tr S) i1 → ∀ (ls : Array Slot), lv_has ls 3 [(0, .ref (A 0)), (1, .int (nI acc)), (2, .int (nI i1))] → W p l e (headSpec wsX1_trials (rmD 0)).room s m ([.ref (A 0)] : List Value).toArray below meth c s.heap [] 0 0 (MQ below (vp_Si (fun r => r = (nI (sm (s_tr S) (s_n S))))) ([.ref (A 0)] : List Value).toArray s 0 0 (fun _ => False)) (F0 m 4 ls []) := by
    intro m1
    induction m1 with
    | zero =>
      intro i1 acc hm1 hacc ls hl
      refine lv_iload_n hx hb dX1_trials_4 rfl (lv_at hl 2 rfl) ?_
      refine lv_aload_n hx hb dX1_trials_5 rfl (lv_at hl 0 rfl) ?_
      refine va_get (D := D) (ci := 1) (v := .int (nI (s_n S))) (C := RX1) (T := TX1) (N := 9) hx hb hts hin hown hK hP 0 rfl rfl 0 (by decide) f_35 (fun _ h9 => h9) rfl dX1_trials_6 ?_
      refine xn_ge (i := i1) (j := (s_n S)) (tgt := 27) hx hb (by omega) (by omega) dX1_trials_9 (by decide) (fun c1 => ?_) (fun c1 => ?_)
      · refine lv_iload_n hx hb dX1_trials_27 rfl (lv_at hl 1 rfl) ?_
        exact W.iret (v := (nI acc)) hx hb hr (fun t ht hW => ⟨_, rfl, by rw [hacc, show i1 = s_n S by omega]; try rfl, ht⟩) (fun q h => by cases h) dX1_trials_28
      · exfalso; omega
    | succ m1 ih =>
      intro i1 acc hm1 hacc ls hl
      refine lv_iload_n hx hb dX1_trials_4 rfl (lv_at hl 2 rfl) ?_
      refine lv_aload_n hx hb dX1_trials_5 rfl (lv_at hl 0 rfl) ?_
      refine va_get (D := D) (ci := 1) (v := .int (nI (s_n S))) (C := RX1) (T := TX1) (N := 9) hx hb hts hin hown hK hP 0 rfl rfl 0 (by decide) f_35 (fun _ h9 => h9) rfl dX1_trials_6 ?_
      refine xn_ge (i := i1) (j := (s_n S)) (tgt := 27) hx hb (by omega) (by omega) dX1_trials_9 (by decide) (fun c2 => ?_) (fun c2 => ?_)
      · exfalso; omega
      · refine lv_iload_n hx hb dX1_trials_12 rfl (lv_at hl 1 rfl) ?_
        refine lv_aload_n hx hb dX1_trials_13 rfl (lv_at hl 0 rfl) ?_
        refine va_get (D := D) (ci := 1) (v := .ref (A 1)) (C := RX1) (T := TX1) (N := 9) hx hb hts hin hown hK hP 0 rfl rfl 4 (by decide) f_19 (fun _ h9 => h9) rfl dX1_trials_14 ?_
        refine lv_iload_n hx hb dX1_trials_17 rfl (lv_at hl 2 rfl) ?_
        refine xa_ld (i := i1) (v := (nI ((s_tr S) i1))) hx hb hK hP 1 0 rfl rfl (by omega) (by decide) (rfl) dX1_trials_18 ?_
        refine xn_add (i := acc) (j := ((s_tr S) i1)) hx hb dX1_trials_19 ?_
        refine lv_istore_n (lv' := [(1, .int (nI (acc + ((s_tr S) i1)))), (0, .ref (A 0)), (2, .int (nI i1))]) hx hb dX1_trials_20 rfl hl (by decide) rfl (fun ls hl => ?_)
        refine lv_iinc (v := (nI (i1 + 1))) (lv' := [(2, .int (nI (i1 + 1))), (1, .int (nI (acc + ((s_tr S) i1)))), (0, .ref (A 0))]) hx hb dX1_trials_21 hl (k := 2) rfl (nI_add i1 1) (by decide) rfl (fun ls hl => ?_)
        refine lv_goto (tgt := 4) hx hb dX1_trials_24 (by decide) ?_
        exact ih (i1 + 1) (acc + ((s_tr S) i1)) (by omega) (by simp [sm, hacc, c2]) ls (lv_sub hl [2, 1, 0] rfl)
  exact L4 (s_n S) 0 0 (by omega) (rfl) ls (lv_sub hl [2, 1, 0] rfl)
set_option maxHeartbeats 4000000 in
set_option maxRecDepth 100000 in
theorem c_X1_first (l : Launch) (D : va_G) (A : Nat → Nat) (K : Nat → ClassId) (S : XS) (hI : x_inv S) : Met l yX1_first wsX1_first (rmD 5) (va_Pc [.ref (A 0)] (i_w D vwCl (wM A K S) (tM K))) (vp_Si (fun r => r = (m_first S))) 0 0 (fun _ => False) := by
  refine Met.ofW (cc := cX1_first) (maxL := 2) (ret := some .int) (by decide) rfl ?_
  intro p e s m args below meth c s₁ B hml hv
  obtain ⟨rfl, hP, hK⟩ := hv
  have hx := B.exec
  have hb := B.bytes
  have hr := B.returns
  have hts := atoms_spec (ws := wsX1_first) B.pre
  have hown : s.vm.findClass RX1 = some m.cls := findClass_of_methodNamed B.named
  have hlocks := B.notSynchronized
  have hn8 := hI.1
  have hin : ∀ w ∈ u_ws RX1 TX1 9, w ∈ wsX1_first := fun w h => List.mem_cons_of_mem _ (List.mem_append_right _ h)
  have f_23 := hts (.fieldLink RX1 23 "ChronoTrialsModel" "best" "[I") (by decide +kernel)
  have hl := lv_entry ([.ref (A 0)]) (n := 2) (Nat.le_of_ble_eq_true rfl)
  rw [lg_entry_eq]
  generalize (lg_sl ([.ref (A 0)]) ++ List.replicate (2 - (lg_sl ([.ref (A 0)])).length) Slot.unset).toArray = ls at hl ⊢
  have hl : lv_has ls 2 [(0, .ref (A 0))] := hl
  refine lv_aload_n hx hb dX1_first_0 rfl (lv_at hl 0 rfl) ?_
  refine lv_iconst (v := 0) hx hb dX1_first_1 (by decide) ?_
  refine rc_V (v := (m_place S 0)) ⟨hx, hb, hml, hown, hts⟩ [.int 0] [] (c_X1_place l D A K S hI 0) (cwV 1 hts gX1_first_X1_place rfl rfl rfl (by decide +kernel) ⟨Nat.le_of_ble_eq_true rfl, Nat.le_of_ble_eq_true rfl⟩) hK hP (va_recv hK hP (ci := 1) (q0 := 0) rfl rfl) rfl hl.1 rfl (Nat.le_of_ble_eq_true rfl) ⟨Nat.zero_le _, Nat.zero_le _⟩ dX1_first_2 ?_
  rcases m_place_c S 0 with e0 | ⟨j, hj, e0⟩
  · rw [e0]
    refine lv_istore_n (lv' := [(1, .int (-1)), (0, .ref (A 0))]) hx hb dX1_first_5 rfl hl (by decide) rfl (fun ls hl => ?_)
    refine lv_iload_n hx hb dX1_first_6 rfl (lv_at hl 0 rfl) ?_
    refine lv_iconst (v := (-1)) hx hb dX1_first_7 (by decide) ?_
    refine lv_icmp_eq (tgt := 21) hx hb dX1_first_8 (by decide) (fun c1 => ?_) (fun c1 => ?_)
    · refine lv_iconst (v := (-1)) hx hb dX1_first_21 (by decide) ?_
      refine lv_goto (tgt := 26) hx hb dX1_first_22 (by decide) ?_
      exact W.iret (v := (-1)) hx hb hr (fun t ht hW => ⟨_, rfl, by simp [m_first, e0, c1], ht⟩) (fun q h => by cases h) dX1_first_26
    · exact absurd rfl c1
  · rw [e0]
    have ej : (nI j).toNatClampNeg = j := nI_clamp (by omega)
    refine lv_istore_n (lv' := [(1, .int (nI j)), (0, .ref (A 0))]) hx hb dX1_first_5 rfl hl (by decide) rfl (fun ls hl => ?_)
    refine lv_iload_n hx hb dX1_first_6 rfl (lv_at hl 0 rfl) ?_
    refine lv_iconst (v := (-1)) hx hb dX1_first_7 (by decide) ?_
    refine lv_icmp_eq (tgt := 21) hx hb dX1_first_8 (by decide) (fun c2 => ?_) (fun c2 => ?_)
    · refine lv_iconst (v := (-1)) hx hb dX1_first_21 (by decide) ?_
      refine lv_goto (tgt := 26) hx hb dX1_first_22 (by decide) ?_
      exact W.iret (v := (-1)) hx hb hr (fun t ht hW => ⟨_, rfl, by simp [m_first, e0, ej, c2], ht⟩) (fun q h => by cases h) dX1_first_26
    · refine lv_aload_n hx hb dX1_first_11 rfl (lv_at hl 1 rfl) ?_
      refine va_get (D := D) (ci := 1) (v := .ref (A 2)) (C := RX1) (T := TX1) (N := 9) hx hb hts hin hown hK hP 0 rfl rfl 5 (by decide) f_23 (fun _ h9 => h9) rfl dX1_first_12 ?_
      refine lv_iload_n hx hb dX1_first_15 rfl (lv_at hl 0 rfl) ?_
      refine xa_ld (i := j) (v := ((s_bs S) j)) hx hb hK hP 2 1 rfl rfl (by omega) (by decide) (rfl) dX1_first_16 ?_
      refine lv_iconst (v := (-1)) hx hb dX1_first_17 (by decide) ?_
      refine lv_icmp_ne (tgt := 25) hx hb dX1_first_18 (by decide) (fun c3 => ?_) (fun c3 => ?_)
      · refine lv_iload_n hx hb dX1_first_25 rfl (lv_at hl 0 rfl) ?_
        exact W.iret (v := (nI j)) hx hb hr (fun t ht hW => ⟨_, rfl, by simp [m_first, e0, ej, c2, c3], ht⟩) (fun q h => by cases h) dX1_first_26
      · refine lv_iconst (v := (-1)) hx hb dX1_first_21 (by decide) ?_
        refine lv_goto (tgt := 26) hx hb dX1_first_22 (by decide) ?_
        exact W.iret (v := (-1)) hx hb hr (fun t ht hW => ⟨_, rfl, by simp [m_first, e0, ej, c2, c3], ht⟩) (fun q h => by cases h) dX1_first_26
end
section
set_option maxHeartbeats 4000000 in
set_option maxRecDepth 100000 in
theorem c_X1_tell (l : Launch) (D : va_G) (A : Nat → Nat) (K : Nat → ClassId) (S : XS) (hI : x_inv S) (v : Int32) (w : Int32) : Met l yX1_tell wsX1_tell (rmD 3) (va_Pc [.ref (A 0), .int v, .int w] (i_w D vwCl (wM A K S) (tM K))) (vp_Si (fun r => r = (m_tell S v w))) 0 0 (fun _ => False) := by
  refine Met.ofW (cc := cX1_tell) (maxL := 3) (ret := some .int) (by decide) rfl ?_
  intro p e s m args below meth c s₁ B hml hv
  obtain ⟨rfl, hP, hK⟩ := hv
  have hx := B.exec
  have hb := B.bytes
  have hr := B.returns
  have hts := atoms_spec (ws := wsX1_tell) B.pre
  have hown : s.vm.findClass RX1 = some m.cls := findClass_of_methodNamed B.named
  have hlocks := B.notSynchronized
  have hn8 := hI.1
  have hin : ∀ w ∈ u_ws RX1 TX1 9, w ∈ wsX1_tell := fun w h => List.mem_cons_of_mem _ (List.mem_append_right _ h)
  have f_19 := hts (.fieldLink RX1 19 "ChronoTrialsModel" "many" "[I") (by decide +kernel)
  have f_23 := hts (.fieldLink RX1 23 "ChronoTrialsModel" "best" "[I") (by decide +kernel)
  have f_26 := hts (.fieldLink RX1 26 "ChronoTrialsModel" "seal" "[I") (by decide +kernel)
  have hl := lv_entry ([.ref (A 0), .int v, .int w]) (n := 3) (Nat.le_of_ble_eq_true rfl)
  rw [lg_entry_eq]
  generalize (lg_sl ([.ref (A 0), .int v, .int w]) ++ List.replicate (3 - (lg_sl ([.ref (A 0), .int v, .int w])).length) Slot.unset).toArray = ls at hl ⊢
  have hl : lv_has ls 3 [(0, .ref (A 0)), (1, .int v), (2, .int w)] := hl
  refine lv_aload_n hx hb dX1_tell_0 rfl (lv_at hl 0 rfl) ?_
  refine lv_iload_n hx hb dX1_tell_1 rfl (lv_at hl 1 rfl) ?_
  refine rc_V (v := (zi (isClk S v))) ⟨hx, hb, hml, hown, hts⟩ [.int v] [] (c_X1_isClock l D A K S hI v) (cwV 1 hts gX1_tell_X1_isClock rfl rfl rfl (by decide +kernel) ⟨Nat.le_of_ble_eq_true rfl, Nat.le_of_ble_eq_true rfl⟩) hK hP (va_recv hK hP (ci := 1) (q0 := 0) rfl rfl) rfl hl.1 rfl (Nat.le_of_ble_eq_true rfl) ⟨Nat.zero_le _, Nat.zero_le _⟩ dX1_tell_2 ?_
  refine xz_ne (b := (isClk S v)) (tgt := 10) hx hb dX1_tell_5 (by decide) (fun c1 => ?_) (fun c1 => ?_)
  · obtain ⟨a, ha, rfl⟩ := isClk_ex c1 hn8
    have ea : (nI a).toNatClampNeg = a := nI_clamp (by omega)
    have ht6 := hI.2 a
    refine lv_iload_n hx hb dX1_tell_10 rfl (lv_at hl 2 rfl) ?_
    by_cases w2 : w = 0
    · refine lv_tableIn (tgt := 52) hx hb dX1_tell_11 (by rw [w2]; decide) (by rw [w2]; decide) (by rw [w2]; rfl) (by decide) ?_
      refine lv_aload_n hx hb dX1_tell_52 rfl (lv_at hl 0 rfl) ?_
      refine va_get (D := D) (ci := 1) (v := .ref (A 1)) (C := RX1) (T := TX1) (N := 9) hx hb hts hin hown hK hP 0 rfl rfl 4 (by decide) f_19 (fun _ h9 => h9) rfl dX1_tell_53 ?_
      refine lv_iload_n hx hb dX1_tell_56 rfl (lv_at hl 1 rfl) ?_
      refine xa_ld (i := a) (v := (nI ((s_tr S) a))) hx hb hK hP 1 0 rfl rfl (by omega) (by decide) (rfl) dX1_tell_57 ?_
      exact W.iret (v := (nI ((s_tr S) a))) hx hb hr (fun t ht hW => ⟨_, rfl, by simp [m_tell, tl, c1, ea, w2], ht⟩) (fun q h => by cases h) dX1_tell_58
    by_cases w3 : w = 1
    · refine lv_tableIn (tgt := 59) hx hb dX1_tell_11 (by rw [w3]; decide) (by rw [w3]; decide) (by rw [w3]; rfl) (by decide) ?_
      refine lv_aload_n hx hb dX1_tell_59 rfl (lv_at hl 0 rfl) ?_
      refine va_get (D := D) (ci := 1) (v := .ref (A 2)) (C := RX1) (T := TX1) (N := 9) hx hb hts hin hown hK hP 0 rfl rfl 5 (by decide) f_23 (fun _ h9 => h9) rfl dX1_tell_60 ?_
      refine lv_iload_n hx hb dX1_tell_63 rfl (lv_at hl 1 rfl) ?_
      refine xa_ld (i := a) (v := ((s_bs S) a)) hx hb hK hP 2 1 rfl rfl (by omega) (by decide) (rfl) dX1_tell_64 ?_
      exact W.iret (v := ((s_bs S) a)) hx hb hr (fun t ht hW => ⟨_, rfl, by simp [m_tell, tl, c1, ea, w2, w3], ht⟩) (fun q h => by cases h) dX1_tell_65
    by_cases w4 : w = 2
    · refine lv_tableIn (tgt := 66) hx hb dX1_tell_11 (by rw [w4]; decide) (by rw [w4]; decide) (by rw [w4]; rfl) (by decide) ?_
      refine lv_aload_n hx hb dX1_tell_66 rfl (lv_at hl 0 rfl) ?_
      refine lv_iload_n hx hb dX1_tell_67 rfl (lv_at hl 1 rfl) ?_
      refine rc_V (v := (nI (m_rank S a))) ⟨hx, hb, hml, hown, hts⟩ [.int (nI a)] [] (c_X1_rank l D A K S hI a (by omega)) (cwV 1 hts gX1_tell_X1_rank rfl rfl rfl (by decide +kernel) ⟨Nat.le_of_ble_eq_true rfl, Nat.le_of_ble_eq_true rfl⟩) hK hP (va_recv hK hP (ci := 1) (q0 := 0) rfl rfl) rfl hl.1 rfl (Nat.le_of_ble_eq_true rfl) ⟨Nat.zero_le _, Nat.zero_le _⟩ dX1_tell_68 ?_
      exact W.iret (v := (nI (m_rank S a))) hx hb hr (fun t ht hW => ⟨_, rfl, by simp [m_tell, tl, c1, ea, w2, w3, w4], ht⟩) (fun q h => by cases h) dX1_tell_71
    by_cases w5 : w = 3
    · refine lv_tableIn (tgt := 72) hx hb dX1_tell_11 (by rw [w5]; decide) (by rw [w5]; decide) (by rw [w5]; rfl) (by decide) ?_
      refine lv_aload_n hx hb dX1_tell_72 rfl (lv_at hl 0 rfl) ?_
      refine va_get (D := D) (ci := 1) (v := .ref (A 3)) (C := RX1) (T := TX1) (N := 9) hx hb hts hin hown hK hP 0 rfl rfl 6 (by decide) f_26 (fun _ h9 => h9) rfl dX1_tell_73 ?_
      refine lv_iload_n hx hb dX1_tell_76 rfl (lv_at hl 1 rfl) ?_
      refine xa_ld (i := a) (v := (zi ((s_sl S) a))) hx hb hK hP 3 2 rfl rfl (by omega) (by decide) (rfl) dX1_tell_77 ?_
      exact W.iret (v := (zi ((s_sl S) a))) hx hb hr (fun t ht hW => ⟨_, rfl, by simp [m_tell, tl, c1, ea, w2, w3, w4, w5], ht⟩) (fun q h => by cases h) dX1_tell_78
    by_cases w6 : w = 4
    · refine lv_tableIn (tgt := 79) hx hb dX1_tell_11 (by rw [w6]; decide) (by rw [w6]; decide) (by rw [w6]; rfl) (by decide) ?_
      refine lv_aload_n hx hb dX1_tell_79 rfl (lv_at hl 0 rfl) ?_
      refine lv_iload_n hx hb dX1_tell_80 rfl (lv_at hl 1 rfl) ?_
      refine rc_V (v := (nI (x_cold S a))) ⟨hx, hb, hml, hown, hts⟩ [.int (nI a)] [] (c_X1_cold l D A K S hI a (by omega)) (cwV 1 hts gX1_tell_X1_cold rfl rfl rfl (by decide +kernel) ⟨Nat.le_of_ble_eq_true rfl, Nat.le_of_ble_eq_true rfl⟩) hK hP (va_recv hK hP (ci := 1) (q0 := 0) rfl rfl) rfl hl.1 rfl (Nat.le_of_ble_eq_true rfl) ⟨Nat.zero_le _, Nat.zero_le _⟩ dX1_tell_81 ?_
      exact W.iret (v := (nI (x_cold S a))) hx hb hr (fun t ht hW => ⟨_, rfl, by simp [m_tell, tl, c1, ea, w2, w3, w4, w5, w6], ht⟩) (fun q h => by cases h) dX1_tell_84
    by_cases w7 : w = 5
    · refine lv_tableIn (tgt := 85) hx hb dX1_tell_11 (by rw [w7]; decide) (by rw [w7]; decide) (by rw [w7]; rfl) (by decide) ?_
      refine lv_aload_n hx hb dX1_tell_85 rfl (lv_at hl 0 rfl) ?_
      refine lv_iload_n hx hb dX1_tell_86 rfl (lv_at hl 1 rfl) ?_
      refine rc_V (v := (nI (x_more S a))) ⟨hx, hb, hml, hown, hts⟩ [.int (nI a)] [] (c_X1_more l D A K S hI a (by omega)) (cwV 1 hts gX1_tell_X1_more rfl rfl rfl (by decide +kernel) ⟨Nat.le_of_ble_eq_true rfl, Nat.le_of_ble_eq_true rfl⟩) hK hP (va_recv hK hP (ci := 1) (q0 := 0) rfl rfl) rfl hl.1 rfl (Nat.le_of_ble_eq_true rfl) ⟨Nat.zero_le _, Nat.zero_le _⟩ dX1_tell_87 ?_
      exact W.iret (v := (nI (x_more S a))) hx hb hr (fun t ht hW => ⟨_, rfl, by simp [m_tell, tl, c1, ea, w2, w3, w4, w5, w6, w7], ht⟩) (fun q h => by cases h) dX1_tell_90
    by_cases w8 : w = 6
    · refine lv_tableIn (tgt := 91) hx hb dX1_tell_11 (by rw [w8]; decide) (by rw [w8]; decide) (by rw [w8]; rfl) (by decide) ?_
      refine lv_aload_n hx hb dX1_tell_91 rfl (lv_at hl 0 rfl) ?_
      refine lv_iload_n hx hb dX1_tell_92 rfl (lv_at hl 1 rfl) ?_
      refine rc_V (v := (lc S a)) ⟨hx, hb, hml, hown, hts⟩ [.int (nI a)] [] (c_X1_chill l D A K S hI a (by omega)) (cwV 1 hts gX1_tell_X1_chill rfl rfl rfl (by decide +kernel) ⟨Nat.le_of_ble_eq_true rfl, Nat.le_of_ble_eq_true rfl⟩) hK hP (va_recv hK hP (ci := 1) (q0 := 0) rfl rfl) rfl hl.1 rfl (Nat.le_of_ble_eq_true rfl) ⟨Nat.zero_le _, Nat.zero_le _⟩ dX1_tell_93 ?_
      exact W.iret (v := (lc S a)) hx hb hr (fun t ht hW => ⟨_, rfl, by simp [m_tell, tl, c1, ea, w2, w3, w4, w5, w6, w7, w8], ht⟩) (fun q h => by cases h) dX1_tell_96
    refine lv_tableOut (tgt := 97) hx hb dX1_tell_11 (by have tw2 := lv_neT (a := 0) w2 rfl; have tw3 := lv_neT (a := 1) w3 rfl; have tw4 := lv_neT (a := 2) w4 rfl; have tw5 := lv_neT (a := 3) w5 rfl; have tw6 := lv_neT (a := 4) w6 rfl; have tw7 := lv_neT (a := 5) w7 rfl; have tw8 := lv_neT (a := 6) w8 rfl; omega) (by decide) ?_
    refine lv_iconst (v := (-1)) hx hb dX1_tell_97 (by decide) ?_
    exact W.iret (v := (-1)) hx hb hr (fun t ht hW => ⟨_, rfl, by simp [m_tell, tl, c1, ea, w2, w3, w4, w5, w6, w7, w8], ht⟩) (fun q h => by cases h) dX1_tell_98
  · refine lv_iconst (v := (-1)) hx hb dX1_tell_8 (by decide) ?_
    exact W.iret (v := (-1)) hx hb hr (fun t ht hW => ⟨_, rfl, by simp [m_tell, tl, c1], ht⟩) (fun q h => by cases h) dX1_tell_9
set_option maxHeartbeats 4000000 in
set_option maxRecDepth 100000 in
theorem c_X1_count (l : Launch) (D : va_G) (A : Nat → Nat) (K : Nat → ClassId) (S : XS) (hI : x_inv S) (w : Int32) : Met l yX1_count wsX1_count (rmD 6) (va_Pc [.ref (A 0), .int w] (i_w D vwCl (wM A K S) (tM K))) (vp_Si (fun r => r = (ct (m_first S) S w))) 0 0 (fun _ => False) := by
  refine Met.ofW (cc := cX1_count) (maxL := 2) (ret := some .int) (by decide) rfl ?_
  intro p e s m args below meth c s₁ B hml hv
  obtain ⟨rfl, hP, hK⟩ := hv
  have hx := B.exec
  have hb := B.bytes
  have hr := B.returns
  have hts := atoms_spec (ws := wsX1_count) B.pre
  have hown : s.vm.findClass RX1 = some m.cls := findClass_of_methodNamed B.named
  have hlocks := B.notSynchronized
  have hn8 := hI.1
  have hin : ∀ w ∈ u_ws RX1 TX1 9, w ∈ wsX1_count := fun w h => List.mem_cons_of_mem _ (List.mem_append_right _ h)
  have f_9 := hts (.fieldLink RX1 9 "ChronoTrialsModel" "prize" "I") (by decide +kernel)
  have f_13 := hts (.fieldLink RX1 13 "ChronoTrialsModel" "frost" "I") (by decide +kernel)
  have f_16 := hts (.fieldLink RX1 16 "ChronoTrialsModel" "record" "I") (by decide +kernel)
  have f_35 := hts (.fieldLink RX1 35 "ChronoTrialsModel" "clocks" "I") (by decide +kernel)
  have hl := lv_entry ([.ref (A 0), .int w]) (n := 2) (Nat.le_of_ble_eq_true rfl)
  rw [lg_entry_eq]
  generalize (lg_sl ([.ref (A 0), .int w]) ++ List.replicate (2 - (lg_sl ([.ref (A 0), .int w])).length) Slot.unset).toArray = ls at hl ⊢
  have hl : lv_has ls 2 [(0, .ref (A 0)), (1, .int w)] := hl
  refine lv_iload_n hx hb dX1_count_0 rfl (lv_at hl 1 rfl) ?_
  by_cases w1 : w = 0
  · refine lv_tableIn (tgt := 44) hx hb dX1_count_1 (by rw [w1]; decide) (by rw [w1]; decide) (by rw [w1]; rfl) (by decide) ?_
    refine lv_aload_n hx hb dX1_count_44 rfl (lv_at hl 0 rfl) ?_
    refine va_get (D := D) (ci := 1) (v := .int (nI (s_n S))) (C := RX1) (T := TX1) (N := 9) hx hb hts hin hown hK hP 0 rfl rfl 0 (by decide) f_35 (fun _ h9 => h9) rfl dX1_count_45 ?_
    exact W.iret (v := (nI (s_n S))) hx hb hr (fun t ht hW => ⟨_, rfl, by simp [ct, w1], ht⟩) (fun q h => by cases h) dX1_count_48
  by_cases w2 : w = 1
  · refine lv_tableIn (tgt := 49) hx hb dX1_count_1 (by rw [w2]; decide) (by rw [w2]; decide) (by rw [w2]; rfl) (by decide) ?_
    refine lv_aload_n hx hb dX1_count_49 rfl (lv_at hl 0 rfl) ?_
    refine va_get (D := D) (ci := 1) (v := .int (s_rc S)) (C := RX1) (T := TX1) (N := 9) hx hb hts hin hown hK hP 0 rfl rfl 3 (by decide) f_16 (fun _ h9 => h9) rfl dX1_count_50 ?_
    exact W.iret (v := (s_rc S)) hx hb hr (fun t ht hW => ⟨_, rfl, by simp [ct, w1, w2], ht⟩) (fun q h => by cases h) dX1_count_53
  by_cases w3 : w = 2
  · refine lv_tableIn (tgt := 54) hx hb dX1_count_1 (by rw [w3]; decide) (by rw [w3]; decide) (by rw [w3]; rfl) (by decide) ?_
    refine lv_aload_n hx hb dX1_count_54 rfl (lv_at hl 0 rfl) ?_
    refine va_get (D := D) (ci := 1) (v := .int (s_pz S)) (C := RX1) (T := TX1) (N := 9) hx hb hts hin hown hK hP 0 rfl rfl 1 (by decide) f_9 (fun _ h9 => h9) rfl dX1_count_55 ?_
    exact W.iret (v := (s_pz S)) hx hb hr (fun t ht hW => ⟨_, rfl, by simp [ct, w1, w2, w3], ht⟩) (fun q h => by cases h) dX1_count_58
  by_cases w4 : w = 3
  · refine lv_tableIn (tgt := 59) hx hb dX1_count_1 (by rw [w4]; decide) (by rw [w4]; decide) (by rw [w4]; rfl) (by decide) ?_
    refine lv_aload_n hx hb dX1_count_59 rfl (lv_at hl 0 rfl) ?_
    refine va_get (D := D) (ci := 1) (v := .int (s_fr S)) (C := RX1) (T := TX1) (N := 9) hx hb hts hin hown hK hP 0 rfl rfl 2 (by decide) f_13 (fun _ h9 => h9) rfl dX1_count_60 ?_
    exact W.iret (v := (s_fr S)) hx hb hr (fun t ht hW => ⟨_, rfl, by simp [ct, w1, w2, w3, w4], ht⟩) (fun q h => by cases h) dX1_count_63
  by_cases w5 : w = 4
  · refine lv_tableIn (tgt := 64) hx hb dX1_count_1 (by rw [w5]; decide) (by rw [w5]; decide) (by rw [w5]; rfl) (by decide) ?_
    refine lv_aload_n hx hb dX1_count_64 rfl (lv_at hl 0 rfl) ?_
    refine rc_V (v := (nI (sm (s_tr S) (s_n S)))) ⟨hx, hb, hml, hown, hts⟩ [] [] (c_X1_trials l D A K S hI) (cwV 0 hts gX1_count_X1_trials rfl rfl rfl (by decide +kernel) ⟨Nat.le_of_ble_eq_true rfl, Nat.le_of_ble_eq_true rfl⟩) hK hP (va_recv hK hP (ci := 1) (q0 := 0) rfl rfl) rfl hl.1 rfl (Nat.le_of_ble_eq_true rfl) ⟨Nat.zero_le _, Nat.zero_le _⟩ dX1_count_65 ?_
    exact W.iret (v := (nI (sm (s_tr S) (s_n S)))) hx hb hr (fun t ht hW => ⟨_, rfl, by simp [ct, w1, w2, w3, w4, w5], ht⟩) (fun q h => by cases h) dX1_count_68
  by_cases w6 : w = 5
  · refine lv_tableIn (tgt := 69) hx hb dX1_count_1 (by rw [w6]; decide) (by rw [w6]; decide) (by rw [w6]; rfl) (by decide) ?_
    refine lv_aload_n hx hb dX1_count_69 rfl (lv_at hl 0 rfl) ?_
    refine rc_V (v := (nI (cn (s_sl S) (s_n S)))) ⟨hx, hb, hml, hown, hts⟩ [] [] (c_X1_seals l D A K S hI) (cwV 0 hts gX1_count_X1_seals rfl rfl rfl (by decide +kernel) ⟨Nat.le_of_ble_eq_true rfl, Nat.le_of_ble_eq_true rfl⟩) hK hP (va_recv hK hP (ci := 1) (q0 := 0) rfl rfl) rfl hl.1 rfl (Nat.le_of_ble_eq_true rfl) ⟨Nat.zero_le _, Nat.zero_le _⟩ dX1_count_70 ?_
    exact W.iret (v := (nI (cn (s_sl S) (s_n S)))) hx hb hr (fun t ht hW => ⟨_, rfl, by simp [ct, w1, w2, w3, w4, w5, w6], ht⟩) (fun q h => by cases h) dX1_count_73
  by_cases w7 : w = 6
  · refine lv_tableIn (tgt := 74) hx hb dX1_count_1 (by rw [w7]; decide) (by rw [w7]; decide) (by rw [w7]; rfl) (by decide) ?_
    refine lv_aload_n hx hb dX1_count_74 rfl (lv_at hl 0 rfl) ?_
    refine rc_V (v := (m_first S)) ⟨hx, hb, hml, hown, hts⟩ [] [] (c_X1_first l D A K S hI) (cwV 0 hts gX1_count_X1_first rfl rfl rfl (by decide +kernel) ⟨Nat.le_of_ble_eq_true rfl, Nat.le_of_ble_eq_true rfl⟩) hK hP (va_recv hK hP (ci := 1) (q0 := 0) rfl rfl) rfl hl.1 rfl (Nat.le_of_ble_eq_true rfl) ⟨Nat.zero_le _, Nat.zero_le _⟩ dX1_count_75 ?_
    exact W.iret (v := (m_first S)) hx hb hr (fun t ht hW => ⟨_, rfl, by simp [ct, w1, w2, w3, w4, w5, w6, w7], ht⟩) (fun q h => by cases h) dX1_count_78
  refine lv_tableOut (tgt := 79) hx hb dX1_count_1 (by have tw1 := lv_neT (a := 0) w1 rfl; have tw2 := lv_neT (a := 1) w2 rfl; have tw3 := lv_neT (a := 2) w3 rfl; have tw4 := lv_neT (a := 3) w4 rfl; have tw5 := lv_neT (a := 4) w5 rfl; have tw6 := lv_neT (a := 5) w6 rfl; have tw7 := lv_neT (a := 6) w7 rfl; omega) (by decide) ?_
  refine lv_iconst (v := (-1)) hx hb dX1_count_79 (by decide) ?_
  exact W.iret (v := (-1)) hx hb hr (fun t ht hW => ⟨_, rfl, by simp [ct, w1, w2, w3, w4, w5, w6, w7], ht⟩) (fun q h => by cases h) dX1_count_80
end
section
set_option maxHeartbeats 4000000 in
set_option maxRecDepth 100000 in
theorem c_X1_admit (l : Launch) (D : va_G) (A : Nat → Nat) (K : Nat → ClassId) (S : XS) (hI : x_inv S) (sz : Nat) : Met l yX1_admit wsX1_admit (rmD 0) (va_Pc [.ref (A 0)] (Pw D (wM A K S) (tM K) sz)) (va_Qi (fun r u => (r, u) = m_admit S) (Bw D (wM A K) (tM K) (va_A (wM A K S) sz)) (va_A (wM A K S) sz)) 0 0 (va_A (wM A K S) sz) := by
  refine Met.ofW (cc := cX1_admit) (maxL := 1) (ret := some .int) (by decide) rfl ?_
  intro p e s m args below meth c s₁ B hml hv
  obtain ⟨rfl, hsz, hP, hK, hD0⟩ := hv
  have hx := B.exec
  have hb := B.bytes
  have hr := B.returns
  have hts := atoms_spec (ws := wsX1_admit) B.pre
  have hown : s.vm.findClass RX1 = some m.cls := findClass_of_methodNamed B.named
  have hlocks := B.notSynchronized
  have hn8 := hI.1
  have hin : ∀ w ∈ u_ws RX1 TX1 9, w ∈ wsX1_admit := fun w h => List.mem_cons_of_mem _ (List.mem_append_right _ h)
  have f_19 := hts (.fieldLink RX1 19 "ChronoTrialsModel" "many" "[I") (by decide +kernel)
  have f_23 := hts (.fieldLink RX1 23 "ChronoTrialsModel" "best" "[I") (by decide +kernel)
  have f_26 := hts (.fieldLink RX1 26 "ChronoTrialsModel" "seal" "[I") (by decide +kernel)
  have f_35 := hts (.fieldLink RX1 35 "ChronoTrialsModel" "clocks" "I") (by decide +kernel)
  subst hsz
  have hD := hD0.self (sz := s.heap.size)
  generalize hAe : va_A (wM A K S) s.heap.size = A9 at hD ⊢
  have hS : va_S A9 s.heap s.heap [] := va_S.rf
  have hl := lv_entry ([.ref (A 0)]) (n := 1) (Nat.le_of_ble_eq_true rfl)
  rw [lg_entry_eq]
  generalize (lg_sl ([.ref (A 0)]) ++ List.replicate (1 - (lg_sl ([.ref (A 0)])).length) Slot.unset).toArray = ls at hl ⊢
  have hl : lv_has ls 1 [(0, .ref (A 0))] := hl
  refine lv_aload_n hx hb dX1_admit_0 rfl (lv_at hl 0 rfl) ?_
  refine va_get (D := D) (ci := 1) (v := .int (nI (s_n S))) (C := RX1) (T := TX1) (N := 9) hx hb hts hin hown hK hP 0 rfl rfl 0 (by decide) f_35 (fun _ h9 => h9) rfl dX1_admit_1 ?_
  refine lv_bipush (v := 8) hx hb dX1_admit_4 (by decide) ?_
  refine xn_ne (i := (s_n S)) (j := 8) (tgt := 11) hx hb (by omega) (by omega) dX1_admit_6 (by decide) (fun c1 => ?_) (fun c1 => ?_)
  · refine lv_aload_n hx hb dX1_admit_11 rfl (lv_at hl 0 rfl) ?_
    refine va_get (D := D) (ci := 1) (v := .ref (A 1)) (C := RX1) (T := TX1) (N := 9) hx hb hts hin hown hK hP 0 rfl rfl 4 (by decide) f_19 (fun _ h9 => h9) rfl dX1_admit_12 ?_
    refine lv_aload_n hx hb dX1_admit_15 rfl (lv_at hl 0 rfl) ?_
    refine va_get (D := D) (ci := 1) (v := .int (nI (s_n S))) (C := RX1) (T := TX1) (N := 9) hx hb hts hin hown hK hP 0 rfl rfl 0 (by decide) f_35 (fun _ h9 => h9) rfl dX1_admit_16 ?_
    refine lv_iconst (v := 0) hx hb dX1_admit_19 (by decide) ?_
    refine xa_st (i := (s_n S)) (x := nI 0) (ws' := wM A K (u_tr (upN (s_tr S) (s_n S) 0) S)) hx hb hK hP hD hS 1 0 rfl rfl (by omega) (by decide) (upN_e _ _ _) rfl dX1_admit_20 (fun H locs hP hD hS => ?_)
    refine lv_aload_n hx hb dX1_admit_21 rfl (lv_at hl 0 rfl) ?_
    refine va_get (D := D) (ci := 1) (v := .ref (A 2)) (C := RX1) (T := TX1) (N := 9) hx hb hts hin hown hK hP 0 rfl rfl 5 (by decide) f_23 (fun _ h9 => h9) rfl dX1_admit_22 ?_
    refine lv_aload_n hx hb dX1_admit_25 rfl (lv_at hl 0 rfl) ?_
    refine va_get (D := D) (ci := 1) (v := .int (nI (s_n S))) (C := RX1) (T := TX1) (N := 9) hx hb hts hin hown hK hP 0 rfl rfl 0 (by decide) f_35 (fun _ h9 => h9) rfl dX1_admit_26 ?_
    refine lv_iconst (v := (-1)) hx hb dX1_admit_29 (by decide) ?_
    refine xa_st (i := (s_n S)) (x := (-1)) (ws' := wM A K (u_bs (upd (s_bs S) (s_n S) (-1)) (u_tr (upN (s_tr S) (s_n S) 0) S))) hx hb hK hP hD hS 2 1 rfl rfl (by omega) (by decide) (rfl) rfl dX1_admit_30 (fun H locs hP hD hS => ?_)
    refine lv_aload_n hx hb dX1_admit_31 rfl (lv_at hl 0 rfl) ?_
    refine va_get (D := D) (ci := 1) (v := .ref (A 3)) (C := RX1) (T := TX1) (N := 9) hx hb hts hin hown hK hP 0 rfl rfl 6 (by decide) f_26 (fun _ h9 => h9) rfl dX1_admit_32 ?_
    refine lv_aload_n hx hb dX1_admit_35 rfl (lv_at hl 0 rfl) ?_
    refine va_get (D := D) (ci := 1) (v := .int (nI (s_n S))) (C := RX1) (T := TX1) (N := 9) hx hb hts hin hown hK hP 0 rfl rfl 0 (by decide) f_35 (fun _ h9 => h9) rfl dX1_admit_36 ?_
    refine lv_iconst (v := 0) hx hb dX1_admit_39 (by decide) ?_
    refine xa_st (i := (s_n S)) (x := zi false) (ws' := wM A K (u_sl (upB (s_sl S) (s_n S) false) (u_bs (upd (s_bs S) (s_n S) (-1)) (u_tr (upN (s_tr S) (s_n S) 0) S)))) hx hb hK hP hD hS 3 2 rfl rfl (by omega) (by decide) (upB_e _ _ _) rfl dX1_admit_40 (fun H locs hP hD hS => ?_)
    refine lv_aload_n hx hb dX1_admit_41 rfl (lv_at hl 0 rfl) ?_
    refine lv_dup hx hb dX1_admit_42 rfl ?_
    refine va_get (D := D) (ci := 1) (v := .int (nI (s_n S))) (C := RX1) (T := TX1) (N := 9) hx hb hts hin hown hK hP 0 rfl rfl 0 (by decide) f_35 (fun _ h9 => h9) rfl dX1_admit_43 ?_
    refine lv_iconst (v := 1) hx hb dX1_admit_46 (by decide) ?_
    refine xn_add (i := (s_n S)) (j := 1) hx hb dX1_admit_47 ?_
    refine va_put (D := D) (ci := 1) (v := .int (nI ((s_n S) + 1))) (ty := .int) (C := RX1) (T := TX1) (N := 9) hx hb hts hin tyX1 tyX1_ok nmX1 hown hK hP hD hS 0 rfl rfl 0 (by decide) f_35 (fun _ h9 => h9) rfl (by decide +kernel) rfl rfl (Nat.le_of_ble_eq_true rfl) dX1_admit_48 (fun H locs hP hD hS => ?_)
    have hP : va_P D vwCl (wM A K (u_n ((s_n S) + 1) (u_sl (upB (s_sl S) (s_n S) false) (u_bs (upd (s_bs S) (s_n S) (-1)) (u_tr (upN (s_tr S) (s_n S) 0) S))))) H := hP
    have hD : va_D A9 (wM A K (u_n ((s_n S) + 1) (u_sl (upB (s_sl S) (s_n S) false) (u_bs (upd (s_bs S) (s_n S) (-1)) (u_tr (upN (s_tr S) (s_n S) 0) S))))) := hD
    refine lv_aload_n hx hb dX1_admit_51 rfl (lv_at hl 0 rfl) ?_
    refine va_get (D := D) (ci := 1) (v := .int (nI ((s_n S) + 1))) (C := RX1) (T := TX1) (N := 9) hx hb hts hin hown hK hP 0 rfl rfl 0 (by decide) f_35 (fun _ h9 => h9) rfl dX1_admit_52 ?_
    refine lv_iconst (v := 1) hx hb dX1_admit_55 (by decide) ?_
    refine xn_sub (i := ((s_n S) + 1)) (j := 1) hx hb (by omega) dX1_admit_56 ?_
    exact W.iret (v := (nI (((s_n S) + 1) - 1))) hx hb hr (fun t ht hW => ⟨⟨(nI (((s_n S) + 1) - 1)), (u_n ((s_n S) + 1) (u_sl (upB (s_sl S) (s_n S) false) (u_bs (upd (s_bs S) (s_n S) (-1)) (u_tr (upN (s_tr S) (s_n S) 0) S)))), rfl, by simp [m_admit, c1], by rw [ht]; exact hP, va_K.moved hW.alike hK, hD⟩, hS.F ht⟩) hS.2.2 dX1_admit_57
  · refine lv_iconst (v := (-1)) hx hb dX1_admit_9 (by decide) ?_
    exact W.iret (v := (-1)) hx hb hr (fun t ht hW => ⟨⟨(-1), S, rfl, by simp [m_admit, c1], by rw [ht]; exact hP, va_K.moved hW.alike hK, hD⟩, hS.F ht⟩) hS.2.2 dX1_admit_10
set_option maxHeartbeats 4000000 in
set_option maxRecDepth 100000 in
theorem c_X1_prize (l : Launch) (D : va_G) (A : Nat → Nat) (K : Nat → ClassId) (S : XS) (hI : x_inv S) (sz : Nat) (v : Int32) : Met l yX1_prize wsX1_prize (rmD 1) (va_Pc [.ref (A 0), .int v] (Pw D (wM A K S) (tM K) sz)) (va_Qi (fun r u => (r, u) = m_prize S v) (Bw D (wM A K) (tM K) (va_A (wM A K S) sz)) (va_A (wM A K S) sz)) 0 0 (va_A (wM A K S) sz) := by
  refine Met.ofW (cc := cX1_prize) (maxL := 2) (ret := some .boolean) (by decide) rfl ?_
  intro p e s m args below meth c s₁ B hml hv
  obtain ⟨rfl, hsz, hP, hK, hD0⟩ := hv
  have hx := B.exec
  have hb := B.bytes
  have hr := B.returns
  have hts := atoms_spec (ws := wsX1_prize) B.pre
  have hown : s.vm.findClass RX1 = some m.cls := findClass_of_methodNamed B.named
  have hlocks := B.notSynchronized
  have hn8 := hI.1
  have hin : ∀ w ∈ u_ws RX1 TX1 9, w ∈ wsX1_prize := fun w h => List.mem_cons_of_mem _ (List.mem_append_right _ h)
  have f_9 := hts (.fieldLink RX1 9 "ChronoTrialsModel" "prize" "I") (by decide +kernel)
  subst hsz
  have hD := hD0.self (sz := s.heap.size)
  generalize hAe : va_A (wM A K S) s.heap.size = A9 at hD ⊢
  have hS : va_S A9 s.heap s.heap [] := va_S.rf
  have hl := lv_entry ([.ref (A 0), .int v]) (n := 2) (Nat.le_of_ble_eq_true rfl)
  rw [lg_entry_eq]
  generalize (lg_sl ([.ref (A 0), .int v]) ++ List.replicate (2 - (lg_sl ([.ref (A 0), .int v])).length) Slot.unset).toArray = ls at hl ⊢
  have hl : lv_has ls 2 [(0, .ref (A 0)), (1, .int v)] := hl
  refine lv_iload_n hx hb dX1_prize_0 rfl (lv_at hl 1 rfl) ?_
  refine rc_S (v := (zi (h_in v (-1) 999))) ⟨hx, hb, hml, hown, hts⟩ [.int v] [] (c_X1_isRate l v) (va_cwS 1 hts gX1_prize_X1_isRate rfl rfl rfl (by decide +kernel) ⟨Nat.le_of_ble_eq_true rfl, Nat.le_of_ble_eq_true rfl⟩) rfl hl.1 rfl (Nat.le_of_ble_eq_true rfl) ⟨Nat.zero_le _, Nat.zero_le _⟩ dX1_prize_1 ?_
  refine xz_ne (b := (h_in v (-1) 999)) (tgt := 9) hx hb dX1_prize_4 (by decide) (fun c1 => ?_) (fun c1 => ?_)
  · refine lv_aload_n hx hb dX1_prize_9 rfl (lv_at hl 0 rfl) ?_
    refine lv_iload_n hx hb dX1_prize_10 rfl (lv_at hl 1 rfl) ?_
    refine va_put (D := D) (ci := 1) (v := .int v) (ty := .int) (C := RX1) (T := TX1) (N := 9) hx hb hts hin tyX1 tyX1_ok nmX1 hown hK hP hD hS 0 rfl rfl 1 (by decide) f_9 (fun _ h9 => h9) rfl (by decide +kernel) rfl rfl (Nat.le_of_ble_eq_true rfl) dX1_prize_11 (fun H locs hP hD hS => ?_)
    have hP : va_P D vwCl (wM A K (u_pz v S)) H := hP
    have hD : va_D A9 (wM A K (u_pz v S)) := hD
    refine lv_iconst (v := 1) hx hb dX1_prize_14 (by decide) ?_
    exact W.zret (v := zi true) hx hb hr (zi_n _) (fun t ht hW => ⟨⟨zi true, (u_pz v S), rfl, by simp [m_prize, c1], by rw [ht]; exact hP, va_K.moved hW.alike hK, hD⟩, hS.F ht⟩) hS.2.2 dX1_prize_15
  · refine lv_iconst (v := 0) hx hb dX1_prize_7 (by decide) ?_
    exact W.zret (v := zi false) hx hb hr (zi_n _) (fun t ht hW => ⟨⟨zi false, S, rfl, by simp [m_prize, c1], by rw [ht]; exact hP, va_K.moved hW.alike hK, hD⟩, hS.F ht⟩) hS.2.2 dX1_prize_8
set_option maxHeartbeats 4000000 in
set_option maxRecDepth 100000 in
theorem c_X1_frost (l : Launch) (D : va_G) (A : Nat → Nat) (K : Nat → ClassId) (S : XS) (hI : x_inv S) (sz : Nat) (v : Int32) : Met l yX1_frost wsX1_frost (rmD 1) (va_Pc [.ref (A 0), .int v] (Pw D (wM A K S) (tM K) sz)) (va_Qi (fun r u => (r, u) = m_frost S v) (Bw D (wM A K) (tM K) (va_A (wM A K S) sz)) (va_A (wM A K S) sz)) 0 0 (va_A (wM A K S) sz) := by
  refine Met.ofW (cc := cX1_frost) (maxL := 2) (ret := some .boolean) (by decide) rfl ?_
  intro p e s m args below meth c s₁ B hml hv
  obtain ⟨rfl, hsz, hP, hK, hD0⟩ := hv
  have hx := B.exec
  have hb := B.bytes
  have hr := B.returns
  have hts := atoms_spec (ws := wsX1_frost) B.pre
  have hown : s.vm.findClass RX1 = some m.cls := findClass_of_methodNamed B.named
  have hlocks := B.notSynchronized
  have hn8 := hI.1
  have hin : ∀ w ∈ u_ws RX1 TX1 9, w ∈ wsX1_frost := fun w h => List.mem_cons_of_mem _ (List.mem_append_right _ h)
  have f_13 := hts (.fieldLink RX1 13 "ChronoTrialsModel" "frost" "I") (by decide +kernel)
  subst hsz
  have hD := hD0.self (sz := s.heap.size)
  generalize hAe : va_A (wM A K S) s.heap.size = A9 at hD ⊢
  have hS : va_S A9 s.heap s.heap [] := va_S.rf
  have hl := lv_entry ([.ref (A 0), .int v]) (n := 2) (Nat.le_of_ble_eq_true rfl)
  rw [lg_entry_eq]
  generalize (lg_sl ([.ref (A 0), .int v]) ++ List.replicate (2 - (lg_sl ([.ref (A 0), .int v])).length) Slot.unset).toArray = ls at hl ⊢
  have hl : lv_has ls 2 [(0, .ref (A 0)), (1, .int v)] := hl
  refine lv_iload_n hx hb dX1_frost_0 rfl (lv_at hl 1 rfl) ?_
  refine rc_S (v := (zi (h_in v (-99) 100))) ⟨hx, hb, hml, hown, hts⟩ [.int v] [] (c_X1_isChill l v) (va_cwS 1 hts gX1_frost_X1_isChill rfl rfl rfl (by decide +kernel) ⟨Nat.le_of_ble_eq_true rfl, Nat.le_of_ble_eq_true rfl⟩) rfl hl.1 rfl (Nat.le_of_ble_eq_true rfl) ⟨Nat.zero_le _, Nat.zero_le _⟩ dX1_frost_1 ?_
  refine xz_ne (b := (h_in v (-99) 100)) (tgt := 9) hx hb dX1_frost_4 (by decide) (fun c1 => ?_) (fun c1 => ?_)
  · refine lv_aload_n hx hb dX1_frost_9 rfl (lv_at hl 0 rfl) ?_
    refine lv_iload_n hx hb dX1_frost_10 rfl (lv_at hl 1 rfl) ?_
    refine va_put (D := D) (ci := 1) (v := .int v) (ty := .int) (C := RX1) (T := TX1) (N := 9) hx hb hts hin tyX1 tyX1_ok nmX1 hown hK hP hD hS 0 rfl rfl 2 (by decide) f_13 (fun _ h9 => h9) rfl (by decide +kernel) rfl rfl (Nat.le_of_ble_eq_true rfl) dX1_frost_11 (fun H locs hP hD hS => ?_)
    have hP : va_P D vwCl (wM A K (u_fr v S)) H := hP
    have hD : va_D A9 (wM A K (u_fr v S)) := hD
    refine lv_iconst (v := 1) hx hb dX1_frost_14 (by decide) ?_
    exact W.zret (v := zi true) hx hb hr (zi_n _) (fun t ht hW => ⟨⟨zi true, (u_fr v S), rfl, by simp [m_frost, c1], by rw [ht]; exact hP, va_K.moved hW.alike hK, hD⟩, hS.F ht⟩) hS.2.2 dX1_frost_15
  · refine lv_iconst (v := 0) hx hb dX1_frost_7 (by decide) ?_
    exact W.zret (v := zi false) hx hb hr (zi_n _) (fun t ht hW => ⟨⟨zi false, S, rfl, by simp [m_frost, c1], by rw [ht]; exact hP, va_K.moved hW.alike hK, hD⟩, hS.F ht⟩) hS.2.2 dX1_frost_8
set_option maxHeartbeats 4000000 in
set_option maxRecDepth 100000 in
theorem c_X1_trial (l : Launch) (D : va_G) (A : Nat → Nat) (K : Nat → ClassId) (S : XS) (hI : x_inv S) (sz : Nat) (v : Int32) (hd : Int32) (te : Int32) : Met l yX1_trial wsX1_trial (rmD 2) (va_Pc [.ref (A 0), .int v, .int hd, .int te] (Pw D (wM A K S) (tM K) sz)) (va_Qi (fun r u => (r, u) = m_trial S v hd te) (Bw D (wM A K) (tM K) (va_A (wM A K S) sz)) (va_A (wM A K S) sz)) 0 0 (va_A (wM A K S) sz) := by
  refine Met.ofW (cc := cX1_trial) (maxL := 9) (ret := some .int) (by decide) rfl ?_
  intro p e s m args below meth c s₁ B hml hv
  obtain ⟨rfl, hsz, hP, hK, hD0⟩ := hv
  have hx := B.exec
  have hb := B.bytes
  have hr := B.returns
  have hts := atoms_spec (ws := wsX1_trial) B.pre
  have hown : s.vm.findClass RX1 = some m.cls := findClass_of_methodNamed B.named
  have hlocks := B.notSynchronized
  have hn8 := hI.1
  have hin : ∀ w ∈ u_ws RX1 TX1 9, w ∈ wsX1_trial := fun w h => List.mem_cons_of_mem _ (List.mem_append_right _ h)
  have f_9 := hts (.fieldLink RX1 9 "ChronoTrialsModel" "prize" "I") (by decide +kernel)
  have f_16 := hts (.fieldLink RX1 16 "ChronoTrialsModel" "record" "I") (by decide +kernel)
  have f_19 := hts (.fieldLink RX1 19 "ChronoTrialsModel" "many" "[I") (by decide +kernel)
  have f_23 := hts (.fieldLink RX1 23 "ChronoTrialsModel" "best" "[I") (by decide +kernel)
  have f_29 := hts (.fieldLink RX1 29 "ChronoTrialsModel" "rates" "[I") (by decide +kernel)
  have f_32 := hts (.fieldLink RX1 32 "ChronoTrialsModel" "chills" "[I") (by decide +kernel)
  subst hsz
  have hD := hD0.self (sz := s.heap.size)
  generalize hAe : va_A (wM A K S) s.heap.size = A9 at hD ⊢
  have hS : va_S A9 s.heap s.heap [] := va_S.rf
  have hl := lv_entry ([.ref (A 0), .int v, .int hd, .int te]) (n := 9) (Nat.le_of_ble_eq_true rfl)
  rw [lg_entry_eq]
  generalize (lg_sl ([.ref (A 0), .int v, .int hd, .int te]) ++ List.replicate (9 - (lg_sl ([.ref (A 0), .int v, .int hd, .int te])).length) Slot.unset).toArray = ls at hl ⊢
  have hl : lv_has ls 9 [(0, .ref (A 0)), (1, .int v), (2, .int hd), (3, .int te)] := hl
  refine lv_aload_n hx hb dX1_trial_0 rfl (lv_at hl 0 rfl) ?_
  refine lv_iload_n hx hb dX1_trial_1 rfl (lv_at hl 1 rfl) ?_
  refine rc_V (v := (zi (isClk S v))) ⟨hx, hb, hml, hown, hts⟩ [.int v] [] (c_X1_isClock l D A K S hI v) (cwV 1 hts gX1_trial_X1_isClock rfl rfl rfl (by decide +kernel) ⟨Nat.le_of_ble_eq_true rfl, Nat.le_of_ble_eq_true rfl⟩) hK hP (va_recv hK hP (ci := 1) (q0 := 0) rfl rfl) rfl hl.1 rfl (Nat.le_of_ble_eq_true rfl) ⟨Nat.zero_le _, Nat.zero_le _⟩ dX1_trial_2 ?_
  refine xz_eq (b := (isClk S v)) (tgt := 33) hx hb dX1_trial_5 (by decide) (fun c1 => ?_) (fun c1 => ?_)
  · refine lv_iconst (v := (-1)) hx hb dX1_trial_33 (by decide) ?_
    exact W.iret (v := (-1)) hx hb hr (fun t ht hW => ⟨⟨(-1), S, rfl, by simp [m_trial, trM, tr3, x_marks, mk4, c1], by rw [ht]; exact hP, va_K.moved hW.alike hK, hD⟩, hS.F ht⟩) hS.2.2 dX1_trial_34
  · obtain ⟨a, ha, rfl⟩ := isClk_ex c1 hn8
    have ea : (nI a).toNatClampNeg = a := nI_clamp (by omega)
    have ht6 := hI.2 a
    refine lv_aload_n hx hb dX1_trial_8 rfl (lv_at hl 0 rfl) ?_
    refine va_get (D := D) (ci := 1) (v := .ref (A 1)) (C := RX1) (T := TX1) (N := 9) hx hb hts hin hown hK hP 0 rfl rfl 4 (by decide) f_19 (fun _ h9 => h9) rfl dX1_trial_9 ?_
    refine lv_iload_n hx hb dX1_trial_12 rfl (lv_at hl 1 rfl) ?_
    refine xa_ld (i := a) (v := (nI ((s_tr S) a))) hx hb hK hP 1 0 rfl rfl (by omega) (by decide) (rfl) dX1_trial_13 ?_
    refine lv_bipush (v := 6) hx hb dX1_trial_14 (by decide) ?_
    refine xn_eq (i := ((s_tr S) a)) (j := 6) (tgt := 33) hx hb (by omega) (by omega) dX1_trial_16 (by decide) (fun c2 => ?_) (fun c2 => ?_)
    · refine lv_iconst (v := (-1)) hx hb dX1_trial_33 (by decide) ?_
      exact W.iret (v := (-1)) hx hb hr (fun t ht hW => ⟨⟨(-1), S, rfl, by simp [m_trial, trM, tr3, x_marks, mk4, c1, ea, c2], by rw [ht]; exact hP, va_K.moved hW.alike hK, hD⟩, hS.F ht⟩) hS.2.2 dX1_trial_34
    · refine lv_iload_n hx hb dX1_trial_19 rfl (lv_at hl 2 rfl) ?_
      refine rc_S (v := (zi (h_in hd (-1) 999))) ⟨hx, hb, hml, hown, hts⟩ [.int hd] [] (c_X1_isRate l hd) (va_cwS 1 hts gX1_trial_X1_isRate rfl rfl rfl (by decide +kernel) ⟨Nat.le_of_ble_eq_true rfl, Nat.le_of_ble_eq_true rfl⟩) rfl hl.1 rfl (Nat.le_of_ble_eq_true rfl) ⟨Nat.zero_le _, Nat.zero_le _⟩ dX1_trial_20 ?_
      refine xz_eq (b := (h_in hd (-1) 999)) (tgt := 33) hx hb dX1_trial_23 (by decide) (fun c3 => ?_) (fun c3 => ?_)
      · refine lv_iconst (v := (-1)) hx hb dX1_trial_33 (by decide) ?_
        exact W.iret (v := (-1)) hx hb hr (fun t ht hW => ⟨⟨(-1), S, rfl, by simp [m_trial, trM, tr3, x_marks, mk4, c1, ea, c2, c3], by rw [ht]; exact hP, va_K.moved hW.alike hK, hD⟩, hS.F ht⟩) hS.2.2 dX1_trial_34
      · refine lv_iload_n hx hb dX1_trial_26 rfl (lv_at hl 3 rfl) ?_
        refine rc_S (v := (zi (h_in te (-99) 100))) ⟨hx, hb, hml, hown, hts⟩ [.int te] [] (c_X1_isChill l te) (va_cwS 1 hts gX1_trial_X1_isChill rfl rfl rfl (by decide +kernel) ⟨Nat.le_of_ble_eq_true rfl, Nat.le_of_ble_eq_true rfl⟩) rfl hl.1 rfl (Nat.le_of_ble_eq_true rfl) ⟨Nat.zero_le _, Nat.zero_le _⟩ dX1_trial_27 ?_
        refine xz_ne (b := (h_in te (-99) 100)) (tgt := 35) hx hb dX1_trial_30 (by decide) (fun c4 => ?_) (fun c4 => ?_)
        · refine lv_bipush (v := 6) hx hb dX1_trial_35 (by decide) ?_
          refine lv_iload_n hx hb dX1_trial_37 rfl (lv_at hl 1 rfl) ?_
          refine xn_mulc (i := 6) (j := a) hx hb dX1_trial_38 ?_
          refine lv_aload_n hx hb dX1_trial_39 rfl (lv_at hl 0 rfl) ?_
          refine va_get (D := D) (ci := 1) (v := .ref (A 1)) (C := RX1) (T := TX1) (N := 9) hx hb hts hin hown hK hP 0 rfl rfl 4 (by decide) f_19 (fun _ h9 => h9) rfl dX1_trial_40 ?_
          refine lv_iload_n hx hb dX1_trial_43 rfl (lv_at hl 1 rfl) ?_
          refine xa_ld (i := a) (v := (nI ((s_tr S) a))) hx hb hK hP 1 0 rfl rfl (by omega) (by decide) (rfl) dX1_trial_44 ?_
          refine xn_add (i := (a * 6)) (j := ((s_tr S) a)) hx hb dX1_trial_45 ?_
          refine lv_istore (lv' := [(4, .int (nI ((a * 6) + ((s_tr S) a)))), (0, .ref (A 0)), (1, .int (nI a)), (2, .int hd), (3, .int te)]) hx hb dX1_trial_46 hl (by decide) rfl (fun ls hl => ?_)
          refine lv_aload_n hx hb dX1_trial_48 rfl (lv_at hl 1 rfl) ?_
          refine va_get (D := D) (ci := 1) (v := .ref (A 4)) (C := RX1) (T := TX1) (N := 9) hx hb hts hin hown hK hP 0 rfl rfl 7 (by decide) f_29 (fun _ h9 => h9) rfl dX1_trial_49 ?_
          refine lv_iload hx hb dX1_trial_52 (lv_at hl 0 rfl) ?_
          refine lv_iload_n hx hb dX1_trial_54 rfl (lv_at hl 3 rfl) ?_
          refine xa_st (i := ((a * 6) + ((s_tr S) a))) (x := hd) (ws' := wM A K (u_rt (upd (s_rt S) ((a * 6) + ((s_tr S) a)) hd) S)) hx hb hK hP hD hS 4 3 rfl rfl (by omega) (by decide) (rfl) rfl dX1_trial_55 (fun H locs hP hD hS => ?_)
          refine lv_aload_n hx hb dX1_trial_56 rfl (lv_at hl 1 rfl) ?_
          refine va_get (D := D) (ci := 1) (v := .ref (A 5)) (C := RX1) (T := TX1) (N := 9) hx hb hts hin hown hK hP 0 rfl rfl 8 (by decide) f_32 (fun _ h9 => h9) rfl dX1_trial_57 ?_
          refine lv_iload hx hb dX1_trial_60 (lv_at hl 0 rfl) ?_
          refine lv_iload_n hx hb dX1_trial_62 rfl (lv_at hl 4 rfl) ?_
          refine xa_st (i := ((a * 6) + ((s_tr S) a))) (x := te) (ws' := wM A K (u_ch (upd (s_ch S) ((a * 6) + ((s_tr S) a)) te) (u_rt (upd (s_rt S) ((a * 6) + ((s_tr S) a)) hd) S))) hx hb hK hP hD hS 5 4 rfl rfl (by omega) (by decide) (rfl) rfl dX1_trial_63 (fun H locs hP hD hS => ?_)
          refine lv_aload_n hx hb dX1_trial_64 rfl (lv_at hl 1 rfl) ?_
          refine va_get (D := D) (ci := 1) (v := .ref (A 1)) (C := RX1) (T := TX1) (N := 9) hx hb hts hin hown hK hP 0 rfl rfl 4 (by decide) f_19 (fun _ h9 => h9) rfl dX1_trial_65 ?_
          refine lv_iload_n hx hb dX1_trial_68 rfl (lv_at hl 2 rfl) ?_
          refine lv_dup2_11 hx hb dX1_trial_69 rfl rfl ?_
          refine xa_ld (i := a) (v := (nI ((s_tr S) a))) hx hb hK hP 1 0 rfl rfl (by omega) (by decide) (rfl) dX1_trial_70 ?_
          refine lv_iconst (v := 1) hx hb dX1_trial_71 (by decide) ?_
          refine xn_add (i := ((s_tr S) a)) (j := 1) hx hb dX1_trial_72 ?_
          refine xa_st (i := a) (x := nI (((s_tr S) a) + 1)) (ws' := wM A K (u_tr (upN (s_tr S) a (((s_tr S) a) + 1)) (u_ch (upd (s_ch S) ((a * 6) + ((s_tr S) a)) te) (u_rt (upd (s_rt S) ((a * 6) + ((s_tr S) a)) hd) S)))) hx hb hK hP hD hS 1 0 rfl rfl (by omega) (by decide) (upN_e _ _ _) rfl dX1_trial_73 (fun H locs hP hD hS => ?_)
          have hI1 : x_inv (u_tr (upN (s_tr S) a (s_tr S a + 1)) (u_ch (upd (s_ch S) (a * 6 + s_tr S a) te) (u_rt (upd (s_rt S) (a * 6 + s_tr S a) hd) S))) := ⟨hI.1, fun k => by show upN (s_tr S) a (s_tr S a + 1) k ≤ 6; unfold upN; have h6 := hI.2 k; split <;> omega⟩
          refine lv_aload_n hx hb dX1_trial_74 rfl (lv_at hl 1 rfl) ?_
          refine lv_iload_n hx hb dX1_trial_75 rfl (lv_at hl 4 rfl) ?_
          refine rc_V (v := (zi (cold S te))) ⟨hx, hb, hml, hown, hts⟩ [.int te] [] (c_X1_isCold l D A K (u_tr (upN (s_tr S) a (((s_tr S) a) + 1)) (u_ch (upd (s_ch S) ((a * 6) + ((s_tr S) a)) te) (u_rt (upd (s_rt S) ((a * 6) + ((s_tr S) a)) hd) S))) hI1 te) (cwV 1 hts gX1_trial_X1_isCold rfl rfl rfl (by decide +kernel) ⟨Nat.le_of_ble_eq_true rfl, Nat.le_of_ble_eq_true rfl⟩) hK hP (va_recv hK hP (ci := 1) (q0 := 0) rfl rfl) rfl hl.1 rfl (Nat.le_of_ble_eq_true rfl) ⟨Nat.zero_le _, Nat.zero_le _⟩ dX1_trial_76 ?_
          refine lv_istore (lv' := [(5, .int (zi (cold S te))), (4, .int (nI ((a * 6) + ((s_tr S) a)))), (0, .ref (A 0)), (1, .int (nI a)), (2, .int hd), (3, .int te)]) hx hb dX1_trial_79 hl (by decide) rfl (fun ls hl => ?_)
          refine lv_iconst (v := 1) hx hb dX1_trial_81 (by decide) ?_
          refine lv_iload_n hx hb dX1_trial_82 rfl (lv_at hl 4 rfl) ?_
          refine lv_aload_n hx hb dX1_trial_83 rfl (lv_at hl 2 rfl) ?_
          refine va_get (D := D) (ci := 1) (v := .int (s_pz S)) (C := RX1) (T := TX1) (N := 9) hx hb hts hin hown hK hP 0 rfl rfl 1 (by decide) f_9 (fun _ h9 => h9) rfl dX1_trial_84 ?_
          refine lv_iconst (v := (-1)) hx hb dX1_trial_87 (by decide) ?_
          refine rc_S (v := (zi (h_all (-1) 1 hd (s_pz S)))) ⟨hx, hb, hml, hown, hts⟩ [.int 1, .int hd, .int (s_pz S), .int (-1)] [] (c_X1_holds l 1 hd (s_pz S) (-1)) (va_cwS 4 hts gX1_trial_X1_holds rfl rfl rfl (by decide +kernel) ⟨Nat.le_of_ble_eq_true rfl, Nat.le_of_ble_eq_true rfl⟩) rfl hl.1 rfl (Nat.le_of_ble_eq_true rfl) ⟨Nat.zero_le _, Nat.zero_le _⟩ dX1_trial_88 ?_
          refine lv_istore (lv' := [(6, .int (zi (h_all (-1) 1 hd (s_pz S)))), (5, .int (zi (cold S te))), (4, .int (nI ((a * 6) + ((s_tr S) a)))), (0, .ref (A 0)), (1, .int (nI a)), (2, .int hd), (3, .int te)]) hx hb dX1_trial_91 hl (by decide) rfl (fun ls hl => ?_)
          refine lv_iload_n hx hb dX1_trial_93 rfl (lv_at hl 5 rfl) ?_
          refine lv_aload_n hx hb dX1_trial_94 rfl (lv_at hl 3 rfl) ?_
          refine va_get (D := D) (ci := 1) (v := .ref (A 2)) (C := RX1) (T := TX1) (N := 9) hx hb hts hin hown hK hP 0 rfl rfl 5 (by decide) f_23 (fun _ h9 => h9) rfl dX1_trial_95 ?_
          refine lv_iload_n hx hb dX1_trial_98 rfl (lv_at hl 4 rfl) ?_
          refine xa_ld (i := a) (v := ((s_bs S) a)) hx hb hK hP 2 1 rfl rfl (by omega) (by decide) (rfl) dX1_trial_99 ?_
          refine rc_S (v := (zi (be hd ((s_bs S) a)))) ⟨hx, hb, hml, hown, hts⟩ [.int hd, .int ((s_bs S) a)] [] (c_X1_beats l hd ((s_bs S) a)) (va_cwS 2 hts gX1_trial_X1_beats rfl rfl rfl (by decide +kernel) ⟨Nat.le_of_ble_eq_true rfl, Nat.le_of_ble_eq_true rfl⟩) rfl hl.1 rfl (Nat.le_of_ble_eq_true rfl) ⟨Nat.zero_le _, Nat.zero_le _⟩ dX1_trial_100 ?_
          refine lv_istore (lv' := [(7, .int (zi (be hd ((s_bs S) a)))), (6, .int (zi (h_all (-1) 1 hd (s_pz S)))), (5, .int (zi (cold S te))), (4, .int (nI ((a * 6) + ((s_tr S) a)))), (0, .ref (A 0)), (1, .int (nI a)), (2, .int hd), (3, .int te)]) hx hb dX1_trial_103 hl (by decide) rfl (fun ls hl => ?_)
          have K126 : ∀ (q8 : Bool), q8 = ((cold S te && be hd (s_rc S))) → ∀ (ls : Array Slot), lv_has ls 9 [(7, .int (zi (be hd ((s_bs S) a)))), (6, .int (zi (h_all (-1) 1 hd (s_pz S)))), (5, .int (zi (cold S te))), (4, .int (nI ((a * 6) + ((s_tr S) a)))), (0, .ref (A 0)), (1, .int (nI a)), (2, .int hd), (3, .int te)] → W p l e (headSpec wsX1_trial (rmD 2)).room s m ([.ref (A 0), .int (nI a), .int hd, .int te] : List Value).toArray below meth c H locs 0 0 (MQ below (va_Qi (fun r u => (r, u) = m_trial S (nI a) hd te) (Bw D (wM A K) (tM K) A9) A9) ([.ref (A 0), .int (nI a), .int hd, .int te] : List Value).toArray s 0 0 A9) (F0 m 126 ls [.int (zi q8)]) := by
            intro q8 e_q8 ls hl
            refine lv_istore (lv' := [(8, .int (zi q8)), (7, .int (zi (be hd ((s_bs S) a)))), (6, .int (zi (h_all (-1) 1 hd (s_pz S)))), (5, .int (zi (cold S te))), (4, .int (nI ((a * 6) + ((s_tr S) a)))), (0, .ref (A 0)), (1, .int (nI a)), (2, .int hd), (3, .int te)]) hx hb dX1_trial_126 hl (by decide) rfl (fun ls hl => ?_)
            have K148 : ∀ (q9 : Int32), q9 = (if be hd (s_bs S a) = true then hd else s_bs S a) → ∀ (ls : Array Slot), lv_has ls 9 [(8, .int (zi q8)), (7, .int (zi (be hd ((s_bs S) a)))), (6, .int (zi (h_all (-1) 1 hd (s_pz S)))), (5, .int (zi (cold S te))), (4, .int (nI ((a * 6) + ((s_tr S) a)))), (0, .ref (A 0)), (1, .int (nI a)), (2, .int hd), (3, .int te)] → W p l e (headSpec wsX1_trial (rmD 2)).room s m ([.ref (A 0), .int (nI a), .int hd, .int te] : List Value).toArray below meth c H locs 0 0 (MQ below (va_Qi (fun r u => (r, u) = m_trial S (nI a) hd te) (Bw D (wM A K) (tM K) A9) A9) ([.ref (A 0), .int (nI a), .int hd, .int te] : List Value).toArray s 0 0 A9) (F0 m 148 ls [.int q9, .int (nI a), .ref (A 2)]) := by
              intro q9 e_q9 ls hl
              refine xa_st (i := a) (x := q9) (ws' := wM A K (u_bs (upd (s_bs S) a q9) (u_tr (upN (s_tr S) a (((s_tr S) a) + 1)) (u_ch (upd (s_ch S) ((a * 6) + ((s_tr S) a)) te) (u_rt (upd (s_rt S) ((a * 6) + ((s_tr S) a)) hd) S))))) hx hb hK hP hD hS 2 1 rfl rfl (by omega) (by decide) (rfl) rfl dX1_trial_148 (fun H locs hP hD hS => ?_)
              have K163 : ∀ (q10 : Int32), q10 = (if q8 = true then hd else s_rc S) → ∀ (ls : Array Slot), lv_has ls 9 [(8, .int (zi q8)), (7, .int (zi (be hd ((s_bs S) a)))), (6, .int (zi (h_all (-1) 1 hd (s_pz S)))), (5, .int (zi (cold S te))), (4, .int (nI ((a * 6) + ((s_tr S) a)))), (0, .ref (A 0)), (1, .int (nI a)), (2, .int hd), (3, .int te)] → W p l e (headSpec wsX1_trial (rmD 2)).room s m ([.ref (A 0), .int (nI a), .int hd, .int te] : List Value).toArray below meth c H locs 0 0 (MQ below (va_Qi (fun r u => (r, u) = m_trial S (nI a) hd te) (Bw D (wM A K) (tM K) A9) A9) ([.ref (A 0), .int (nI a), .int hd, .int te] : List Value).toArray s 0 0 A9) (F0 m 163 ls [.int q10, .ref (A 0)]) := by
                intro q10 e_q10 ls hl
                refine va_put (D := D) (ci := 1) (v := .int q10) (ty := .int) (C := RX1) (T := TX1) (N := 9) hx hb hts hin tyX1 tyX1_ok nmX1 hown hK hP hD hS 0 rfl rfl 3 (by decide) f_16 (fun _ h9 => h9) rfl (by decide +kernel) rfl rfl (Nat.le_of_ble_eq_true rfl) dX1_trial_163 (fun H locs hP hD hS => ?_)
                have hP : va_P D vwCl (wM A K (u_rc q10 (u_bs (upd (s_bs S) a q9) (u_tr (upN (s_tr S) a (((s_tr S) a) + 1)) (u_ch (upd (s_ch S) ((a * 6) + ((s_tr S) a)) te) (u_rt (upd (s_rt S) ((a * 6) + ((s_tr S) a)) hd) S)))))) H := hP
                have hD : va_D A9 (wM A K (u_rc q10 (u_bs (upd (s_bs S) a q9) (u_tr (upN (s_tr S) a (((s_tr S) a) + 1)) (u_ch (upd (s_ch S) ((a * 6) + ((s_tr S) a)) te) (u_rt (upd (s_rt S) ((a * 6) + ((s_tr S) a)) hd) S)))))) := hD
                have K176 : ∀ (q11 : Nat), q11 = (b2 (cold S te) 1) → ∀ (ls : Array Slot), lv_has ls 9 [(8, .int (zi q8)), (7, .int (zi (be hd ((s_bs S) a)))), (6, .int (zi (h_all (-1) 1 hd (s_pz S)))), (5, .int (zi (cold S te))), (4, .int (nI ((a * 6) + ((s_tr S) a)))), (0, .ref (A 0)), (1, .int (nI a)), (2, .int hd), (3, .int te)] → W p l e (headSpec wsX1_trial (rmD 2)).room s m ([.ref (A 0), .int (nI a), .int hd, .int te] : List Value).toArray below meth c H locs 0 0 (MQ below (va_Qi (fun r u => (r, u) = m_trial S (nI a) hd te) (Bw D (wM A K) (tM K) A9) A9) ([.ref (A 0), .int (nI a), .int hd, .int te] : List Value).toArray s 0 0 A9) (F0 m 176 ls [.int (nI q11)]) := by
                  intro q11 e_q11 ls hl
                  have K186 : ∀ (q12 : Nat), q12 = (b2 (h_all (-1) 1 hd (s_pz S)) 2) → ∀ (ls : Array Slot), lv_has ls 9 [(8, .int (zi q8)), (7, .int (zi (be hd ((s_bs S) a)))), (6, .int (zi (h_all (-1) 1 hd (s_pz S)))), (5, .int (zi (cold S te))), (4, .int (nI ((a * 6) + ((s_tr S) a)))), (0, .ref (A 0)), (1, .int (nI a)), (2, .int hd), (3, .int te)] → W p l e (headSpec wsX1_trial (rmD 2)).room s m ([.ref (A 0), .int (nI a), .int hd, .int te] : List Value).toArray below meth c H locs 0 0 (MQ below (va_Qi (fun r u => (r, u) = m_trial S (nI a) hd te) (Bw D (wM A K) (tM K) A9) A9) ([.ref (A 0), .int (nI a), .int hd, .int te] : List Value).toArray s 0 0 A9) (F0 m 186 ls [.int (nI q12), .int (nI q11)]) := by
                    intro q12 e_q12 ls hl
                    refine xn_add (i := q11) (j := q12) hx hb dX1_trial_186 ?_
                    have K197 : ∀ (q13 : Nat), q13 = (b2 (be hd (s_bs S a)) 4) → ∀ (ls : Array Slot), lv_has ls 9 [(8, .int (zi q8)), (7, .int (zi (be hd ((s_bs S) a)))), (6, .int (zi (h_all (-1) 1 hd (s_pz S)))), (5, .int (zi (cold S te))), (4, .int (nI ((a * 6) + ((s_tr S) a)))), (0, .ref (A 0)), (1, .int (nI a)), (2, .int hd), (3, .int te)] → W p l e (headSpec wsX1_trial (rmD 2)).room s m ([.ref (A 0), .int (nI a), .int hd, .int te] : List Value).toArray below meth c H locs 0 0 (MQ below (va_Qi (fun r u => (r, u) = m_trial S (nI a) hd te) (Bw D (wM A K) (tM K) A9) A9) ([.ref (A 0), .int (nI a), .int hd, .int te] : List Value).toArray s 0 0 A9) (F0 m 197 ls [.int (nI q13), .int (nI (q11 + q12))]) := by
                      intro q13 e_q13 ls hl
                      refine xn_add (i := (q11 + q12)) (j := q13) hx hb dX1_trial_197 ?_
                      have K209 : ∀ (q14 : Nat), q14 = (b2 q8 8) → ∀ (ls : Array Slot), lv_has ls 9 [(8, .int (zi q8)), (7, .int (zi (be hd ((s_bs S) a)))), (6, .int (zi (h_all (-1) 1 hd (s_pz S)))), (5, .int (zi (cold S te))), (4, .int (nI ((a * 6) + ((s_tr S) a)))), (0, .ref (A 0)), (1, .int (nI a)), (2, .int hd), (3, .int te)] → W p l e (headSpec wsX1_trial (rmD 2)).room s m ([.ref (A 0), .int (nI a), .int hd, .int te] : List Value).toArray below meth c H locs 0 0 (MQ below (va_Qi (fun r u => (r, u) = m_trial S (nI a) hd te) (Bw D (wM A K) (tM K) A9) A9) ([.ref (A 0), .int (nI a), .int hd, .int te] : List Value).toArray s 0 0 A9) (F0 m 209 ls [.int (nI q14), .int (nI ((q11 + q12) + q13))]) := by
                        intro q14 e_q14 ls hl
                        refine xn_add (i := ((q11 + q12) + q13)) (j := q14) hx hb dX1_trial_209 ?_
                        exact W.iret (v := (nI (((q11 + q12) + q13) + q14))) hx hb hr (fun t ht hW => ⟨⟨(nI (((q11 + q12) + q13) + q14)), (u_rc q10 (u_bs (upd (s_bs S) a q9) (u_tr (upN (s_tr S) a (((s_tr S) a) + 1)) (u_ch (upd (s_ch S) ((a * 6) + ((s_tr S) a)) te) (u_rt (upd (s_rt S) ((a * 6) + ((s_tr S) a)) hd) S))))), rfl, by simp [m_trial, trM, tr3, x_marks, mk4, c1, ea, c2, c3, c4, e_q8, e_q9, e_q10, e_q11, e_q12, e_q13, e_q14], by rw [ht]; exact hP, va_K.moved hW.alike hK, hD⟩, hS.F ht⟩) hS.2.2 dX1_trial_210
                      refine lv_iload hx hb dX1_trial_198 (lv_at hl 0 rfl) ?_
                      refine xz_eq (b := q8) (tgt := 208) hx hb dX1_trial_200 (by decide) (fun c5 => ?_) (fun c5 => ?_)
                      · refine lv_iconst (v := 0) hx hb dX1_trial_208 (by decide) ?_
                        exact K209 0 (by simp [b2, c5]) ls (lv_sub hl [0, 1, 2, 3, 4, 5, 6, 7, 8] rfl)
                      · refine lv_bipush (v := 8) hx hb dX1_trial_203 (by decide) ?_
                        refine lv_goto (tgt := 209) hx hb dX1_trial_205 (by decide) ?_
                        exact K209 8 (by simp [b2, c5]) ls (lv_sub hl [0, 1, 2, 3, 4, 5, 6, 7, 8] rfl)
                    refine lv_iload hx hb dX1_trial_187 (lv_at hl 1 rfl) ?_
                    refine xz_eq (b := (be hd ((s_bs S) a))) (tgt := 196) hx hb dX1_trial_189 (by decide) (fun c6 => ?_) (fun c6 => ?_)
                    · refine lv_iconst (v := 0) hx hb dX1_trial_196 (by decide) ?_
                      exact K197 0 (by simp [b2, c6]) ls (lv_sub hl [0, 1, 2, 3, 4, 5, 6, 7, 8] rfl)
                    · refine lv_iconst (v := 4) hx hb dX1_trial_192 (by decide) ?_
                      refine lv_goto (tgt := 197) hx hb dX1_trial_193 (by decide) ?_
                      exact K197 4 (by simp [b2, c6]) ls (lv_sub hl [0, 1, 2, 3, 4, 5, 6, 7, 8] rfl)
                  refine lv_iload hx hb dX1_trial_176 (lv_at hl 2 rfl) ?_
                  refine xz_eq (b := (h_all (-1) 1 hd (s_pz S))) (tgt := 185) hx hb dX1_trial_178 (by decide) (fun c7 => ?_) (fun c7 => ?_)
                  · refine lv_iconst (v := 0) hx hb dX1_trial_185 (by decide) ?_
                    exact K186 0 (by simp [b2, c7]) ls (lv_sub hl [0, 1, 2, 3, 4, 5, 6, 7, 8] rfl)
                  · refine lv_iconst (v := 2) hx hb dX1_trial_181 (by decide) ?_
                    refine lv_goto (tgt := 186) hx hb dX1_trial_182 (by decide) ?_
                    exact K186 2 (by simp [b2, c7]) ls (lv_sub hl [0, 1, 2, 3, 4, 5, 6, 7, 8] rfl)
                refine lv_iload hx hb dX1_trial_166 (lv_at hl 3 rfl) ?_
                refine xz_eq (b := (cold S te)) (tgt := 175) hx hb dX1_trial_168 (by decide) (fun c8 => ?_) (fun c8 => ?_)
                · refine lv_iconst (v := 0) hx hb dX1_trial_175 (by decide) ?_
                  exact K176 0 (by simp [b2, c8]) ls (lv_sub hl [0, 1, 2, 3, 4, 5, 6, 7, 8] rfl)
                · refine lv_iconst (v := 1) hx hb dX1_trial_171 (by decide) ?_
                  refine lv_goto (tgt := 176) hx hb dX1_trial_172 (by decide) ?_
                  exact K176 1 (by simp [b2, c8]) ls (lv_sub hl [0, 1, 2, 3, 4, 5, 6, 7, 8] rfl)
              refine lv_aload_n hx hb dX1_trial_149 rfl (lv_at hl 5 rfl) ?_
              refine lv_iload hx hb dX1_trial_150 (lv_at hl 0 rfl) ?_
              refine xz_eq (b := q8) (tgt := 159) hx hb dX1_trial_152 (by decide) (fun c9 => ?_) (fun c9 => ?_)
              · refine lv_aload_n hx hb dX1_trial_159 rfl (lv_at hl 5 rfl) ?_
                refine va_get (D := D) (ci := 1) (v := .int (s_rc S)) (C := RX1) (T := TX1) (N := 9) hx hb hts hin hown hK hP 0 rfl rfl 3 (by decide) f_16 (fun _ h9 => h9) rfl dX1_trial_160 ?_
                exact K163 (s_rc S) (by simp [c9]) ls (lv_sub hl [0, 1, 2, 3, 4, 5, 6, 7, 8] rfl)
              · refine lv_iload_n hx hb dX1_trial_155 rfl (lv_at hl 7 rfl) ?_
                refine lv_goto (tgt := 163) hx hb dX1_trial_156 (by decide) ?_
                exact K163 hd (by simp [c9]) ls (lv_sub hl [0, 1, 2, 3, 4, 5, 6, 7, 8] rfl)
            refine lv_aload_n hx hb dX1_trial_128 rfl (lv_at hl 5 rfl) ?_
            refine va_get (D := D) (ci := 1) (v := .ref (A 2)) (C := RX1) (T := TX1) (N := 9) hx hb hts hin hown hK hP 0 rfl rfl 5 (by decide) f_23 (fun _ h9 => h9) rfl dX1_trial_129 ?_
            refine lv_iload_n hx hb dX1_trial_132 rfl (lv_at hl 6 rfl) ?_
            refine lv_iload hx hb dX1_trial_133 (lv_at hl 1 rfl) ?_
            refine xz_eq (b := (be hd ((s_bs S) a))) (tgt := 142) hx hb dX1_trial_135 (by decide) (fun c10 => ?_) (fun c10 => ?_)
            · refine lv_aload_n hx hb dX1_trial_142 rfl (lv_at hl 5 rfl) ?_
              refine va_get (D := D) (ci := 1) (v := .ref (A 2)) (C := RX1) (T := TX1) (N := 9) hx hb hts hin hown hK hP 0 rfl rfl 5 (by decide) f_23 (fun _ h9 => h9) rfl dX1_trial_143 ?_
              refine lv_iload_n hx hb dX1_trial_146 rfl (lv_at hl 6 rfl) ?_
              refine xa_ld (i := a) (v := ((s_bs S) a)) hx hb hK hP 2 1 rfl rfl (by omega) (by decide) (rfl) dX1_trial_147 ?_
              exact K148 ((s_bs S) a) (by simp [c10]) ls (lv_sub hl [0, 1, 2, 3, 4, 5, 6, 7, 8] rfl)
            · refine lv_iload_n hx hb dX1_trial_138 rfl (lv_at hl 7 rfl) ?_
              refine lv_goto (tgt := 148) hx hb dX1_trial_139 (by decide) ?_
              exact K148 hd (by simp [c10]) ls (lv_sub hl [0, 1, 2, 3, 4, 5, 6, 7, 8] rfl)
          refine lv_iload hx hb dX1_trial_105 (lv_at hl 2 rfl) ?_
          refine xz_eq (b := (cold S te)) (tgt := 125) hx hb dX1_trial_107 (by decide) (fun c11 => ?_) (fun c11 => ?_)
          · refine lv_iconst (v := 0) hx hb dX1_trial_125 (by decide) ?_
            exact K126 false (by simp [c1, ea, c2, c3, c4, c11]) ls (lv_sub hl [0, 1, 2, 3, 4, 5, 6, 7] rfl)
          · refine lv_iload_n hx hb dX1_trial_110 rfl (lv_at hl 6 rfl) ?_
            refine lv_aload_n hx hb dX1_trial_111 rfl (lv_at hl 4 rfl) ?_
            refine va_get (D := D) (ci := 1) (v := .int (s_rc S)) (C := RX1) (T := TX1) (N := 9) hx hb hts hin hown hK hP 0 rfl rfl 3 (by decide) f_16 (fun _ h9 => h9) rfl dX1_trial_112 ?_
            refine rc_S (v := (zi (be hd (s_rc S)))) ⟨hx, hb, hml, hown, hts⟩ [.int hd, .int (s_rc S)] [] (c_X1_beats l hd (s_rc S)) (va_cwS 2 hts gX1_trial_X1_beats rfl rfl rfl (by decide +kernel) ⟨Nat.le_of_ble_eq_true rfl, Nat.le_of_ble_eq_true rfl⟩) rfl hl.1 rfl (Nat.le_of_ble_eq_true rfl) ⟨Nat.zero_le _, Nat.zero_le _⟩ dX1_trial_115 ?_
            refine xz_eq (b := (be hd (s_rc S))) (tgt := 125) hx hb dX1_trial_118 (by decide) (fun c12 => ?_) (fun c12 => ?_)
            · refine lv_iconst (v := 0) hx hb dX1_trial_125 (by decide) ?_
              exact K126 false (by simp [c1, ea, c2, c3, c4, c11, c12]) ls (lv_sub hl [0, 1, 2, 3, 4, 5, 6, 7] rfl)
            · refine lv_iconst (v := 1) hx hb dX1_trial_121 (by decide) ?_
              refine lv_goto (tgt := 126) hx hb dX1_trial_122 (by decide) ?_
              exact K126 true (by simp [c1, ea, c2, c3, c4, c11, c12]) ls (lv_sub hl [0, 1, 2, 3, 4, 5, 6, 7] rfl)
        · refine lv_iconst (v := (-1)) hx hb dX1_trial_33 (by decide) ?_
          exact W.iret (v := (-1)) hx hb hr (fun t ht hW => ⟨⟨(-1), S, rfl, by simp [m_trial, trM, tr3, x_marks, mk4, c1, ea, c2, c3, c4], by rw [ht]; exact hP, va_K.moved hW.alike hK, hD⟩, hS.F ht⟩) hS.2.2 dX1_trial_34
set_option maxHeartbeats 4000000 in
set_option maxRecDepth 100000 in
theorem c_X1_annul (l : Launch) (D : va_G) (A : Nat → Nat) (K : Nat → ClassId) (S : XS) (hI : x_inv S) (sz : Nat) (v : Int32) : Met l yX1_annul wsX1_annul (rmD 2) (va_Pc [.ref (A 0), .int v] (Pw D (wM A K S) (tM K) sz)) (va_Qi (fun r u => (r, u) = x_annul S v) (Bw D (wM A K) (tM K) (va_A (wM A K S) sz)) (va_A (wM A K S) sz)) 0 0 (va_A (wM A K S) sz) := by
  refine Met.ofW (cc := cX1_annul) (maxL := 4) (ret := some .int) (by decide) rfl ?_
  intro p e s m args below meth c s₁ B hml hv
  obtain ⟨rfl, hsz, hP, hK, hD0⟩ := hv
  have hx := B.exec
  have hb := B.bytes
  have hr := B.returns
  have hts := atoms_spec (ws := wsX1_annul) B.pre
  have hown : s.vm.findClass RX1 = some m.cls := findClass_of_methodNamed B.named
  have hlocks := B.notSynchronized
  have hn8 := hI.1
  have hin : ∀ w ∈ u_ws RX1 TX1 9, w ∈ wsX1_annul := fun w h => List.mem_cons_of_mem _ (List.mem_append_right _ h)
  have f_19 := hts (.fieldLink RX1 19 "ChronoTrialsModel" "many" "[I") (by decide +kernel)
  have f_23 := hts (.fieldLink RX1 23 "ChronoTrialsModel" "best" "[I") (by decide +kernel)
  have f_29 := hts (.fieldLink RX1 29 "ChronoTrialsModel" "rates" "[I") (by decide +kernel)
  subst hsz
  have hD := hD0.self (sz := s.heap.size)
  generalize hAe : va_A (wM A K S) s.heap.size = A9 at hD ⊢
  have hS : va_S A9 s.heap s.heap [] := va_S.rf
  have hl := lv_entry ([.ref (A 0), .int v]) (n := 4) (Nat.le_of_ble_eq_true rfl)
  rw [lg_entry_eq]
  generalize (lg_sl ([.ref (A 0), .int v]) ++ List.replicate (4 - (lg_sl ([.ref (A 0), .int v])).length) Slot.unset).toArray = ls at hl ⊢
  have hl : lv_has ls 4 [(0, .ref (A 0)), (1, .int v)] := hl
  refine lv_aload_n hx hb dX1_annul_0 rfl (lv_at hl 0 rfl) ?_
  refine lv_iload_n hx hb dX1_annul_1 rfl (lv_at hl 1 rfl) ?_
  refine rc_V (v := (zi (isClk S v))) ⟨hx, hb, hml, hown, hts⟩ [.int v] [] (c_X1_isClock l D A K S hI v) (cwV 1 hts gX1_annul_X1_isClock rfl rfl rfl (by decide +kernel) ⟨Nat.le_of_ble_eq_true rfl, Nat.le_of_ble_eq_true rfl⟩) hK hP (va_recv hK hP (ci := 1) (q0 := 0) rfl rfl) rfl hl.1 rfl (Nat.le_of_ble_eq_true rfl) ⟨Nat.zero_le _, Nat.zero_le _⟩ dX1_annul_2 ?_
  refine xz_eq (b := (isClk S v)) (tgt := 17) hx hb dX1_annul_5 (by decide) (fun c1 => ?_) (fun c1 => ?_)
  · refine lv_iconst (v := (-1)) hx hb dX1_annul_17 (by decide) ?_
    exact W.iret (v := (-1)) hx hb hr (fun t ht hW => ⟨⟨(-1), S, rfl, by simp [x_annul, c1], by rw [ht]; exact hP, va_K.moved hW.alike hK, hD⟩, hS.F ht⟩) hS.2.2 dX1_annul_18
  · obtain ⟨a, ha, rfl⟩ := isClk_ex c1 hn8
    have ea : (nI a).toNatClampNeg = a := nI_clamp (by omega)
    have ht6 := hI.2 a
    refine lv_aload_n hx hb dX1_annul_8 rfl (lv_at hl 0 rfl) ?_
    refine va_get (D := D) (ci := 1) (v := .ref (A 1)) (C := RX1) (T := TX1) (N := 9) hx hb hts hin hown hK hP 0 rfl rfl 4 (by decide) f_19 (fun _ h9 => h9) rfl dX1_annul_9 ?_
    refine lv_iload_n hx hb dX1_annul_12 rfl (lv_at hl 1 rfl) ?_
    refine xa_ld (i := a) (v := (nI ((s_tr S) a))) hx hb hK hP 1 0 rfl rfl (by omega) (by decide) (rfl) dX1_annul_13 ?_
    refine xn_ifne (i := ((s_tr S) a)) (tgt := 19) hx hb (by omega) dX1_annul_14 (by decide) (fun c2 => ?_) (fun c2 => ?_)
    · refine lv_aload_n hx hb dX1_annul_19 rfl (lv_at hl 0 rfl) ?_
      refine va_get (D := D) (ci := 1) (v := .ref (A 1)) (C := RX1) (T := TX1) (N := 9) hx hb hts hin hown hK hP 0 rfl rfl 4 (by decide) f_19 (fun _ h9 => h9) rfl dX1_annul_20 ?_
      refine lv_iload_n hx hb dX1_annul_23 rfl (lv_at hl 1 rfl) ?_
      refine lv_dup2_11 hx hb dX1_annul_24 rfl rfl ?_
      refine xa_ld (i := a) (v := (nI ((s_tr S) a))) hx hb hK hP 1 0 rfl rfl (by omega) (by decide) (rfl) dX1_annul_25 ?_
      refine lv_iconst (v := 1) hx hb dX1_annul_26 (by decide) ?_
      refine xn_sub (i := ((s_tr S) a)) (j := 1) hx hb (by omega) dX1_annul_27 ?_
      refine xa_st (i := a) (x := nI (((s_tr S) a) - 1)) (ws' := wM A K (an1 S a)) hx hb hK hP hD hS 1 0 rfl rfl (by omega) (by decide) (upN_e _ _ _) rfl dX1_annul_28 (fun H locs hP hD hS => ?_)
      refine lv_aload_n hx hb dX1_annul_29 rfl (lv_at hl 0 rfl) ?_
      refine va_get (D := D) (ci := 1) (v := .ref (A 2)) (C := RX1) (T := TX1) (N := 9) hx hb hts hin hown hK hP 0 rfl rfl 5 (by decide) f_23 (fun _ h9 => h9) rfl dX1_annul_30 ?_
      refine lv_iload_n hx hb dX1_annul_33 rfl (lv_at hl 1 rfl) ?_
      refine lv_iconst (v := (-1)) hx hb dX1_annul_34 (by decide) ?_
      refine xa_st (i := a) (x := (-1)) (ws' := wM A K (an2 S a (-1))) hx hb hK hP hD hS 2 1 rfl rfl (by omega) (by decide) (rfl) rfl dX1_annul_35 (fun H locs hP hD hS => ?_)
      refine lv_iconst (v := 0) hx hb dX1_annul_36 (by decide) ?_
      refine lv_istore_n (lv' := [(2, .int 0), (0, .ref (A 0)), (1, .int (nI a))]) hx hb dX1_annul_37 rfl hl (by decide) rfl (fun ls hl => ?_)
      have L38 : ∀ (m1 i1 : Nat) (acc : Int32), i1 + m1 = s_tr S a - 1 → acc = lr (fun t => s_rt S (a * 6 + t)) i1 → ∀ (H : Heap) (locs : List Loc), va_P D vwCl (wM A K (an2 S a acc)) H → va_D A9 (wM A K (an2 S a acc)) → va_S A9 s.heap H locs → ∀ (ls : Array Slot), lv_has ls 4 [(0, .ref (A 0)), (1, .int (nI a)), (2, .int (nI i1))] → W p l e (headSpec wsX1_annul (rmD 2)).room s m ([.ref (A 0), .int (nI a)] : List Value).toArray below meth c H locs 0 0 (MQ below (va_Qi (fun r u => (r, u) = x_annul S (nI a)) (Bw D (wM A K) (tM K) A9) A9) ([.ref (A 0), .int (nI a)] : List Value).toArray s 0 0 A9) (F0 m 38 ls []) := by
        intro m1
        induction m1 with
        | zero =>
          intro i1 acc hm1 hacc H locs hP hD hS ls hl
          refine lv_iload_n hx hb dX1_annul_38 rfl (lv_at hl 2 rfl) ?_
          refine lv_aload_n hx hb dX1_annul_39 rfl (lv_at hl 0 rfl) ?_
          refine va_get (D := D) (ci := 1) (v := .ref (A 1)) (C := RX1) (T := TX1) (N := 9) hx hb hts hin hown hK hP 0 rfl rfl 4 (by decide) f_19 (fun _ h9 => h9) rfl dX1_annul_40 ?_
          refine lv_iload_n hx hb dX1_annul_43 rfl (lv_at hl 1 rfl) ?_
          refine xa_ld (i := a) (v := (nI (s_tr S a - 1))) hx hb hK hP 1 0 rfl rfl (by omega) (by decide) (congrArg nI (upN_s _ _ _)) dX1_annul_44 ?_
          refine xn_ge (i := i1) (j := (s_tr S a - 1)) (tgt := 95) hx hb (by omega) (by omega) dX1_annul_45 (by decide) (fun c3 => ?_) (fun c3 => ?_)
          · refine lv_aload_n hx hb dX1_annul_95 rfl (lv_at hl 0 rfl) ?_
            refine va_get (D := D) (ci := 1) (v := .ref (A 1)) (C := RX1) (T := TX1) (N := 9) hx hb hts hin hown hK hP 0 rfl rfl 4 (by decide) f_19 (fun _ h9 => h9) rfl dX1_annul_96 ?_
            refine lv_iload_n hx hb dX1_annul_99 rfl (lv_at hl 1 rfl) ?_
            refine xa_ld (i := a) (v := (nI (s_tr S a - 1))) hx hb hK hP 1 0 rfl rfl (by omega) (by decide) (congrArg nI (upN_s _ _ _)) dX1_annul_100 ?_
            exact W.iret (v := (nI (s_tr S a - 1))) hx hb hr (fun t ht hW => ⟨⟨(nI (s_tr S a - 1)), an2 S a acc, rfl, by rw [hacc, show i1 = s_tr S a - 1 by omega]; simp [x_annul, least_an, c1, ea, c2, c3], by rw [ht]; exact hP, va_K.moved hW.alike hK, hD⟩, hS.F ht⟩) hS.2.2 dX1_annul_101
          · exfalso; omega
        | succ m1 ih =>
          intro i1 acc hm1 hacc H locs hP hD hS ls hl
          refine lv_iload_n hx hb dX1_annul_38 rfl (lv_at hl 2 rfl) ?_
          refine lv_aload_n hx hb dX1_annul_39 rfl (lv_at hl 0 rfl) ?_
          refine va_get (D := D) (ci := 1) (v := .ref (A 1)) (C := RX1) (T := TX1) (N := 9) hx hb hts hin hown hK hP 0 rfl rfl 4 (by decide) f_19 (fun _ h9 => h9) rfl dX1_annul_40 ?_
          refine lv_iload_n hx hb dX1_annul_43 rfl (lv_at hl 1 rfl) ?_
          refine xa_ld (i := a) (v := (nI (s_tr S a - 1))) hx hb hK hP 1 0 rfl rfl (by omega) (by decide) (congrArg nI (upN_s _ _ _)) dX1_annul_44 ?_
          refine xn_ge (i := i1) (j := (s_tr S a - 1)) (tgt := 95) hx hb (by omega) (by omega) dX1_annul_45 (by decide) (fun c4 => ?_) (fun c4 => ?_)
          · exfalso; omega
          · refine lv_aload_n hx hb dX1_annul_48 rfl (lv_at hl 0 rfl) ?_
            refine va_get (D := D) (ci := 1) (v := .ref (A 4)) (C := RX1) (T := TX1) (N := 9) hx hb hts hin hown hK hP 0 rfl rfl 7 (by decide) f_29 (fun _ h9 => h9) rfl dX1_annul_49 ?_
            refine lv_bipush (v := 6) hx hb dX1_annul_52 (by decide) ?_
            refine lv_iload_n hx hb dX1_annul_54 rfl (lv_at hl 1 rfl) ?_
            refine xn_mulc (i := 6) (j := a) hx hb dX1_annul_55 ?_
            refine lv_iload_n hx hb dX1_annul_56 rfl (lv_at hl 2 rfl) ?_
            refine xn_add (i := (a * 6)) (j := i1) hx hb dX1_annul_57 ?_
            refine xa_ld (i := ((a * 6) + i1)) (v := ((s_rt S) ((a * 6) + i1))) hx hb hK hP 4 3 rfl rfl (by omega) (by decide) (rfl) dX1_annul_58 ?_
            refine lv_istore_n (lv' := [(3, .int ((s_rt S) ((a * 6) + i1))), (0, .ref (A 0)), (1, .int (nI a)), (2, .int (nI i1))]) hx hb dX1_annul_59 rfl hl (by decide) rfl (fun ls hl => ?_)
            refine lv_aload_n hx hb dX1_annul_60 rfl (lv_at hl 1 rfl) ?_
            refine va_get (D := D) (ci := 1) (v := .ref (A 2)) (C := RX1) (T := TX1) (N := 9) hx hb hts hin hown hK hP 0 rfl rfl 5 (by decide) f_23 (fun _ h9 => h9) rfl dX1_annul_61 ?_
            refine lv_iload_n hx hb dX1_annul_64 rfl (lv_at hl 2 rfl) ?_
            refine lv_iload_n hx hb dX1_annul_65 rfl (lv_at hl 0 rfl) ?_
            refine lv_aload_n hx hb dX1_annul_66 rfl (lv_at hl 1 rfl) ?_
            refine va_get (D := D) (ci := 1) (v := .ref (A 2)) (C := RX1) (T := TX1) (N := 9) hx hb hts hin hown hK hP 0 rfl rfl 5 (by decide) f_23 (fun _ h9 => h9) rfl dX1_annul_67 ?_
            refine lv_iload_n hx hb dX1_annul_70 rfl (lv_at hl 2 rfl) ?_
            refine xa_ld (i := a) (v := acc) hx hb hK hP 2 1 rfl rfl (by omega) (by decide) (pk_us) dX1_annul_71 ?_
            refine rc_S (v := (zi (be ((s_rt S) ((a * 6) + i1)) acc))) ⟨hx, hb, hml, hown, hts⟩ [.int ((s_rt S) ((a * 6) + i1)), .int acc] [.int (nI a), .ref (A 2)] (c_X1_beats l ((s_rt S) ((a * 6) + i1)) acc) (va_cwS 2 hts gX1_annul_X1_beats rfl rfl rfl (by decide +kernel) ⟨Nat.le_of_ble_eq_true rfl, Nat.le_of_ble_eq_true rfl⟩) rfl hl.1 rfl (Nat.le_of_ble_eq_true rfl) ⟨Nat.zero_le _, Nat.zero_le _⟩ dX1_annul_72 ?_
            refine xz_eq (b := (be ((s_rt S) ((a * 6) + i1)) acc)) (tgt := 82) hx hb dX1_annul_75 (by decide) (fun c5 => ?_) (fun c5 => ?_)
            · refine lv_aload_n hx hb dX1_annul_82 rfl (lv_at hl 1 rfl) ?_
              refine va_get (D := D) (ci := 1) (v := .ref (A 2)) (C := RX1) (T := TX1) (N := 9) hx hb hts hin hown hK hP 0 rfl rfl 5 (by decide) f_23 (fun _ h9 => h9) rfl dX1_annul_83 ?_
              refine lv_iload_n hx hb dX1_annul_86 rfl (lv_at hl 2 rfl) ?_
              refine xa_ld (i := a) (v := acc) hx hb hK hP 2 1 rfl rfl (by omega) (by decide) (pk_us) dX1_annul_87 ?_
              refine xa_st (i := a) (x := acc) (ws' := wM A K (an2 S a acc)) hx hb hK hP hD hS 2 1 rfl rfl (by omega) (by decide) (up_uu _ _ _ _) rfl dX1_annul_88 (fun H locs hP hD hS => ?_)
              refine lv_iinc (v := (nI (i1 + 1))) (lv' := [(2, .int (nI (i1 + 1))), (3, .int ((s_rt S) ((a * 6) + i1))), (0, .ref (A 0)), (1, .int (nI a))]) hx hb dX1_annul_89 hl (k := 3) rfl (nI_add i1 1) (by decide) rfl (fun ls hl => ?_)
              refine lv_goto (tgt := 38) hx hb dX1_annul_92 (by decide) ?_
              exact ih (i1 + 1) acc (by omega) (by rw [lr, ← hacc]; simp [c1, ea, c2, c4, c5]) _ _ hP hD hS ls (lv_sub hl [2, 3, 0] rfl)
            · refine lv_iload_n hx hb dX1_annul_78 rfl (lv_at hl 0 rfl) ?_
              refine lv_goto (tgt := 88) hx hb dX1_annul_79 (by decide) ?_
              refine xa_st (i := a) (x := ((s_rt S) ((a * 6) + i1))) (ws' := wM A K (an2 S a ((s_rt S) ((a * 6) + i1)))) hx hb hK hP hD hS 2 1 rfl rfl (by omega) (by decide) (up_uu _ _ _ _) rfl dX1_annul_88 (fun H locs hP hD hS => ?_)
              refine lv_iinc (v := (nI (i1 + 1))) (lv' := [(2, .int (nI (i1 + 1))), (3, .int ((s_rt S) ((a * 6) + i1))), (0, .ref (A 0)), (1, .int (nI a))]) hx hb dX1_annul_89 hl (k := 3) rfl (nI_add i1 1) (by decide) rfl (fun ls hl => ?_)
              refine lv_goto (tgt := 38) hx hb dX1_annul_92 (by decide) ?_
              exact ih (i1 + 1) ((s_rt S) ((a * 6) + i1)) (by omega) (by rw [lr, ← hacc]; simp [c1, ea, c2, c4, c5]) _ _ hP hD hS ls (lv_sub hl [2, 3, 0] rfl)
      exact L38 (s_tr S a - 1) 0 (-1) (by omega) (rfl) _ _ hP hD hS ls (lv_sub hl [1, 2, 0] rfl)
    · refine lv_iconst (v := (-1)) hx hb dX1_annul_17 (by decide) ?_
      exact W.iret (v := (-1)) hx hb hr (fun t ht hW => ⟨⟨(-1), S, rfl, by simp [x_annul, c1, ea, c2], by rw [ht]; exact hP, va_K.moved hW.alike hK, hD⟩, hS.F ht⟩) hS.2.2 dX1_annul_18
set_option maxHeartbeats 4000000 in
set_option maxRecDepth 100000 in
theorem c_X1_ask (l : Launch) (D : va_G) (A : Nat → Nat) (K : Nat → ClassId) (S : XS) (hI : x_inv S) (sz : Nat) (w : Int32) (sg : Int32) (hw : Int32) (v : Int32) (z : Int32) : Met l yX1_ask wsX1_ask (rmD 2) (va_Pc [.ref (A 0), .int w, .int sg, .int hw, .int v, .int z] (Pw D (wM A K S) (tM K) sz)) (va_Qi (fun r u => (r, u) = m_ask S w sg hw v z) (Bw D (wM A K) (tM K) (va_A (wM A K S) sz)) (va_A (wM A K S) sz)) 0 0 (va_A (wM A K S) sz) := by
  refine Met.ofW (cc := cX1_ask) (maxL := 8) (ret := some .int) (by decide) rfl ?_
  intro p e s m args below meth c s₁ B hml hv
  obtain ⟨rfl, hsz, hP, hK, hD0⟩ := hv
  have hx := B.exec
  have hb := B.bytes
  have hr := B.returns
  have hts := atoms_spec (ws := wsX1_ask) B.pre
  have hown : s.vm.findClass RX1 = some m.cls := findClass_of_methodNamed B.named
  have hlocks := B.notSynchronized
  have hn8 := hI.1
  have hin : ∀ w ∈ u_ws RX1 TX1 9, w ∈ wsX1_ask := fun w h => List.mem_cons_of_mem _ (List.mem_append_right _ h)
  have f_26 := hts (.fieldLink RX1 26 "ChronoTrialsModel" "seal" "[I") (by decide +kernel)
  have f_35 := hts (.fieldLink RX1 35 "ChronoTrialsModel" "clocks" "I") (by decide +kernel)
  subst hsz
  have hD := hD0.self (sz := s.heap.size)
  generalize hAe : va_A (wM A K S) s.heap.size = A9 at hD ⊢
  have hS : va_S A9 s.heap s.heap [] := va_S.rf
  have hl := lv_entry ([.ref (A 0), .int w, .int sg, .int hw, .int v, .int z]) (n := 8) (Nat.le_of_ble_eq_true rfl)
  rw [lg_entry_eq]
  generalize (lg_sl ([.ref (A 0), .int w, .int sg, .int hw, .int v, .int z]) ++ List.replicate (8 - (lg_sl ([.ref (A 0), .int w, .int sg, .int hw, .int v, .int z])).length) Slot.unset).toArray = ls at hl ⊢
  have hl : lv_has ls 8 [(0, .ref (A 0)), (1, .int w), (2, .int sg), (3, .int hw), (4, .int v), (5, .int z)] := hl
  refine lv_iload_n hx hb dX1_ask_0 rfl (lv_at hl 1 rfl) ?_
  refine lv_if_lt (tgt := 36) hx hb dX1_ask_1 (by decide) (fun c1 => ?_) (fun c1 => ?_)
  · refine lv_iconst (v := (-1)) hx hb dX1_ask_36 (by decide) ?_
    exact W.iret (v := (-1)) hx hb hr (fun t ht hW => ⟨⟨(-1), S, rfl, by simp [m_ask, askN, a_sl, h_in, both, zi, c1], by rw [ht]; exact hP, va_K.moved hW.alike hK, hD⟩, hS.F ht⟩) hS.2.2 dX1_ask_37
  · refine lv_iload_n hx hb dX1_ask_4 rfl (lv_at hl 1 rfl) ?_
    refine lv_iconst (v := 1) hx hb dX1_ask_5 (by decide) ?_
    refine lv_icmp_gt (tgt := 36) hx hb dX1_ask_6 (by decide) (fun c2 => ?_) (fun c2 => ?_)
    · refine lv_iconst (v := (-1)) hx hb dX1_ask_36 (by decide) ?_
      exact W.iret (v := (-1)) hx hb hr (fun t ht hW => ⟨⟨(-1), S, rfl, by simp [m_ask, askN, a_sl, h_in, both, zi, c1, c2], by rw [ht]; exact hP, va_K.moved hW.alike hK, hD⟩, hS.F ht⟩) hS.2.2 dX1_ask_37
    · refine lv_iload_n hx hb dX1_ask_9 rfl (lv_at hl 2 rfl) ?_
      refine lv_if_lt (tgt := 36) hx hb dX1_ask_10 (by decide) (fun c3 => ?_) (fun c3 => ?_)
      · refine lv_iconst (v := (-1)) hx hb dX1_ask_36 (by decide) ?_
        exact W.iret (v := (-1)) hx hb hr (fun t ht hW => ⟨⟨(-1), S, rfl, by simp [m_ask, askN, a_sl, h_in, both, zi, c1, c2, c3], by rw [ht]; exact hP, va_K.moved hW.alike hK, hD⟩, hS.F ht⟩) hS.2.2 dX1_ask_37
      · refine lv_iload_n hx hb dX1_ask_13 rfl (lv_at hl 2 rfl) ?_
        refine lv_iconst (v := 5) hx hb dX1_ask_14 (by decide) ?_
        refine lv_icmp_gt (tgt := 36) hx hb dX1_ask_15 (by decide) (fun c4 => ?_) (fun c4 => ?_)
        · refine lv_iconst (v := (-1)) hx hb dX1_ask_36 (by decide) ?_
          exact W.iret (v := (-1)) hx hb hr (fun t ht hW => ⟨⟨(-1), S, rfl, by simp [m_ask, askN, a_sl, h_in, both, zi, c1, c2, c3, c4], by rw [ht]; exact hP, va_K.moved hW.alike hK, hD⟩, hS.F ht⟩) hS.2.2 dX1_ask_37
        · refine lv_aload_n hx hb dX1_ask_18 rfl (lv_at hl 0 rfl) ?_
          refine lv_iload hx hb dX1_ask_19 (lv_at hl 4 rfl) ?_
          refine rc_V (v := (zi (isClk S v))) ⟨hx, hb, hml, hown, hts⟩ [.int v] [] (c_X1_isClock l D A K S hI v) (cwV 1 hts gX1_ask_X1_isClock rfl rfl rfl (by decide +kernel) ⟨Nat.le_of_ble_eq_true rfl, Nat.le_of_ble_eq_true rfl⟩) hK hP (va_recv hK hP (ci := 1) (q0 := 0) rfl rfl) rfl hl.1 rfl (Nat.le_of_ble_eq_true rfl) ⟨Nat.zero_le _, Nat.zero_le _⟩ dX1_ask_21 ?_
          refine xz_eq (b := (isClk S v)) (tgt := 36) hx hb dX1_ask_24 (by decide) (fun c5 => ?_) (fun c5 => ?_)
          · refine lv_iconst (v := (-1)) hx hb dX1_ask_36 (by decide) ?_
            exact W.iret (v := (-1)) hx hb hr (fun t ht hW => ⟨⟨(-1), S, rfl, by simp [m_ask, askN, a_sl, h_in, both, zi, c1, c2, c3, c4, c5], by rw [ht]; exact hP, va_K.moved hW.alike hK, hD⟩, hS.F ht⟩) hS.2.2 dX1_ask_37
          · obtain ⟨a, ha, rfl⟩ := isClk_ex c5 hn8
            have ea : (nI a).toNatClampNeg = a := nI_clamp (by omega)
            refine lv_aload_n hx hb dX1_ask_27 rfl (lv_at hl 0 rfl) ?_
            refine lv_iload hx hb dX1_ask_28 (lv_at hl 5 rfl) ?_
            refine rc_V (v := (zi (isClk S z))) ⟨hx, hb, hml, hown, hts⟩ [.int z] [] (c_X1_isClock l D A K S hI z) (cwV 1 hts gX1_ask_X1_isClock rfl rfl rfl (by decide +kernel) ⟨Nat.le_of_ble_eq_true rfl, Nat.le_of_ble_eq_true rfl⟩) hK hP (va_recv hK hP (ci := 1) (q0 := 0) rfl rfl) rfl hl.1 rfl (Nat.le_of_ble_eq_true rfl) ⟨Nat.zero_le _, Nat.zero_le _⟩ dX1_ask_30 ?_
            refine xz_ne (b := (isClk S z)) (tgt := 38) hx hb dX1_ask_33 (by decide) (fun c6 => ?_) (fun c6 => ?_)
            · obtain ⟨b, hb8, rfl⟩ := isClk_ex c6 hn8
              have eb : (nI b).toNatClampNeg = b := nI_clamp (by omega)
              refine lv_aload_n hx hb dX1_ask_38 rfl (lv_at hl 0 rfl) ?_
              refine lv_iload_n hx hb dX1_ask_39 rfl (lv_at hl 1 rfl) ?_
              refine lv_iload_n hx hb dX1_ask_40 rfl (lv_at hl 2 rfl) ?_
              refine lv_iload hx hb dX1_ask_41 (lv_at hl 4 rfl) ?_
              refine lv_iload hx hb dX1_ask_43 (lv_at hl 5 rfl) ?_
              refine rc_V (v := (zi (hc S w sg a b))) ⟨hx, hb, hml, hown, hts⟩ [.int w, .int sg, .int (nI a), .int (nI b)] [] (c_X1_asked l D A K S hI w sg a b (by omega) (by omega)) (cwV 4 hts gX1_ask_X1_asked rfl rfl rfl (by decide +kernel) ⟨Nat.le_of_ble_eq_true rfl, Nat.le_of_ble_eq_true rfl⟩) hK hP (va_recv hK hP (ci := 1) (q0 := 0) rfl rfl) rfl hl.1 rfl (Nat.le_of_ble_eq_true rfl) ⟨Nat.zero_le _, Nat.zero_le _⟩ dX1_ask_45 ?_
              refine lv_istore (lv' := [(6, .int (zi (hc S w sg a b))), (0, .ref (A 0)), (1, .int w), (2, .int sg), (3, .int hw), (4, .int (nI a)), (5, .int (nI b))]) hx hb dX1_ask_48 hl (by decide) rfl (fun ls hl => ?_)
              refine lv_iload_n hx hb dX1_ask_50 rfl (lv_at hl 4 rfl) ?_
              by_cases w7 : hw = 0
              · refine lv_tableIn (tgt := 88) hx hb dX1_ask_51 (by rw [w7]; decide) (by rw [w7]; decide) (by rw [w7]; rfl) (by decide) ?_
                refine lv_iload hx hb dX1_ask_88 (lv_at hl 0 rfl) ?_
                refine xz_eq (b := (hc S w sg a b)) (tgt := 97) hx hb dX1_ask_90 (by decide) (fun c8 => ?_) (fun c8 => ?_)
                · refine lv_iconst (v := 0) hx hb dX1_ask_97 (by decide) ?_
                  exact W.iret (v := 0) hx hb hr (fun t ht hW => ⟨⟨0, S, rfl, by simp [m_ask, askN, a_sl, h_in, both, zi, c1, c2, c3, c4, c5, ea, c6, eb, w7, c8], by rw [ht]; exact hP, va_K.moved hW.alike hK, hD⟩, hS.F ht⟩) hS.2.2 dX1_ask_98
                · refine lv_iconst (v := 1) hx hb dX1_ask_93 (by decide) ?_
                  refine lv_goto (tgt := 98) hx hb dX1_ask_94 (by decide) ?_
                  exact W.iret (v := 1) hx hb hr (fun t ht hW => ⟨⟨1, S, rfl, by simp [m_ask, askN, a_sl, h_in, both, zi, c1, c2, c3, c4, c5, ea, c6, eb, w7, c8], by rw [ht]; exact hP, va_K.moved hW.alike hK, hD⟩, hS.F ht⟩) hS.2.2 dX1_ask_98
              by_cases w9 : hw = 1
              · refine lv_tableIn (tgt := 99) hx hb dX1_ask_51 (by rw [w9]; decide) (by rw [w9]; decide) (by rw [w9]; rfl) (by decide) ?_
                refine lv_iload hx hb dX1_ask_99 (lv_at hl 0 rfl) ?_
                refine xz_eq (b := (hc S w sg a b)) (tgt := 108) hx hb dX1_ask_101 (by decide) (fun c10 => ?_) (fun c10 => ?_)
                · refine lv_iconst (v := 1) hx hb dX1_ask_108 (by decide) ?_
                  exact W.iret (v := 1) hx hb hr (fun t ht hW => ⟨⟨1, S, rfl, by simp [m_ask, askN, a_sl, h_in, both, zi, c1, c2, c3, c4, c5, ea, c6, eb, w7, w9, c10], by rw [ht]; exact hP, va_K.moved hW.alike hK, hD⟩, hS.F ht⟩) hS.2.2 dX1_ask_109
                · refine lv_iconst (v := 0) hx hb dX1_ask_104 (by decide) ?_
                  refine lv_goto (tgt := 109) hx hb dX1_ask_105 (by decide) ?_
                  exact W.iret (v := 0) hx hb hr (fun t ht hW => ⟨⟨0, S, rfl, by simp [m_ask, askN, a_sl, h_in, both, zi, c1, c2, c3, c4, c5, ea, c6, eb, w7, w9, c10], by rw [ht]; exact hP, va_K.moved hW.alike hK, hD⟩, hS.F ht⟩) hS.2.2 dX1_ask_109
              by_cases w11 : hw = 2
              · refine lv_tableIn (tgt := 110) hx hb dX1_ask_51 (by rw [w11]; decide) (by rw [w11]; decide) (by rw [w11]; rfl) (by decide) ?_
                refine lv_iconst (v := 0) hx hb dX1_ask_110 (by decide) ?_
                refine lv_istore (lv' := [(7, .int 0), (6, .int (zi (hc S w sg a b))), (0, .ref (A 0)), (1, .int w), (2, .int sg), (3, .int hw), (4, .int (nI a)), (5, .int (nI b))]) hx hb dX1_ask_111 hl (by decide) rfl (fun ls hl => ?_)
                have L113 : ∀ (m1 i1 : Nat), i1 + m1 = s_n S - a → m_row S w sg a b = wh (fun k => hc S w sg (a + k) b) m1 i1 → ∀ (ls : Array Slot), lv_has ls 8 [(0, .ref (A 0)), (1, .int w), (2, .int sg), (4, .int (nI a)), (5, .int (nI b)), (7, .int (nI i1))] → W p l e (headSpec wsX1_ask (rmD 2)).room s m ([.ref (A 0), .int w, .int sg, .int hw, .int (nI a), .int (nI b)] : List Value).toArray below meth c s.heap [] 0 0 (MQ below (va_Qi (fun r u => (r, u) = m_ask S w sg hw (nI a) (nI b)) (Bw D (wM A K) (tM K) A9) A9) ([.ref (A 0), .int w, .int sg, .int hw, .int (nI a), .int (nI b)] : List Value).toArray s 0 0 A9) (F0 m 113 ls []) := by
                  intro m1
                  induction m1 with
                  | zero =>
                    intro i1 hm1 hinv ls hl
                    refine lv_iload hx hb dX1_ask_113 (lv_at hl 3 rfl) ?_
                    refine lv_iload hx hb dX1_ask_115 (lv_at hl 5 rfl) ?_
                    refine xn_add (i := a) (j := i1) hx hb dX1_ask_117 ?_
                    refine lv_aload_n hx hb dX1_ask_118 rfl (lv_at hl 0 rfl) ?_
                    refine va_get (D := D) (ci := 1) (v := .int (nI (s_n S))) (C := RX1) (T := TX1) (N := 9) hx hb hts hin hown hK hP 0 rfl rfl 0 (by decide) f_35 (fun _ h9 => h9) rfl dX1_ask_119 ?_
                    refine xn_ge (i := (a + i1)) (j := (s_n S)) (tgt := 147) hx hb (by omega) (by omega) dX1_ask_122 (by decide) (fun c12 => ?_) (fun c12 => ?_)
                    · refine lv_iload hx hb dX1_ask_147 (lv_at hl 5 rfl) ?_
                      exact W.iret (v := (nI i1)) hx hb hr (fun t ht hW => ⟨⟨(nI i1), S, rfl, by simp [m_ask, askN, a_sl, h_in, both, zi, c1, c2, c3, c4, c5, ea, c6, eb, w7, w9, w11, hinv, c12, wh], by rw [ht]; exact hP, va_K.moved hW.alike hK, hD⟩, hS.F ht⟩) hS.2.2 dX1_ask_149
                    · exfalso; omega
                  | succ m1 ih =>
                    intro i1 hm1 hinv ls hl
                    refine lv_iload hx hb dX1_ask_113 (lv_at hl 3 rfl) ?_
                    refine lv_iload hx hb dX1_ask_115 (lv_at hl 5 rfl) ?_
                    refine xn_add (i := a) (j := i1) hx hb dX1_ask_117 ?_
                    refine lv_aload_n hx hb dX1_ask_118 rfl (lv_at hl 0 rfl) ?_
                    refine va_get (D := D) (ci := 1) (v := .int (nI (s_n S))) (C := RX1) (T := TX1) (N := 9) hx hb hts hin hown hK hP 0 rfl rfl 0 (by decide) f_35 (fun _ h9 => h9) rfl dX1_ask_119 ?_
                    refine xn_ge (i := (a + i1)) (j := (s_n S)) (tgt := 147) hx hb (by omega) (by omega) dX1_ask_122 (by decide) (fun c13 => ?_) (fun c13 => ?_)
                    · exfalso; omega
                    · refine lv_aload_n hx hb dX1_ask_125 rfl (lv_at hl 0 rfl) ?_
                      refine lv_iload_n hx hb dX1_ask_126 rfl (lv_at hl 1 rfl) ?_
                      refine lv_iload_n hx hb dX1_ask_127 rfl (lv_at hl 2 rfl) ?_
                      refine lv_iload hx hb dX1_ask_128 (lv_at hl 3 rfl) ?_
                      refine lv_iload hx hb dX1_ask_130 (lv_at hl 5 rfl) ?_
                      refine xn_add (i := a) (j := i1) hx hb dX1_ask_132 ?_
                      refine lv_iload hx hb dX1_ask_133 (lv_at hl 4 rfl) ?_
                      refine rc_V (v := (zi (hc S w sg (a + i1) b))) ⟨hx, hb, hml, hown, hts⟩ [.int w, .int sg, .int (nI (a + i1)), .int (nI b)] [] (c_X1_asked l D A K S hI w sg (a + i1) b (by omega) (by omega)) (cwV 4 hts gX1_ask_X1_asked rfl rfl rfl (by decide +kernel) ⟨Nat.le_of_ble_eq_true rfl, Nat.le_of_ble_eq_true rfl⟩) hK hP (va_recv hK hP (ci := 1) (q0 := 0) rfl rfl) rfl hl.1 rfl (Nat.le_of_ble_eq_true rfl) ⟨Nat.zero_le _, Nat.zero_le _⟩ dX1_ask_135 ?_
                      refine xz_eq (b := (hc S w sg (a + i1) b)) (tgt := 147) hx hb dX1_ask_138 (by decide) (fun c14 => ?_) (fun c14 => ?_)
                      · refine lv_iload hx hb dX1_ask_147 (lv_at hl 5 rfl) ?_
                        exact W.iret (v := (nI i1)) hx hb hr (fun t ht hW => ⟨⟨(nI i1), S, rfl, by simp [m_ask, askN, a_sl, h_in, both, zi, c1, c2, c3, c4, c5, ea, c6, eb, w7, w9, w11, hinv, c13, c14, wh], by rw [ht]; exact hP, va_K.moved hW.alike hK, hD⟩, hS.F ht⟩) hS.2.2 dX1_ask_149
                      · refine lv_iinc (v := (nI (i1 + 1))) (lv' := [(7, .int (nI (i1 + 1))), (0, .ref (A 0)), (1, .int w), (2, .int sg), (4, .int (nI a)), (5, .int (nI b))]) hx hb dX1_ask_141 hl (k := 5) rfl (nI_add i1 1) (by decide) rfl (fun ls hl => ?_)
                        refine lv_goto (tgt := 113) hx hb dX1_ask_144 (by decide) ?_
                        exact ih (i1 + 1) (by omega) (by rw [hinv, wh]; simp [c14]) ls (lv_sub hl [1, 2, 3, 4, 5, 0] rfl)
                exact L113 (s_n S - a) 0 (by omega) (rfl) ls (lv_sub hl [2, 3, 4, 6, 7, 0] rfl)
              by_cases w15 : hw = 3
              · refine lv_tableIn (tgt := 150) hx hb dX1_ask_51 (by rw [w15]; decide) (by rw [w15]; decide) (by rw [w15]; rfl) (by decide) ?_
                refine lv_iload hx hb dX1_ask_150 (lv_at hl 0 rfl) ?_
                refine xz_eq (b := (hc S w sg a b)) (tgt := 160) hx hb dX1_ask_152 (by decide) (fun c16 => ?_) (fun c16 => ?_)
                · refine lv_iload hx hb dX1_ask_160 (lv_at hl 6 rfl) ?_
                  exact W.iret (v := (nI b)) hx hb hr (fun t ht hW => ⟨⟨(nI b), S, rfl, by simp [m_ask, askN, a_sl, h_in, both, zi, c1, c2, c3, c4, c5, ea, c6, eb, w7, w9, w11, w15, c16], by rw [ht]; exact hP, va_K.moved hW.alike hK, hD⟩, hS.F ht⟩) hS.2.2 dX1_ask_162
                · refine lv_iload hx hb dX1_ask_155 (lv_at hl 5 rfl) ?_
                  refine lv_goto (tgt := 162) hx hb dX1_ask_157 (by decide) ?_
                  exact W.iret (v := (nI a)) hx hb hr (fun t ht hW => ⟨⟨(nI a), S, rfl, by simp [m_ask, askN, a_sl, h_in, both, zi, c1, c2, c3, c4, c5, ea, c6, eb, w7, w9, w11, w15, c16], by rw [ht]; exact hP, va_K.moved hW.alike hK, hD⟩, hS.F ht⟩) hS.2.2 dX1_ask_162
              by_cases w17 : hw = 4
              · refine lv_tableIn (tgt := 163) hx hb dX1_ask_51 (by rw [w17]; decide) (by rw [w17]; decide) (by rw [w17]; rfl) (by decide) ?_
                refine lv_aload_n hx hb dX1_ask_163 rfl (lv_at hl 1 rfl) ?_
                refine va_get (D := D) (ci := 1) (v := .ref (A 3)) (C := RX1) (T := TX1) (N := 9) hx hb hts hin hown hK hP 0 rfl rfl 6 (by decide) f_26 (fun _ h9 => h9) rfl dX1_ask_164 ?_
                refine lv_iload hx hb dX1_ask_167 (lv_at hl 5 rfl) ?_
                have K179 : ∀ (q : Bool), q = (hc S w sg a b) → ∀ (ls : Array Slot), lv_has ls 8 [(6, .int (zi (hc S w sg a b))), (0, .ref (A 0)), (1, .int w), (2, .int sg), (3, .int hw), (4, .int (nI a)), (5, .int (nI b))] → W p l e (headSpec wsX1_ask (rmD 2)).room s m ([.ref (A 0), .int w, .int sg, .int hw, .int (nI a), .int (nI b)] : List Value).toArray below meth c s.heap [] 0 0 (MQ below (va_Qi (fun r u => (r, u) = m_ask S w sg hw (nI a) (nI b)) (Bw D (wM A K) (tM K) A9) A9) ([.ref (A 0), .int w, .int sg, .int hw, .int (nI a), .int (nI b)] : List Value).toArray s 0 0 A9) (F0 m 179 ls [.int (zi q), .int (nI a), .ref (A 3)]) := by
                  intro q e_q ls hl
                  refine xa_st (i := a) (x := zi q) (ws' := wM A K (a_sl S a q)) hx hb hK hP hD hS 3 2 rfl rfl (by omega) (by decide) (upB_e _ _ _) rfl dX1_ask_179 (fun H locs hP hD hS => ?_)
                  have hI2 : x_inv (a_sl S a q) := hI
                  refine lv_aload_n hx hb dX1_ask_180 rfl (lv_at hl 1 rfl) ?_
                  refine rc_V (v := (nI (cn (s_sl (a_sl S a q)) (s_n S)))) ⟨hx, hb, hml, hown, hts⟩ [] [] (c_X1_seals l D A K (a_sl S a q) hI2) (cwV 0 hts gX1_ask_X1_seals rfl rfl rfl (by decide +kernel) ⟨Nat.le_of_ble_eq_true rfl, Nat.le_of_ble_eq_true rfl⟩) hK hP (va_recv hK hP (ci := 1) (q0 := 0) rfl rfl) rfl hl.1 rfl (Nat.le_of_ble_eq_true rfl) ⟨Nat.zero_le _, Nat.zero_le _⟩ dX1_ask_181 ?_
                  exact W.iret (v := (nI (cn (s_sl (a_sl S a q)) (s_n S)))) hx hb hr (fun t ht hW => ⟨⟨(nI (cn (s_sl (a_sl S a q)) (s_n S))), a_sl S a q, rfl, by simp [m_ask, askN, a_sl, h_in, both, zi, c1, c2, c3, c4, c5, ea, c6, eb, w7, w9, w11, w15, w17, e_q], by rw [ht]; exact hP, va_K.moved hW.alike hK, hD⟩, hS.F ht⟩) hS.2.2 dX1_ask_184
                refine lv_iload hx hb dX1_ask_169 (lv_at hl 0 rfl) ?_
                refine xz_eq (b := (hc S w sg a b)) (tgt := 178) hx hb dX1_ask_171 (by decide) (fun c18 => ?_) (fun c18 => ?_)
                · refine lv_iconst (v := 0) hx hb dX1_ask_178 (by decide) ?_
                  exact K179 false (by simp [c18]) ls (lv_sub hl [0, 1, 2, 3, 4, 5, 6] rfl)
                · refine lv_iconst (v := 1) hx hb dX1_ask_174 (by decide) ?_
                  refine lv_goto (tgt := 179) hx hb dX1_ask_175 (by decide) ?_
                  exact K179 true (by simp [c18]) ls (lv_sub hl [0, 1, 2, 3, 4, 5, 6] rfl)
              by_cases w19 : hw = 5
              · refine lv_tableIn (tgt := 185) hx hb dX1_ask_51 (by rw [w19]; decide) (by rw [w19]; decide) (by rw [w19]; rfl) (by decide) ?_
                refine lv_aload_n hx hb dX1_ask_185 rfl (lv_at hl 1 rfl) ?_
                refine lv_iload_n hx hb dX1_ask_186 rfl (lv_at hl 2 rfl) ?_
                refine lv_iload_n hx hb dX1_ask_187 rfl (lv_at hl 3 rfl) ?_
                refine lv_iload hx hb dX1_ask_188 (lv_at hl 6 rfl) ?_
                refine lv_iload hx hb dX1_ask_190 (lv_at hl 5 rfl) ?_
                refine rc_V (v := (zi (hc S w sg b a))) ⟨hx, hb, hml, hown, hts⟩ [.int w, .int sg, .int (nI b), .int (nI a)] [] (c_X1_asked l D A K S hI w sg b a (by omega) (by omega)) (cwV 4 hts gX1_ask_X1_asked rfl rfl rfl (by decide +kernel) ⟨Nat.le_of_ble_eq_true rfl, Nat.le_of_ble_eq_true rfl⟩) hK hP (va_recv hK hP (ci := 1) (q0 := 0) rfl rfl) rfl hl.1 rfl (Nat.le_of_ble_eq_true rfl) ⟨Nat.zero_le _, Nat.zero_le _⟩ dX1_ask_192 ?_
                refine lv_istore (lv' := [(7, .int (zi (hc S w sg b a))), (6, .int (zi (hc S w sg a b))), (0, .ref (A 0)), (1, .int w), (2, .int sg), (3, .int hw), (4, .int (nI a)), (5, .int (nI b))]) hx hb dX1_ask_195 hl (by decide) rfl (fun ls hl => ?_)
                refine lv_iload hx hb dX1_ask_197 (lv_at hl 1 rfl) ?_
                refine xz_eq (b := (hc S w sg a b)) (tgt := 211) hx hb dX1_ask_199 (by decide) (fun c20 => ?_) (fun c20 => ?_)
                · refine lv_iload hx hb dX1_ask_211 (lv_at hl 1 rfl) ?_
                  refine xz_ne (b := (hc S w sg a b)) (tgt := 221) hx hb dX1_ask_213 (by decide) (fun c21 => ?_) (fun c21 => ?_)
                  · exact absurd (c20.symm.trans c21) (by decide)
                  · refine lv_iload hx hb dX1_ask_216 (lv_at hl 0 rfl) ?_
                    refine xz_eq (b := (hc S w sg b a)) (tgt := 225) hx hb dX1_ask_218 (by decide) (fun c22 => ?_) (fun c22 => ?_)
                    · refine lv_iconst (v := 0) hx hb dX1_ask_225 (by decide) ?_
                      exact W.iret (v := 0) hx hb hr (fun t ht hW => ⟨⟨0, S, rfl, by simp [m_ask, askN, a_sl, h_in, both, zi, c1, c2, c3, c4, c5, ea, c6, eb, w7, w9, w11, w15, w17, w19, c20, c21, c22], by rw [ht]; exact hP, va_K.moved hW.alike hK, hD⟩, hS.F ht⟩) hS.2.2 dX1_ask_226
                    · refine lv_iconst (v := 2) hx hb dX1_ask_221 (by decide) ?_
                      refine lv_goto (tgt := 226) hx hb dX1_ask_222 (by decide) ?_
                      exact W.iret (v := 2) hx hb hr (fun t ht hW => ⟨⟨2, S, rfl, by simp [m_ask, askN, a_sl, h_in, both, zi, c1, c2, c3, c4, c5, ea, c6, eb, w7, w9, w11, w15, w17, w19, c20, c21, c22], by rw [ht]; exact hP, va_K.moved hW.alike hK, hD⟩, hS.F ht⟩) hS.2.2 dX1_ask_226
                · refine lv_iload hx hb dX1_ask_202 (lv_at hl 0 rfl) ?_
                  refine xz_eq (b := (hc S w sg b a)) (tgt := 211) hx hb dX1_ask_204 (by decide) (fun c23 => ?_) (fun c23 => ?_)
                  · refine lv_iload hx hb dX1_ask_211 (lv_at hl 1 rfl) ?_
                    refine xz_ne (b := (hc S w sg a b)) (tgt := 221) hx hb dX1_ask_213 (by decide) (fun c24 => ?_) (fun c24 => ?_)
                    · refine lv_iconst (v := 2) hx hb dX1_ask_221 (by decide) ?_
                      refine lv_goto (tgt := 226) hx hb dX1_ask_222 (by decide) ?_
                      exact W.iret (v := 2) hx hb hr (fun t ht hW => ⟨⟨2, S, rfl, by simp [m_ask, askN, a_sl, h_in, both, zi, c1, c2, c3, c4, c5, ea, c6, eb, w7, w9, w11, w15, w17, w19, c20, c23, c24], by rw [ht]; exact hP, va_K.moved hW.alike hK, hD⟩, hS.F ht⟩) hS.2.2 dX1_ask_226
                    · exact absurd (c20.symm.trans c24) (by decide)
                  · refine lv_iconst (v := 1) hx hb dX1_ask_207 (by decide) ?_
                    refine lv_goto (tgt := 226) hx hb dX1_ask_208 (by decide) ?_
                    exact W.iret (v := 1) hx hb hr (fun t ht hW => ⟨⟨1, S, rfl, by simp [m_ask, askN, a_sl, h_in, both, zi, c1, c2, c3, c4, c5, ea, c6, eb, w7, w9, w11, w15, w17, w19, c20, c23], by rw [ht]; exact hP, va_K.moved hW.alike hK, hD⟩, hS.F ht⟩) hS.2.2 dX1_ask_226
              refine lv_tableOut (tgt := 227) hx hb dX1_ask_51 (by have tw7 := lv_neT (a := 0) w7 rfl; have tw9 := lv_neT (a := 1) w9 rfl; have tw11 := lv_neT (a := 2) w11 rfl; have tw15 := lv_neT (a := 3) w15 rfl; have tw17 := lv_neT (a := 4) w17 rfl; have tw19 := lv_neT (a := 5) w19 rfl; omega) (by decide) ?_
              refine lv_iconst (v := (-1)) hx hb dX1_ask_227 (by decide) ?_
              exact W.iret (v := (-1)) hx hb hr (fun t ht hW => ⟨⟨(-1), S, rfl, by simp [m_ask, askN, a_sl, h_in, both, zi, c1, c2, c3, c4, c5, ea, c6, eb, w7, w9, w11, w15, w17, w19], by rw [ht]; exact hP, va_K.moved hW.alike hK, hD⟩, hS.F ht⟩) hS.2.2 dX1_ask_228
            · refine lv_iconst (v := (-1)) hx hb dX1_ask_36 (by decide) ?_
              exact W.iret (v := (-1)) hx hb hr (fun t ht hW => ⟨⟨(-1), S, rfl, by simp [m_ask, askN, a_sl, h_in, both, zi, c1, c2, c3, c4, c5, ea, c6], by rw [ht]; exact hP, va_K.moved hW.alike hK, hD⟩, hS.F ht⟩) hS.2.2 dX1_ask_37
end
section
/-! the class's answers and the reference's are the same, over one state -/
theorem i_m1 (v : Int32) : v = -1 ↔ v.toInt = -1 := ⟨fun h => by rw [h]; decide, fun h => Int32.toInt_inj.mp (by rw [h]; decide)⟩
theorem i_100 (v : Int32) : v = 100 ↔ v.toInt = 100 := ⟨fun h => by rw [h]; decide, fun h => Int32.toInt_inj.mp (by rw [h]; decide)⟩
theorem i_ltc (v k : Int32) (z : Int) (h : k.toInt = z) : v < k ↔ v.toInt < z := by rw [Int32.lt_iff_toInt_lt, h]
theorem i_gtc (v k : Int32) (z : Int) (h : k.toInt = z) : k < v ↔ z < v.toInt := by rw [Int32.lt_iff_toInt_lt, h]
theorem E_rate (v : Int32) : x_rate v = h_in v (-1) 999 := by
  have e1 := i_m1 v
  have e2 := i_ltc v 0 0 (by decide)
  have e3 := i_gtc v 999 999 (by decide)
  have e4 := i_ltc v (-1) (-1) (by decide)
  rw [Bool.eq_iff_iff]
  simp only [x_rate, h_in, Bool.or_eq_true, Bool.and_eq_true, Bool.not_eq_true', decide_eq_true_eq, decide_eq_false_iff_not, e1, e2, e3, e4]
  omega
theorem E_chill (v : Int32) : x_chill v = h_in v (-99) 100 := by
  have e1 := i_100 v
  have e2 := i_ltc v (-99) (-99) (by decide)
  have e3 := i_gtc v 99 99 (by decide)
  have e4 := i_gtc v 100 100 (by decide)
  rw [Bool.eq_iff_iff]
  simp only [x_chill, h_in, Bool.or_eq_true, Bool.and_eq_true, Bool.not_eq_true', decide_eq_true_eq, decide_eq_false_iff_not, e1, e2, e3, e4]
  omega
theorem E_prize (S : XS) (v : Int32) : x_prize S v = m_prize S v := by unfold x_prize m_prize; rw [E_rate]
theorem E_frost (S : XS) (v : Int32) : x_frost S v = m_frost S v := by unfold x_frost m_frost; rw [E_chill]
/-- a rate's place in the order: none is behind all -/
def ky (v : Int32) : Int := if v = -1 then 1099511627776 else v.toInt
theorem ky_lt (v : Int32) : v.toInt < 2147483648 := by have h := Int32.toInt_lt v; omega
theorem ky_inj {a b : Int32} (h : ky a = ky b) : a = b := by
  have ha := ky_lt a
  have hb := ky_lt b
  unfold ky at h
  by_cases h1 : a = -1 <;> by_cases h2 : b = -1 <;> simp only [h1, h2, if_true, if_false] at h
  · rw [h1, h2]
  · omega
  · omega
  · exact Int32.toInt_inj.mp h
theorem be_ky (r o : Int32) : be r o = true ↔ ky r < ky o := by
  have hr := ky_lt r
  have ho := ky_lt o
  have d5 : decide ((1 : Int32) = 5) = false := by decide
  unfold be h_all h_num ky
  by_cases h1 : r = -1
  · subst h1
    by_cases h2 : o = -1
    · subst h2; simp
    · simp only [h2, if_false, if_true]; simp; omega
  · by_cases h2 : o = -1
    · subst h2; simp [h1]; omega
    · simp only [h1, h2, if_false]
      rw [← Int32.lt_iff_toInt_lt]
      simp
theorem be_self (r : Int32) : be r r = false := by
  cases h : be r r with
  | false => rfl
  | true => have := (be_ky r r).mp h; omega
theorem ga_iff (S : XS) (a b : Nat) : ga S a b = true ↔ (ky (s_bs S a) < ky (s_bs S b) ∨ (ky (s_bs S a) = ky (s_bs S b) ∧ a < b)) := by
  unfold ga
  by_cases h : s_bs S a = s_bs S b
  · simp only [h, if_true]; simp
  · have hk : ¬ ky (s_bs S a) = ky (s_bs S b) := fun q => h (ky_inj q)
    simp only [h, if_false, be_ky]
    omega
theorem ga_self (S : XS) (a : Nat) : ga S a a = false := by
  cases h : ga S a a with
  | false => rfl
  | true => have := (ga_iff S a a).mp h; omega
theorem E_ahead (S : XS) (c : Nat) : m_ahead S c = x_ahead S c := by
  unfold m_ahead x_ahead
  congr 1
  funext k
  by_cases h : k = c
  · subst h; rw [ga_self]; simp
  · simp [h]
theorem b2_le {p q : Bool} (h : p = true → q = true) : b2 p 1 ≤ b2 q 1 := by cases p <;> cases q <;> simp_all [b2]
theorem cn_le {p q : Nat → Bool} (h : ∀ k, p k = true → q k = true) : ∀ n, cn p n ≤ cn q n
  | 0 => Nat.le_refl _
  | n + 1 => by have h1 := cn_le h n; have h2 := b2_le (h n); simp only [cn]; omega
theorem cn_bd (p : Nat → Bool) : ∀ n, cn p n ≤ n
  | 0 => Nat.le_refl _
  | n + 1 => by have h1 := cn_bd p n; have h2 : b2 (p n) 1 ≤ 1 := by unfold b2; split <;> omega
                simp only [cn]; omega
theorem cn_lt {p q : Nat → Bool} (h : ∀ k, p k = true → q k = true) (j : Nat) (hq : q j = true) (hp : p j = false) : ∀ n, j < n → cn p n < cn q n
  | 0, hj => absurd hj (Nat.not_lt_zero _)
  | n + 1, hj => by
    have h2 := b2_le (h n)
    by_cases e : j = n
    · subst e
      have h1 := cn_le h j
      simp only [cn, hq, hp, b2]
      simp
      omega
    · have h1 := cn_lt h j hq hp n (by omega)
      simp only [cn]
      omega
theorem ahead_lt (S : XS) {a b : Nat} (ha : a < s_n S) (h : ga S a b = true) : x_ahead S a < x_ahead S b := by
  refine cn_lt (p := fun k => ga S k a) (q := fun k => ga S k b) (fun k hk => ?_) a h (ga_self S a) (s_n S) ha
  have h1 := (ga_iff S k a).mp hk
  have h2 := (ga_iff S a b).mp h
  exact (ga_iff S k b).mpr (by omega)
theorem ahead_inj (S : XS) {a b : Nat} (ha : a < s_n S) (hb : b < s_n S) (h : x_ahead S a = x_ahead S b) : a = b := by
  rcases Nat.lt_trichotomy a b with q | q | q
  · by_cases g : ga S a b = true
    · have := ahead_lt S ha g; omega
    · have g2 : ga S b a = true := (ga_iff S b a).mpr (by have := mt (ga_iff S a b).mpr g; omega)
      have := ahead_lt S hb g2; omega
  · exact q
  · by_cases g : ga S b a = true
    · have := ahead_lt S hb g; omega
    · have g2 : ga S a b = true := (ga_iff S a b).mpr (by have := mt (ga_iff S b a).mpr g; omega)
      have := ahead_lt S ha g2; omega
theorem lf_spec (q : Nat → Bool) : ∀ n, (lf q n = -1 ∧ ∀ c, c < n → q c = false) ∨ ∃ c, c < n ∧ q c = true ∧ lf q n = nI c
  | 0 => Or.inl ⟨rfl, fun c h => absurd h (Nat.not_lt_zero _)⟩
  | n + 1 => by
    cases h : q n with
    | true => exact Or.inr ⟨n, by omega, h, by simp [lf, h]⟩
    | false =>
      rcases lf_spec q n with ⟨e, g⟩ | ⟨c, hc, hq, e⟩
      · refine Or.inl ⟨by simp [lf, h, e], fun c hc => ?_⟩
        by_cases k : c = n
        · rw [k]; exact h
        · exact g c (by omega)
      · exact Or.inr ⟨c, by omega, hq, by simp [lf, h, e]⟩
theorem ff_spec (q : Nat → Bool) : ∀ n i, (ff q n i = -1 ∧ ∀ c, i ≤ c → c < i + n → q c = false) ∨ ∃ c, i ≤ c ∧ c < i + n ∧ q c = true ∧ ff q n i = nI c
  | 0, i => Or.inl ⟨rfl, fun c h1 h2 => by omega⟩
  | n + 1, i => by
    cases h : q i with
    | true => exact Or.inr ⟨i, by omega, by omega, h, by simp [ff, h]⟩
    | false =>
      rcases ff_spec q n (i + 1) with ⟨e, g⟩ | ⟨c, hc1, hc2, hq, e⟩
      · refine Or.inl ⟨by simp [ff, h, e], fun c h1 h2 => ?_⟩
        by_cases k : c = i
        · rw [k]; exact h
        · exact g c (by omega) (by omega)
      · exact Or.inr ⟨c, by omega, by omega, hq, by simp [ff, h, e]⟩
theorem ff_lf (q : Nat → Bool) (n : Nat) (h : ∀ a b, a < n → b < n → q a = true → q b = true → a = b) : ff q n 0 = lf q n := by
  rcases lf_spec q n with ⟨e, g⟩ | ⟨c, hc, hq, e⟩ <;> rcases ff_spec q n 0 with ⟨e', g'⟩ | ⟨c', hc1, hc2, hq', e'⟩
  · rw [e, e']
  · have := g c' (by omega); rw [hq'] at this; cases this
  · have := g' c (by omega) (by omega); rw [hq] at this; cases this
  · rw [e, e', h c c' hc (by omega) hq hq']
theorem x_ahead_bd (S : XS) (hI : x_inv S) (c : Nat) : x_ahead S c < 2 ^ 31 := by
  have h1 := cn_bd (fun k => ga S k c) (s_n S)
  have h2 := hI.1
  unfold x_ahead
  omega
theorem E_place (S : XS) (hI : x_inv S) (k : Int32) : x_place S k = m_place S k := by
  have e : (fun c => decide (nI (m_ahead S c) = k)) = fun c => decide (nI (x_ahead S c) = k) := by funext c; rw [E_ahead]
  unfold x_place m_place
  rw [e]
  refine ff_lf _ _ (fun a b ha hb h1 h2 => ?_)
  have h1 := of_decide_eq_true h1
  have h2 := of_decide_eq_true h2
  exact ahead_inj S ha hb ((nI_eq (x_ahead_bd S hI a) (x_ahead_bd S hI b)).mp (h1.trans h2.symm))
theorem fbl_spec (f : Nat → Int32) : ∀ n, (fbl f n = (-1, -1) ∧ ∀ k, k < n → f k = -1) ∨ ∃ c, c < n ∧ fbl f n = (nI c, f c) ∧ f c ≠ -1 ∧ (∀ k, k < n → ky (f c) ≤ ky (f k)) ∧ ∀ k, k < c → ky (f c) < ky (f k)
  | 0 => Or.inl ⟨rfl, fun k h => absurd h (Nat.not_lt_zero _)⟩
  | n + 1 => by
    rcases fbl_spec f n with ⟨e, g⟩ | ⟨c, hc, e, h1, h2, h3⟩
    · cases hb : be (f n) (-1) with
      | true =>
        have hk := (be_ky _ _).mp hb
        have km : ky (-1) = 1099511627776 := by decide
        refine Or.inr ⟨n, by omega, by simp [fbl, e, hb], fun q => ?_, fun k hkn => ?_, fun k hkn => ?_⟩
        · rw [q] at hk; omega
        · by_cases en : k = n
          · rw [en]; omega
          · rw [g k (by omega)]; omega
        · rw [g k hkn]; exact hk
      | false =>
        refine Or.inl ⟨by simp [fbl, e, hb], fun k hkn => ?_⟩
        by_cases en : k = n
        · rw [en]
          apply Classical.byContradiction
          intro q
          have : be (f n) (-1) = true := by simp [be, h_all, q]
          rw [hb] at this; cases this
        · exact g k (by omega)
    · cases hb : be (f n) (f c) with
      | true =>
        have hk := (be_ky _ _).mp hb
        refine Or.inr ⟨n, by omega, by simp [fbl, e, hb], fun q => ?_, fun k hkn => ?_, fun k hkn => ?_⟩
        · rw [q] at hb; simp [be] at hb
        · by_cases en : k = n
          · rw [en]; omega
          · have := h2 k (by omega); omega
        · have := h2 k (by omega); omega
      | false =>
        refine Or.inr ⟨c, by omega, by simp [fbl, e, hb], h1, fun k hkn => ?_, h3⟩
        by_cases en : k = n
        · rw [en]
          apply Classical.byContradiction
          intro q
          have := (be_ky (f n) (f c)).mpr (by omega)
          rw [hb] at this; cases this
        · exact h2 k (by omega)
theorem nI_nm1 {j : Nat} (h : j < 2 ^ 31) : ¬ nI j = -1 := by
  intro q
  have h1 := nI_toInt h
  rw [(i_m1 _).mp q] at h1
  omega
theorem E_first (S : XS) (hI : x_inv S) : x_first S = m_first S := by
  have h8 := hI.1
  unfold x_first
  rcases fbl_spec (s_bs S) (s_n S) with ⟨e, g⟩ | ⟨c, hc, e, h1, h2, h3⟩
  · rw [e]
    unfold m_first
    rcases m_place_c S 0 with e0 | ⟨j, hj, e0⟩
    · simp [e0]
    · rw [e0, nI_clamp (by omega), g j hj]
      simp
  · rw [e]
    have ha : x_ahead S c = 0 := by
      have hz : ∀ n, n ≤ s_n S → cn (fun k => ga S k c) n = 0 := by
        intro n
        induction n with
        | zero => intro _; rfl
        | succ n ih =>
          intro hn
          have hg : ga S n c = false := by
            cases hg : ga S n c with
            | false => rfl
            | true =>
              have q := (ga_iff S n c).mp hg
              have q2 := h2 n (by omega)
              by_cases hnc : n < c
              · have := h3 n hnc; omega
              · omega
          simp only [cn, ih (by omega), hg, b2]
          simp
      exact hz (s_n S) (Nat.le_refl _)
    have hp : m_place S 0 = nI c := by
      unfold m_place
      rcases lf_spec (fun c => decide (nI (m_ahead S c) = 0)) (s_n S) with ⟨e', g'⟩ | ⟨c', hc', hq', e'⟩
      · have := g' c hc
        simp only [E_ahead, ha] at this
        exact absurd this (by decide)
      · rw [e']
        have h4 : nI (m_ahead S c') = 0 := of_decide_eq_true hq'
        rw [E_ahead] at h4
        have h5 : x_ahead S c' = 0 := (nI_eq (b := 0) (x_ahead_bd S hI c') (by omega)).mp h4
        rw [ahead_inj S hc' hc (h5.trans ha.symm)]
    unfold m_first
    rw [hp, nI_clamp (by omega)]
    simp [nI_nm1 (show c < 2 ^ 31 by omega), h1]
theorem E_rank (S : XS) (c : Nat) : m_rank S c = x_rank S c := by
  unfold m_rank x_rank
  congr 1
  funext k
  unfold m_rk
  by_cases h : k = c
  · subst h; rw [be_self]; simp
  · have d5 : decide ((0 : Int32) = 5) = false := by decide
    by_cases h2 : s_bs S c = -1
    · simp [h, h2, be, h_all]
    · by_cases h3 : s_bs S k = -1
      · simp [h, h2, h3, be, h_all]
      · simp [h, h2, h3, be, h_all, h_num]
        rw [Bool.eq_iff_iff]
        simp only [decide_eq_true_eq, Bool.not_eq_true', decide_eq_false_iff_not]
        rw [Int32.le_iff_toInt_le, Int32.lt_iff_toInt_lt]
        omega
theorem E_tell (S : XS) (v w : Int32) : x_tell S v w = m_tell S v w := by unfold x_tell m_tell; rw [E_rank]
theorem wh_sh (p : Nat → Bool) (a : Nat) : ∀ n i, wh p n (a + i) = wh (fun k => p (a + k)) n i + a
  | 0, i => by simp only [wh]; omega
  | n + 1, i => by
    have ih := wh_sh p a n (i + 1)
    simp only [wh]
    by_cases h : p (a + i) = true
    · simp only [h, if_true]; rw [← ih, Nat.add_assoc]
    · simp only [h, if_false]; simp; omega
theorem E_row (S : XS) (w sg : Int32) (a b : Nat) : x_row S w sg a b - a = m_row S w sg a b := by
  have h := wh_sh (fun k => hc S w sg k b) a (s_n S - a) 0
  unfold x_row m_row
  rw [Nat.add_zero] at h
  rw [h]
  omega
theorem how_in {hw : Int32} (h : h_in hw 0 5 = true) (h0 : ¬ hw = 0) (h1 : ¬ hw = 1) (h2 : ¬ hw = 2) (h3 : ¬ hw = 3) (h4 : ¬ hw = 4) : hw = 5 := by
  have e1 := i_ltc hw 0 0 (by decide)
  have e2 := i_gtc hw 5 5 (by decide)
  simp only [h_in, Bool.and_eq_true, Bool.not_eq_true', decide_eq_false_iff_not, e1, e2] at h
  have t0 := lv_neT (a := 0) h0 rfl
  have t1 := lv_neT (a := 1) h1 rfl
  have t2 := lv_neT (a := 2) h2 rfl
  have t3 := lv_neT (a := 3) h3 rfl
  have t4 := lv_neT (a := 4) h4 rfl
  exact Int32.toInt_inj.mp (by rw [show (5 : Int32).toInt = 5 from rfl]; omega)
theorem E_ask (S : XS) (w sg hw v z : Int32) : x_ask S w sg hw v z = m_ask S w sg hw v z := by
  unfold x_ask m_ask
  rw [E_row]
  generalize h_in w 0 1 = p1
  generalize h_in sg 0 5 = p2
  generalize isClk S v = p3
  generalize isClk S z = p4
  cases p1 <;> cases p2 <;> cases p3 <;> cases p4 <;> simp only [Bool.true_and, Bool.false_and, Bool.and_false, Bool.and_true, if_false, if_true, Bool.false_eq_true]
  unfold askN
  by_cases h0 : hw = 0
  · subst h0; simp [hi_0]
  by_cases h1 : hw = 1
  · subst h1; simp [hi_1]
  by_cases h2 : hw = 2
  · subst h2; simp [hi_2]
  by_cases h3 : hw = 3
  · subst h3; simp [hi_3]
  by_cases h4 : hw = 4
  · subst h4; simp [hi_4]
  by_cases h5 : hw = 5
  · subst h5; simp [hi_5]
  · have hf : h_in hw 0 5 = false := by
      cases q : h_in hw 0 5 with
      | false => rfl
      | true => exact absurd (how_in q h0 h1 h2 h3 h4) h5
    simp [h0, h1, h2, h3, h4, h5, hf]
theorem E_tr (S : XS) (a : Nat) (h t : Int32) : trX S a h t = trM S a h t := by
  unfold trX trM
  cases be h (s_bs S a) <;> cases (cold S t && be h (s_rc S)) <;> simp only [if_true, if_false, Bool.false_eq_true, up_id] <;> rfl
theorem E_trial (S : XS) (hI : x_inv S) (v h t : Int32) : x_trial S v h t = m_trial S v h t := by
  unfold x_trial m_trial
  rw [E_rate, E_chill, E_tr]
  have h6 := hI.2 v.toNatClampNeg
  have e : decide (s_tr S v.toNatClampNeg < 6) = !decide (s_tr S v.toNatClampNeg = 6) := by
    rw [Bool.eq_iff_iff]; simp; omega
  rw [e]
  generalize isClk S v = p1
  generalize h_in h (-1) 999 = p2
  generalize h_in t (-99) 100 = p3
  generalize (!decide (s_tr S v.toNatClampNeg = 6)) = p4
  cases p1 <;> cases p2 <;> cases p3 <;> cases p4 <;> rfl
/-- what holds of the law's state -/
def lawI (S : XS) : Prop := x_inv S ∧ ∀ k, s_n S ≤ k → s_tr S k = 0 ∧ s_sl S k = false
theorem upN_id (f : Nat → Nat) (i : Nat) (h : f i = 0) : upN f i 0 = f := by
  funext j; unfold upN; by_cases e : j = i
  · subst e; simp [h]
  · simp [e]
theorem upB_id (f : Nat → Bool) (i : Nat) (h : f i = false) : upB f i false = f := by
  funext j; unfold upB; by_cases e : j = i
  · subst e; simp [h]
  · simp [e]
theorem E_admit (S : XS) (hI : lawI S) : x_admit S = m_admit S := by
  have h8 := hI.1.1
  have h0 := hI.2 (s_n S) (Nat.le_refl _)
  unfold x_admit m_admit
  by_cases h : s_n S = 8
  · simp [h]
  · have hlt : s_n S < 8 := by omega
    simp only [h, hlt, if_true, if_false]
    rw [upN_id _ _ h0.1, upB_id _ _ h0.2]
    rfl
theorem I_admit (S : XS) (hI : lawI S) : lawI (x_admit S).2 := by
  unfold x_admit
  by_cases h : s_n S < 8
  · simp only [h, if_true]
    exact ⟨⟨by show s_n S + 1 ≤ 8; omega, hI.1.2⟩, fun k hk => hI.2 k (by have : s_n S + 1 ≤ k := hk; omega)⟩
  · simp only [h, if_false]; exact hI
theorem I_prize (S : XS) (v : Int32) (hI : lawI S) : lawI (x_prize S v).2 := by
  unfold x_prize
  cases x_rate v
  · exact hI
  · exact hI
theorem I_frost (S : XS) (v : Int32) (hI : lawI S) : lawI (x_frost S v).2 := by
  unfold x_frost
  cases x_chill v
  · exact hI
  · exact hI
theorem clk_lt {S : XS} {v : Int32} (hI : x_inv S) (h : isClk S v = true) : v.toNatClampNeg < s_n S := by
  have h8 := hI.1
  obtain ⟨k, hk, rfl⟩ := isClk_ex h h8
  rw [nI_clamp (by omega)]
  exact hk
theorem I_tr {S S' : XS} (a v : Nat) (hI : lawI S) (ha : a < s_n S) (hv : v ≤ 6) (hn : s_n S' = s_n S) (ht : s_tr S' = upN (s_tr S) a v) (hs : s_sl S' = s_sl S) : lawI S' := by
  refine ⟨⟨by rw [hn]; exact hI.1.1, fun k => ?_⟩, fun k hk => ?_⟩
  · rw [ht]; unfold upN; have := hI.1.2 k; split <;> omega
  · rw [hn] at hk
    rw [ht, hs]
    have := hI.2 k hk
    refine ⟨?_, this.2⟩
    unfold upN
    rw [if_neg (by omega)]
    exact this.1
theorem I_trial (S : XS) (v h t : Int32) (hI : lawI S) : lawI (x_trial S v h t).2 := by
  unfold x_trial
  split
  · rename_i q
    simp only [Bool.and_eq_true, decide_eq_true_eq] at q
    refine I_tr v.toNatClampNeg (s_tr S v.toNatClampNeg + 1) hI (clk_lt hI.1 q.1.1.1) (by omega) ?_ ?_ ?_
    · rw [E_tr]; rfl
    · rw [E_tr]; rfl
    · rw [E_tr]; rfl
  · exact hI
theorem I_annul (S : XS) (v : Int32) (hI : lawI S) : lawI (x_annul S v).2 := by
  unfold x_annul
  split
  · rename_i q
    simp only [Bool.and_eq_true] at q
    have := hI.1.2 v.toNatClampNeg
    exact I_tr v.toNatClampNeg (s_tr S v.toNatClampNeg - 1) hI (clk_lt hI.1 q.1) (by omega) rfl rfl rfl
  · exact hI
theorem I_sl (S : XS) (a : Nat) (q : Bool) (hI : lawI S) (ha : a < s_n S) : lawI (a_sl S a q) := by
  refine ⟨hI.1, fun k hk => ?_⟩
  have hk : s_n S ≤ k := hk
  have h := hI.2 k hk
  refine ⟨h.1, ?_⟩
  show upB (s_sl S) a q k = false
  unfold upB
  rw [if_neg (by omega)]
  exact h.2
theorem I_ask (S : XS) (w sg hw v z : Int32) (hI : lawI S) : lawI (x_ask S w sg hw v z).2 := by
  unfold x_ask
  split
  · rename_i q
    simp only [Bool.and_eq_true] at q
    have hs := I_sl S v.toNatClampNeg (hc S w sg v.toNatClampNeg z.toNatClampNeg) hI (clk_lt hI.1 q.1.2)
    unfold askN
    by_cases h0 : hw = 0
    · simp only [h0, if_true]; exact hI
    by_cases h1 : hw = 1
    · simp only [h0, h1, if_true, if_false]; exact hI
    by_cases h2 : hw = 2
    · simp only [h0, h1, h2, if_true, if_false]; exact hI
    by_cases h3 : hw = 3
    · simp only [h0, h1, h2, h3, if_true, if_false]; exact hI
    by_cases h4 : hw = 4
    · simp only [h0, h1, h2, h3, h4, if_true, if_false]; exact hs
    · simp only [h0, h1, h2, h3, h4, if_false]; exact hI
  · exact hI
end
section
/-! a call that writes one of two objects' worlds; a read of the script -/
theorem p_left {D : va_G} {cl : List vw_C} {w1 w2 : va_W} {H : Heap} (h : va_P D cl (w1 ++ w2) H) : va_P D cl w1 H := fun k q hk => h k q (by
  rw [List.getElem?_append_left (List.getElem?_eq_some_iff.mp hk).1]; exact hk)
section XC
variable {p : Program} {l : Launch} {e : Env} {R : Room} {s : State} {m : MethodId} {args : Array Value} {below : List Frame} {meth : Method} {c : Code} {H : Heap} {locs : List Loc} {cells slots : Nat} {Q : State → Prop}
variable {cc : ByteArray} {pc : Nat} {ls : Array Slot} {D : va_G} {A : Nat → Prop} {tys : List (ClassId × FieldType)} {H0 : Heap}
variable {own C : String} {index n maxL nL : Nat} {y : MethodName} {bytes : ByteArray} {ret' : Option FieldType} {wsm Ts : List Cond} {rm : Room} {b : Nat}
theorem wc_V (S : CallFix p m c cc nL s args Ts own) (As : List Value) (rest : List Value) {st0 : List Value} {sp : Int32 × XS} {w : XS → va_W} {wc wr : va_W} (hM : Met l y wsm rm (va_Pc (.ref b :: As) (Pw D wc tys H.size)) (va_Qi (fun r u => (r, u) = sp) (Bw D w tys (va_A wc H.size)) (va_A wc H.size)) 0 0 (va_A wc H.size)) (cw : CallW R s args own C index y bytes maxL ret' wsm rm 0 0 n) (hK : va_K D vwCl tys s) (hPc : va_P D vwCl wc H) (hPr : va_P D vwCl wr H) (hD : va_D A (wc ++ wr)) (hS : va_S A H0 H locs) (hA : ∀ q, H0.size ≤ q → A q) (isC isR : List Nat) (hC : isC.map (fun i => (wc ++ wr)[i]?) = wc.map some) (hR : isR.map (fun i => (wc ++ wr)[i]?) = wr.map some) (hnC : va_nd isC = true) (hnR : va_nd isR = true) (hdis : ∀ i ∈ isR, i ∉ isC) (hrv : ∃ cell : Cell, H[b]? = some cell ∧ cell.vm.isStatics = false ∧ s.vm.findClass C = some cell.cls) (hn : As.length = n) (hsz : ls.size = nL) (hst : st0 = As.reverse ++ .ref b :: rest) (hW : (rest.map fun v => v.category).sum ≤ 8) (hc : cells ≤ R.cells ∧ slots ≤ R.slots) (hdg : decode cc pc = .ok (.invokevirtual index, 3))
    (kk : ∀ (H1 : Heap) (locs1 : List Loc), va_P D vwCl (w sp.2) H1 → va_P D vwCl wr H1 → va_D A (wr ++ w sp.2) → va_S A H0 H1 locs1 → W p l e R s m args below meth c H1 locs1 cells slots Q (F0 m (pc + 3) ls (.int sp.1 :: rest))) : W p l e R s m args below meth c H locs cells slots Q (F0 m pc ls st0) := by
  subst hst
  have hPP := hPc.app hPr
  have hDc := hD.sub (ws' := wc) isC hnC hC
  have hFc := va_free (wc := wc) hD hS hA isC hC
  refine va_calli (va_runV S hM cw ⟨fun a U g mk q => ?_, hrv, fun U hU hW2 => ?_⟩ rfl hn hsz rfl (lv_room hW) hdg hc) hS (fun q _ h => hFc q h) hFc (fun r u t H1 locs1 ht hvm hw hB hz1 hk1 hS1 => ?_)
  · obtain ⟨q0, q1, qP, qK, qD⟩ := q
    exact ⟨q0, q1, qP, va_K.moved (u := U) (U := U.calling g mk a) (Vm.Alike.refl U.vm) qK, qD⟩
  · exact ⟨rfl, by rw [hU], by rw [hU]; exact hPc, va_K.moved hW2.alike hK, hDc.weaken (fun _ _ _ _ => trivial)⟩
  · subst hw
    obtain ⟨hP1, hK1, hD1⟩ := hB
    rw [ht] at hP1
    obtain ⟨hPj, hDj⟩ := va_join (wr := wr) (w1 := w u) hPP hD isC isR hC hR hnR hdis hk1 hFc hP1 hD1
    exact kk H1 locs1 hP1 (p_left hPj) hDj hS1
theorem xs_ld (hx : p.tables.exec = Jvm.exec) (hb : c.code = cc) {rest : List Value} {L : Nat} {xs : Nat → Int32} (hX : va_X b L xs s H0) (hbl : b < H0.size) (hbA : ¬ A b) (hS : va_S A H0 H locs) {k : Nat} (hk : k < L) (hL : L < 2 ^ 31) (hdg : decode cc pc = .ok (.iaload, 1))
    (kk : W p l e R s m args below meth c H locs cells slots Q (F0 m (pc + 1) ls (.int (xs k) :: rest))) : W p l e R s m args below meth c H locs cells slots Q (F0 m pc ls (.int (nI k) :: .ref b :: rest)) :=
  va_sld hx hb hX hbl hbA hS (vp_in_nI hk hL) hdg (by rw [nI_clamp (Nat.lt_trans hk hL)]; exact kk)
end XC
theorem sub6 {L i : Nat} (hL : L ≤ 3072) (hi : i ≤ L) : (Int32.ofNat L - 6 < nI i) ↔ L < i + 6 := by
  show nI L - nI 6 < nI i ↔ _
  rw [Int32.lt_iff_toInt_lt, pk_sub_toInt (by omega) (by omega), nI_toInt (by omega)]
  omega
/-- a new object's cell, its state, its addresses -/
def w0X (h : Nat) : va_W := [(h, .inr (0, [.null, .null, .null, .null, .null, .int 0, .int 0, .int 0, .int 0]))]
def w0M (h : Nat) : va_W := [(h, .inr (1, [.int 0, .int 0, .int 0, .int 0, .null, .null, .null, .null, .null]))]
def S0 : XS := (0, fun _ => 0, fun _ => 0, fun _ => 0, fun _ => 0, fun _ => false, -1, -1, 100)
theorem I_0 : lawI S0 := ⟨⟨Nat.zero_le _, fun _ => Nat.zero_le _⟩, fun _ _ => ⟨rfl, rfl⟩⟩
def adr (a b c d e f : Nat) : Nat → Nat := fun k => match k with
  | 0 => a
  | 1 => b
  | 2 => c
  | 3 => d
  | 4 => e
  | _ => f
def adk (b c d e f : ClassId) : Nat → ClassId := fun k => match k with
  | 1 => b
  | 2 => c
  | 3 => d
  | 4 => e
  | _ => f
end
section
set_option maxHeartbeats 4000000 in
set_option maxRecDepth 100000 in
theorem c_X0_init (l : Launch) (D : va_G) (h0 sz : Nat) : Met l yX0_init wsX0_init ({ frames := 1, cells := 5, slots := 120, locals := 12 }) (va_Pc [.ref h0] (Pw D (w0X h0) [] sz)) (va_Qv (fun u : (Nat → Nat) × (Nat → ClassId) => u.1 0 = h0) (fun u t => va_P D vwCl (wX u.1 u.2 S0) t.heap ∧ va_K D vwCl (tX u.2) t ∧ va_D (va_A (w0X h0) sz) (wX u.1 u.2 S0)) (va_A (w0X h0) sz)) 5 120 (va_A (w0X h0) sz) := by
  refine Met.ofW (cc := cX0_init) (maxL := 1) (ret := none) (by decide) rfl ?_
  intro p e s m args below meth c s₁ B hml hv
  obtain ⟨rfl, hsz, hP, hK, hD0⟩ := hv
  have hx := B.exec
  have hb := B.bytes
  have hr := B.returns
  have hts := atoms_spec (ws := wsX0_init) B.pre
  have hown : s.vm.findClass RX0 = some m.cls := findClass_of_methodNamed B.named
  have hlocks := B.notSynchronized
  have hin2 : meth.name = "<init>" := (name_of_methodNamed B.named B.method).1
  have hin : ∀ w ∈ u_ws RX0 TX0 9, w ∈ wsX0_init := fun w h => List.mem_cons_of_mem _ (List.mem_append_right _ h)
  subst hsz
  have hD := hD0.self (sz := s.heap.size)
  generalize hAe : va_A (w0X h0) s.heap.size = A9 at hD ⊢
  have hA : ∀ q : Nat, s.heap.size ≤ q → A9 q := fun q h => by rw [← hAe]; exact Or.inr h
  have hS : va_S A9 s.heap s.heap [] := va_S.rf
  have hP : va_P D vwCl [(h0, .inr (0, [.null, .null, .null, .null, .null, .int 0, .int 0, .int 0, .int 0]))] s.heap := hP
  have hD : va_D A9 [(h0, .inr (0, [.null, .null, .null, .null, .null, .int 0, .int 0, .int 0, .int 0]))] := hD
  have hl := lv_entry ([.ref h0]) (n := 1) (Nat.le_of_ble_eq_true rfl)
  rw [lg_entry_eq]
  generalize (lg_sl ([.ref h0]) ++ List.replicate (1 - (lg_sl ([.ref h0])).length) Slot.unset).toArray = ls at hl ⊢
  have hl : lv_has ls 1 [(0, .ref h0)] := hl
  refine lv_aload_n hx hb dX0_init_0 rfl (lv_at hl 0 rfl) ?_
  refine W.objInit hx hb hown (hts (.methodLink RX0 1 objectInit) (by decide +kernel)) (hts (.instanceMethod objectInit) (by decide +kernel)) (hts _ (List.mem_cons_of_mem _ (List.mem_append_left _ (List.mem_of_getElem? (i := 2) rfl)))) rfl (by rw [hml]; exact hl.1) rfl dX0_init_1 (Nat.le_of_ble_eq_true rfl) (Nat.le_of_ble_eq_true rfl) ?_
  refine W.eq (g2 := F0 m 4 ls []) rfl ?_
  refine lv_aload_n hx hb dX0_init_4 rfl (lv_at hl 0 rfl) ?_
  refine lv_bipush (v := 48) hx hb dX0_init_5 (by decide) ?_
  refine va_newa (D := D) (atype := .int) (ty := .int) (n := 48) (N' := 48) (a0 := (48, .inl (fun _ => 0))) hx hb (hts (.arrayClass .int) (by decide +kernel)) rfl hK hP hD hS hA (fun cA => vp_cell_i cA 48 (fun _ => 0)) (by decide) (by decide) (by decide) (Nat.le_of_ble_eq_true rfl) (Nat.le_of_ble_eq_true rfl) dX0_init_7 (fun q1 k1 H hK hP hD hS => ?_)
  have hK : va_K D vwCl [(k1, .int)] s := hK
  have hP : va_P D vwCl [(h0, .inr (0, [.null, .null, .null, .null, .null, .int 0, .int 0, .int 0, .int 0])), (q1, .inl (k1, 48, .inl (fun _ => 0)))] H := hP
  have hD : va_D A9 [(h0, .inr (0, [.null, .null, .null, .null, .null, .int 0, .int 0, .int 0, .int 0])), (q1, .inl (k1, 48, .inl (fun _ => 0)))] := hD
  refine W.widen (k := 1) (n := 48) (Nat.le_of_ble_eq_true rfl) (Nat.le_of_ble_eq_true rfl) ?_
  refine va_putF (D := D) (ci := 0) (v := .ref q1) (ty := .array .int) (C := RX0) (T := TX0) (N := 9) hx hb hts hin tyX0 tyX0_ok nmX0 hown hK hP hD hS 0 rfl rfl 0 (by decide) (hts (.fieldLink RX0 9 "ChronoTrials" "rates" "[I") (by decide +kernel)) (fun _ h9 => h9) rfl hin2 rfl (by decide +kernel) rfl rfl (Nat.le_of_ble_eq_true rfl) dX0_init_9 (fun H locs hP hD hS => ?_)
  have hP : va_P D vwCl [(h0, .inr (0, [.ref q1, .null, .null, .null, .null, .int 0, .int 0, .int 0, .int 0])), (q1, .inl (k1, 48, .inl (fun _ => 0)))] H := hP
  have hD : va_D A9 [(h0, .inr (0, [.ref q1, .null, .null, .null, .null, .int 0, .int 0, .int 0, .int 0])), (q1, .inl (k1, 48, .inl (fun _ => 0)))] := hD
  refine lv_aload_n hx hb dX0_init_12 rfl (lv_at hl 0 rfl) ?_
  refine lv_bipush (v := 48) hx hb dX0_init_13 (by decide) ?_
  refine va_newa (D := D) (atype := .int) (ty := .int) (n := 48) (N' := 48) (a0 := (48, .inl (fun _ => 0))) hx hb (hts (.arrayClass .int) (by decide +kernel)) rfl hK hP hD hS hA (fun cA => vp_cell_i cA 48 (fun _ => 0)) (by decide) (by decide) (by decide) (Nat.le_of_ble_eq_true rfl) (Nat.le_of_ble_eq_true rfl) dX0_init_15 (fun q2 k2 H hK hP hD hS => ?_)
  have hK : va_K D vwCl [(k1, .int), (k2, .int)] s := hK
  have hP : va_P D vwCl [(h0, .inr (0, [.ref q1, .null, .null, .null, .null, .int 0, .int 0, .int 0, .int 0])), (q1, .inl (k1, 48, .inl (fun _ => 0))), (q2, .inl (k2, 48, .inl (fun _ => 0)))] H := hP
  have hD : va_D A9 [(h0, .inr (0, [.ref q1, .null, .null, .null, .null, .int 0, .int 0, .int 0, .int 0])), (q1, .inl (k1, 48, .inl (fun _ => 0))), (q2, .inl (k2, 48, .inl (fun _ => 0)))] := hD
  refine W.widen (k := 2) (n := 96) (Nat.le_of_ble_eq_true rfl) (Nat.le_of_ble_eq_true rfl) ?_
  refine va_putF (D := D) (ci := 0) (v := .ref q2) (ty := .array .int) (C := RX0) (T := TX0) (N := 9) hx hb hts hin tyX0 tyX0_ok nmX0 hown hK hP hD hS 0 rfl rfl 1 (by decide) (hts (.fieldLink RX0 13 "ChronoTrials" "chills" "[I") (by decide +kernel)) (fun _ h9 => h9) rfl hin2 rfl (by decide +kernel) rfl rfl (Nat.le_of_ble_eq_true rfl) dX0_init_17 (fun H locs hP hD hS => ?_)
  have hP : va_P D vwCl [(h0, .inr (0, [.ref q1, .ref q2, .null, .null, .null, .int 0, .int 0, .int 0, .int 0])), (q1, .inl (k1, 48, .inl (fun _ => 0))), (q2, .inl (k2, 48, .inl (fun _ => 0)))] H := hP
  have hD : va_D A9 [(h0, .inr (0, [.ref q1, .ref q2, .null, .null, .null, .int 0, .int 0, .int 0, .int 0])), (q1, .inl (k1, 48, .inl (fun _ => 0))), (q2, .inl (k2, 48, .inl (fun _ => 0)))] := hD
  refine lv_aload_n hx hb dX0_init_20 rfl (lv_at hl 0 rfl) ?_
  refine lv_bipush (v := 8) hx hb dX0_init_21 (by decide) ?_
  refine va_newa (D := D) (atype := .int) (ty := .int) (n := 8) (N' := 8) (a0 := (8, .inl (fun _ => 0))) hx hb (hts (.arrayClass .int) (by decide +kernel)) rfl hK hP hD hS hA (fun cA => vp_cell_i cA 8 (fun _ => 0)) (by decide) (by decide) (by decide) (Nat.le_of_ble_eq_true rfl) (Nat.le_of_ble_eq_true rfl) dX0_init_23 (fun q3 k3 H hK hP hD hS => ?_)
  have hK : va_K D vwCl [(k1, .int), (k2, .int), (k3, .int)] s := hK
  have hP : va_P D vwCl [(h0, .inr (0, [.ref q1, .ref q2, .null, .null, .null, .int 0, .int 0, .int 0, .int 0])), (q1, .inl (k1, 48, .inl (fun _ => 0))), (q2, .inl (k2, 48, .inl (fun _ => 0))), (q3, .inl (k3, 8, .inl (fun _ => 0)))] H := hP
  have hD : va_D A9 [(h0, .inr (0, [.ref q1, .ref q2, .null, .null, .null, .int 0, .int 0, .int 0, .int 0])), (q1, .inl (k1, 48, .inl (fun _ => 0))), (q2, .inl (k2, 48, .inl (fun _ => 0))), (q3, .inl (k3, 8, .inl (fun _ => 0)))] := hD
  refine W.widen (k := 3) (n := 104) (Nat.le_of_ble_eq_true rfl) (Nat.le_of_ble_eq_true rfl) ?_
  refine va_putF (D := D) (ci := 0) (v := .ref q3) (ty := .array .int) (C := RX0) (T := TX0) (N := 9) hx hb hts hin tyX0 tyX0_ok nmX0 hown hK hP hD hS 0 rfl rfl 2 (by decide) (hts (.fieldLink RX0 16 "ChronoTrials" "trialsOf" "[I") (by decide +kernel)) (fun _ h9 => h9) rfl hin2 rfl (by decide +kernel) rfl rfl (Nat.le_of_ble_eq_true rfl) dX0_init_25 (fun H locs hP hD hS => ?_)
  have hP : va_P D vwCl [(h0, .inr (0, [.ref q1, .ref q2, .ref q3, .null, .null, .int 0, .int 0, .int 0, .int 0])), (q1, .inl (k1, 48, .inl (fun _ => 0))), (q2, .inl (k2, 48, .inl (fun _ => 0))), (q3, .inl (k3, 8, .inl (fun _ => 0)))] H := hP
  have hD : va_D A9 [(h0, .inr (0, [.ref q1, .ref q2, .ref q3, .null, .null, .int 0, .int 0, .int 0, .int 0])), (q1, .inl (k1, 48, .inl (fun _ => 0))), (q2, .inl (k2, 48, .inl (fun _ => 0))), (q3, .inl (k3, 8, .inl (fun _ => 0)))] := hD
  refine lv_aload_n hx hb dX0_init_28 rfl (lv_at hl 0 rfl) ?_
  refine lv_bipush (v := 8) hx hb dX0_init_29 (by decide) ?_
  refine va_newa (D := D) (atype := .int) (ty := .int) (n := 8) (N' := 8) (a0 := (8, .inl (fun _ => 0))) hx hb (hts (.arrayClass .int) (by decide +kernel)) rfl hK hP hD hS hA (fun cA => vp_cell_i cA 8 (fun _ => 0)) (by decide) (by decide) (by decide) (Nat.le_of_ble_eq_true rfl) (Nat.le_of_ble_eq_true rfl) dX0_init_31 (fun q4 k4 H hK hP hD hS => ?_)
  have hK : va_K D vwCl [(k1, .int), (k2, .int), (k3, .int), (k4, .int)] s := hK
  have hP : va_P D vwCl [(h0, .inr (0, [.ref q1, .ref q2, .ref q3, .null, .null, .int 0, .int 0, .int 0, .int 0])), (q1, .inl (k1, 48, .inl (fun _ => 0))), (q2, .inl (k2, 48, .inl (fun _ => 0))), (q3, .inl (k3, 8, .inl (fun _ => 0))), (q4, .inl (k4, 8, .inl (fun _ => 0)))] H := hP
  have hD : va_D A9 [(h0, .inr (0, [.ref q1, .ref q2, .ref q3, .null, .null, .int 0, .int 0, .int 0, .int 0])), (q1, .inl (k1, 48, .inl (fun _ => 0))), (q2, .inl (k2, 48, .inl (fun _ => 0))), (q3, .inl (k3, 8, .inl (fun _ => 0))), (q4, .inl (k4, 8, .inl (fun _ => 0)))] := hD
  refine W.widen (k := 4) (n := 112) (Nat.le_of_ble_eq_true rfl) (Nat.le_of_ble_eq_true rfl) ?_
  refine va_putF (D := D) (ci := 0) (v := .ref q4) (ty := .array .int) (C := RX0) (T := TX0) (N := 9) hx hb hts hin tyX0 tyX0_ok nmX0 hown hK hP hD hS 0 rfl rfl 3 (by decide) (hts (.fieldLink RX0 19 "ChronoTrials" "bests" "[I") (by decide +kernel)) (fun _ h9 => h9) rfl hin2 rfl (by decide +kernel) rfl rfl (Nat.le_of_ble_eq_true rfl) dX0_init_33 (fun H locs hP hD hS => ?_)
  have hP : va_P D vwCl [(h0, .inr (0, [.ref q1, .ref q2, .ref q3, .ref q4, .null, .int 0, .int 0, .int 0, .int 0])), (q1, .inl (k1, 48, .inl (fun _ => 0))), (q2, .inl (k2, 48, .inl (fun _ => 0))), (q3, .inl (k3, 8, .inl (fun _ => 0))), (q4, .inl (k4, 8, .inl (fun _ => 0)))] H := hP
  have hD : va_D A9 [(h0, .inr (0, [.ref q1, .ref q2, .ref q3, .ref q4, .null, .int 0, .int 0, .int 0, .int 0])), (q1, .inl (k1, 48, .inl (fun _ => 0))), (q2, .inl (k2, 48, .inl (fun _ => 0))), (q3, .inl (k3, 8, .inl (fun _ => 0))), (q4, .inl (k4, 8, .inl (fun _ => 0)))] := hD
  refine lv_aload_n hx hb dX0_init_36 rfl (lv_at hl 0 rfl) ?_
  refine lv_bipush (v := 8) hx hb dX0_init_37 (by decide) ?_
  refine va_newa (D := D) (atype := .boolean) (ty := .boolean) (n := 8) (N' := 8) (a0 := (8, .inl (fun _ => 0))) hx hb (hts (.arrayClass .boolean) (by decide +kernel)) rfl hK hP hD hS hA (fun cA => vp_cell_i cA 8 (fun _ => 0)) (by decide) (by decide) (by decide) (Nat.le_of_ble_eq_true rfl) (Nat.le_of_ble_eq_true rfl) dX0_init_39 (fun q5 k5 H hK hP hD hS => ?_)
  have hK : va_K D vwCl [(k1, .int), (k2, .int), (k3, .int), (k4, .int), (k5, .boolean)] s := hK
  have hP : va_P D vwCl [(h0, .inr (0, [.ref q1, .ref q2, .ref q3, .ref q4, .null, .int 0, .int 0, .int 0, .int 0])), (q1, .inl (k1, 48, .inl (fun _ => 0))), (q2, .inl (k2, 48, .inl (fun _ => 0))), (q3, .inl (k3, 8, .inl (fun _ => 0))), (q4, .inl (k4, 8, .inl (fun _ => 0))), (q5, .inl (k5, 8, .inl (fun _ => 0)))] H := hP
  have hD : va_D A9 [(h0, .inr (0, [.ref q1, .ref q2, .ref q3, .ref q4, .null, .int 0, .int 0, .int 0, .int 0])), (q1, .inl (k1, 48, .inl (fun _ => 0))), (q2, .inl (k2, 48, .inl (fun _ => 0))), (q3, .inl (k3, 8, .inl (fun _ => 0))), (q4, .inl (k4, 8, .inl (fun _ => 0))), (q5, .inl (k5, 8, .inl (fun _ => 0)))] := hD
  refine W.widen (k := 5) (n := 120) (Nat.le_of_ble_eq_true rfl) (Nat.le_of_ble_eq_true rfl) ?_
  refine va_putF (D := D) (ci := 0) (v := .ref q5) (ty := .array .boolean) (C := RX0) (T := TX0) (N := 9) hx hb hts hin tyX0 tyX0_ok nmX0 hown hK hP hD hS 0 rfl rfl 4 (by decide) (hts (.fieldLink RX0 22 "ChronoTrials" "seals" "[Z") (by decide +kernel)) (fun _ h9 => h9) rfl hin2 rfl (by decide +kernel) rfl rfl (Nat.le_of_ble_eq_true rfl) dX0_init_41 (fun H locs hP hD hS => ?_)
  have hP : va_P D vwCl [(h0, .inr (0, [.ref q1, .ref q2, .ref q3, .ref q4, .ref q5, .int 0, .int 0, .int 0, .int 0])), (q1, .inl (k1, 48, .inl (fun _ => 0))), (q2, .inl (k2, 48, .inl (fun _ => 0))), (q3, .inl (k3, 8, .inl (fun _ => 0))), (q4, .inl (k4, 8, .inl (fun _ => 0))), (q5, .inl (k5, 8, .inl (fun _ => 0)))] H := hP
  have hD : va_D A9 [(h0, .inr (0, [.ref q1, .ref q2, .ref q3, .ref q4, .ref q5, .int 0, .int 0, .int 0, .int 0])), (q1, .inl (k1, 48, .inl (fun _ => 0))), (q2, .inl (k2, 48, .inl (fun _ => 0))), (q3, .inl (k3, 8, .inl (fun _ => 0))), (q4, .inl (k4, 8, .inl (fun _ => 0))), (q5, .inl (k5, 8, .inl (fun _ => 0)))] := hD
  refine lv_aload_n hx hb dX0_init_44 rfl (lv_at hl 0 rfl) ?_
  refine lv_iconst (v := 0) hx hb dX0_init_45 (by decide) ?_
  refine va_put (D := D) (ci := 0) (v := .int 0) (ty := .int) (C := RX0) (T := TX0) (N := 9) hx hb hts hin tyX0 tyX0_ok nmX0 hown hK hP hD hS 0 rfl rfl 5 (by decide) (hts (.fieldLink RX0 26 "ChronoTrials" "clocks" "I") (by decide +kernel)) (fun _ h9 => h9) rfl (by decide +kernel) rfl rfl (Nat.le_of_ble_eq_true rfl) dX0_init_46 (fun H locs hP hD hS => ?_)
  have hP : va_P D vwCl [(h0, .inr (0, [.ref q1, .ref q2, .ref q3, .ref q4, .ref q5, .int 0, .int 0, .int 0, .int 0])), (q1, .inl (k1, 48, .inl (fun _ => 0))), (q2, .inl (k2, 48, .inl (fun _ => 0))), (q3, .inl (k3, 8, .inl (fun _ => 0))), (q4, .inl (k4, 8, .inl (fun _ => 0))), (q5, .inl (k5, 8, .inl (fun _ => 0)))] H := hP
  have hD : va_D A9 [(h0, .inr (0, [.ref q1, .ref q2, .ref q3, .ref q4, .ref q5, .int 0, .int 0, .int 0, .int 0])), (q1, .inl (k1, 48, .inl (fun _ => 0))), (q2, .inl (k2, 48, .inl (fun _ => 0))), (q3, .inl (k3, 8, .inl (fun _ => 0))), (q4, .inl (k4, 8, .inl (fun _ => 0))), (q5, .inl (k5, 8, .inl (fun _ => 0)))] := hD
  refine lv_aload_n hx hb dX0_init_49 rfl (lv_at hl 0 rfl) ?_
  refine lv_iconst (v := (-1)) hx hb dX0_init_50 (by decide) ?_
  refine va_put (D := D) (ci := 0) (v := .int (-1)) (ty := .int) (C := RX0) (T := TX0) (N := 9) hx hb hts hin tyX0 tyX0_ok nmX0 hown hK hP hD hS 0 rfl rfl 6 (by decide) (hts (.fieldLink RX0 30 "ChronoTrials" "prizeRate" "I") (by decide +kernel)) (fun _ h9 => h9) rfl (by decide +kernel) rfl rfl (Nat.le_of_ble_eq_true rfl) dX0_init_51 (fun H locs hP hD hS => ?_)
  have hP : va_P D vwCl [(h0, .inr (0, [.ref q1, .ref q2, .ref q3, .ref q4, .ref q5, .int 0, .int (-1), .int 0, .int 0])), (q1, .inl (k1, 48, .inl (fun _ => 0))), (q2, .inl (k2, 48, .inl (fun _ => 0))), (q3, .inl (k3, 8, .inl (fun _ => 0))), (q4, .inl (k4, 8, .inl (fun _ => 0))), (q5, .inl (k5, 8, .inl (fun _ => 0)))] H := hP
  have hD : va_D A9 [(h0, .inr (0, [.ref q1, .ref q2, .ref q3, .ref q4, .ref q5, .int 0, .int (-1), .int 0, .int 0])), (q1, .inl (k1, 48, .inl (fun _ => 0))), (q2, .inl (k2, 48, .inl (fun _ => 0))), (q3, .inl (k3, 8, .inl (fun _ => 0))), (q4, .inl (k4, 8, .inl (fun _ => 0))), (q5, .inl (k5, 8, .inl (fun _ => 0)))] := hD
  refine lv_aload_n hx hb dX0_init_54 rfl (lv_at hl 0 rfl) ?_
  refine lv_iconst (v := (-1)) hx hb dX0_init_55 (by decide) ?_
  refine va_put (D := D) (ci := 0) (v := .int (-1)) (ty := .int) (C := RX0) (T := TX0) (N := 9) hx hb hts hin tyX0 tyX0_ok nmX0 hown hK hP hD hS 0 rfl rfl 7 (by decide) (hts (.fieldLink RX0 33 "ChronoTrials" "recordRate" "I") (by decide +kernel)) (fun _ h9 => h9) rfl (by decide +kernel) rfl rfl (Nat.le_of_ble_eq_true rfl) dX0_init_56 (fun H locs hP hD hS => ?_)
  have hP : va_P D vwCl [(h0, .inr (0, [.ref q1, .ref q2, .ref q3, .ref q4, .ref q5, .int 0, .int (-1), .int (-1), .int 0])), (q1, .inl (k1, 48, .inl (fun _ => 0))), (q2, .inl (k2, 48, .inl (fun _ => 0))), (q3, .inl (k3, 8, .inl (fun _ => 0))), (q4, .inl (k4, 8, .inl (fun _ => 0))), (q5, .inl (k5, 8, .inl (fun _ => 0)))] H := hP
  have hD : va_D A9 [(h0, .inr (0, [.ref q1, .ref q2, .ref q3, .ref q4, .ref q5, .int 0, .int (-1), .int (-1), .int 0])), (q1, .inl (k1, 48, .inl (fun _ => 0))), (q2, .inl (k2, 48, .inl (fun _ => 0))), (q3, .inl (k3, 8, .inl (fun _ => 0))), (q4, .inl (k4, 8, .inl (fun _ => 0))), (q5, .inl (k5, 8, .inl (fun _ => 0)))] := hD
  refine lv_aload_n hx hb dX0_init_59 rfl (lv_at hl 0 rfl) ?_
  refine lv_bipush (v := 100) hx hb dX0_init_60 (by decide) ?_
  refine va_put (D := D) (ci := 0) (v := .int 100) (ty := .int) (C := RX0) (T := TX0) (N := 9) hx hb hts hin tyX0 tyX0_ok nmX0 hown hK hP hD hS 0 rfl rfl 8 (by decide) (hts (.fieldLink RX0 36 "ChronoTrials" "frostChill" "I") (by decide +kernel)) (fun _ h9 => h9) rfl (by decide +kernel) rfl rfl (Nat.le_of_ble_eq_true rfl) dX0_init_62 (fun H locs hP hD hS => ?_)
  have hP : va_P D vwCl [(h0, .inr (0, [.ref q1, .ref q2, .ref q3, .ref q4, .ref q5, .int 0, .int (-1), .int (-1), .int 100])), (q1, .inl (k1, 48, .inl (fun _ => 0))), (q2, .inl (k2, 48, .inl (fun _ => 0))), (q3, .inl (k3, 8, .inl (fun _ => 0))), (q4, .inl (k4, 8, .inl (fun _ => 0))), (q5, .inl (k5, 8, .inl (fun _ => 0)))] H := hP
  have hD : va_D A9 [(h0, .inr (0, [.ref q1, .ref q2, .ref q3, .ref q4, .ref q5, .int 0, .int (-1), .int (-1), .int 100])), (q1, .inl (k1, 48, .inl (fun _ => 0))), (q2, .inl (k2, 48, .inl (fun _ => 0))), (q3, .inl (k3, 8, .inl (fun _ => 0))), (q4, .inl (k4, 8, .inl (fun _ => 0))), (q5, .inl (k5, 8, .inl (fun _ => 0)))] := hD
  have hP9 : va_P D vwCl (wX (adr h0 q1 q2 q3 q4 q5) (adk k1 k2 k3 k4 k5) S0) H := hP
  have hK9 : va_K D vwCl (tX (adk k1 k2 k3 k4 k5)) s := hK
  have hD9 : va_D A9 (wX (adr h0 q1 q2 q3 q4 q5) (adk k1 k2 k3 k4 k5) S0) := hD
  exact W.vret hx hb hr (fun t ht hW => ⟨⟨(adr h0 q1 q2 q3 q4 q5, adk k1 k2 k3 k4 k5), rfl, rfl, by rw [ht]; exact hP9, va_K.moved hW.alike hK9, hD9⟩, hS.F ht⟩) hS.2.2 dX0_init_65
set_option maxHeartbeats 4000000 in
set_option maxRecDepth 100000 in
theorem c_X1_init (l : Launch) (D : va_G) (h0 sz : Nat) : Met l yX1_init wsX1_init ({ frames := 1, cells := 5, slots := 120, locals := 12 }) (va_Pc [.ref h0] (Pw D (w0M h0) [] sz)) (va_Qv (fun u : (Nat → Nat) × (Nat → ClassId) => u.1 0 = h0) (fun u t => va_P D vwCl (wM u.1 u.2 S0) t.heap ∧ va_K D vwCl (tM u.2) t ∧ va_D (va_A (w0M h0) sz) (wM u.1 u.2 S0)) (va_A (w0M h0) sz)) 5 120 (va_A (w0M h0) sz) := by
  refine Met.ofW (cc := cX1_init) (maxL := 1) (ret := none) (by decide) rfl ?_
  intro p e s m args below meth c s₁ B hml hv
  obtain ⟨rfl, hsz, hP, hK, hD0⟩ := hv
  have hx := B.exec
  have hb := B.bytes
  have hr := B.returns
  have hts := atoms_spec (ws := wsX1_init) B.pre
  have hown : s.vm.findClass RX1 = some m.cls := findClass_of_methodNamed B.named
  have hlocks := B.notSynchronized
  have hin2 : meth.name = "<init>" := (name_of_methodNamed B.named B.method).1
  have hin : ∀ w ∈ u_ws RX1 TX1 9, w ∈ wsX1_init := fun w h => List.mem_cons_of_mem _ (List.mem_append_right _ h)
  subst hsz
  have hD := hD0.self (sz := s.heap.size)
  generalize hAe : va_A (w0M h0) s.heap.size = A9 at hD ⊢
  have hA : ∀ q : Nat, s.heap.size ≤ q → A9 q := fun q h => by rw [← hAe]; exact Or.inr h
  have hS : va_S A9 s.heap s.heap [] := va_S.rf
  have hP : va_P D vwCl [(h0, .inr (1, [.int 0, .int 0, .int 0, .int 0, .null, .null, .null, .null, .null]))] s.heap := hP
  have hD : va_D A9 [(h0, .inr (1, [.int 0, .int 0, .int 0, .int 0, .null, .null, .null, .null, .null]))] := hD
  have hl := lv_entry ([.ref h0]) (n := 1) (Nat.le_of_ble_eq_true rfl)
  rw [lg_entry_eq]
  generalize (lg_sl ([.ref h0]) ++ List.replicate (1 - (lg_sl ([.ref h0])).length) Slot.unset).toArray = ls at hl ⊢
  have hl : lv_has ls 1 [(0, .ref h0)] := hl
  refine lv_aload_n hx hb dX1_init_0 rfl (lv_at hl 0 rfl) ?_
  refine W.objInit hx hb hown (hts (.methodLink RX1 1 objectInit) (by decide +kernel)) (hts (.instanceMethod objectInit) (by decide +kernel)) (hts _ (List.mem_cons_of_mem _ (List.mem_append_left _ (List.mem_of_getElem? (i := 2) rfl)))) rfl (by rw [hml]; exact hl.1) rfl dX1_init_1 (Nat.le_of_ble_eq_true rfl) (Nat.le_of_ble_eq_true rfl) ?_
  refine W.eq (g2 := F0 m 4 ls []) rfl ?_
  refine lv_aload_n hx hb dX1_init_4 rfl (lv_at hl 0 rfl) ?_
  refine lv_iconst (v := (-1)) hx hb dX1_init_5 (by decide) ?_
  refine va_put (D := D) (ci := 1) (v := .int (-1)) (ty := .int) (C := RX1) (T := TX1) (N := 9) hx hb hts hin tyX1 tyX1_ok nmX1 hown hK hP hD hS 0 rfl rfl 1 (by decide) (hts (.fieldLink RX1 9 "ChronoTrialsModel" "prize" "I") (by decide +kernel)) (fun _ h9 => h9) rfl (by decide +kernel) rfl rfl (Nat.le_of_ble_eq_true rfl) dX1_init_6 (fun H locs hP hD hS => ?_)
  have hP : va_P D vwCl [(h0, .inr (1, [.int 0, .int (-1), .int 0, .int 0, .null, .null, .null, .null, .null]))] H := hP
  have hD : va_D A9 [(h0, .inr (1, [.int 0, .int (-1), .int 0, .int 0, .null, .null, .null, .null, .null]))] := hD
  refine lv_aload_n hx hb dX1_init_9 rfl (lv_at hl 0 rfl) ?_
  refine lv_bipush (v := 100) hx hb dX1_init_10 (by decide) ?_
  refine va_put (D := D) (ci := 1) (v := .int 100) (ty := .int) (C := RX1) (T := TX1) (N := 9) hx hb hts hin tyX1 tyX1_ok nmX1 hown hK hP hD hS 0 rfl rfl 2 (by decide) (hts (.fieldLink RX1 13 "ChronoTrialsModel" "frost" "I") (by decide +kernel)) (fun _ h9 => h9) rfl (by decide +kernel) rfl rfl (Nat.le_of_ble_eq_true rfl) dX1_init_12 (fun H locs hP hD hS => ?_)
  have hP : va_P D vwCl [(h0, .inr (1, [.int 0, .int (-1), .int 100, .int 0, .null, .null, .null, .null, .null]))] H := hP
  have hD : va_D A9 [(h0, .inr (1, [.int 0, .int (-1), .int 100, .int 0, .null, .null, .null, .null, .null]))] := hD
  refine lv_aload_n hx hb dX1_init_15 rfl (lv_at hl 0 rfl) ?_
  refine lv_iconst (v := (-1)) hx hb dX1_init_16 (by decide) ?_
  refine va_put (D := D) (ci := 1) (v := .int (-1)) (ty := .int) (C := RX1) (T := TX1) (N := 9) hx hb hts hin tyX1 tyX1_ok nmX1 hown hK hP hD hS 0 rfl rfl 3 (by decide) (hts (.fieldLink RX1 16 "ChronoTrialsModel" "record" "I") (by decide +kernel)) (fun _ h9 => h9) rfl (by decide +kernel) rfl rfl (Nat.le_of_ble_eq_true rfl) dX1_init_17 (fun H locs hP hD hS => ?_)
  have hP : va_P D vwCl [(h0, .inr (1, [.int 0, .int (-1), .int 100, .int (-1), .null, .null, .null, .null, .null]))] H := hP
  have hD : va_D A9 [(h0, .inr (1, [.int 0, .int (-1), .int 100, .int (-1), .null, .null, .null, .null, .null]))] := hD
  refine lv_aload_n hx hb dX1_init_20 rfl (lv_at hl 0 rfl) ?_
  refine lv_bipush (v := 8) hx hb dX1_init_21 (by decide) ?_
  refine va_newa (D := D) (atype := .int) (ty := .int) (n := 8) (N' := 8) (a0 := (8, .inl (fun _ => 0))) hx hb (hts (.arrayClass .int) (by decide +kernel)) rfl hK hP hD hS hA (fun cA => vp_cell_i cA 8 (fun _ => 0)) (by decide) (by decide) (by decide) (Nat.le_of_ble_eq_true rfl) (Nat.le_of_ble_eq_true rfl) dX1_init_23 (fun q1 k1 H hK hP hD hS => ?_)
  have hK : va_K D vwCl [(k1, .int)] s := hK
  have hP : va_P D vwCl [(h0, .inr (1, [.int 0, .int (-1), .int 100, .int (-1), .null, .null, .null, .null, .null])), (q1, .inl (k1, 8, .inl (fun _ => 0)))] H := hP
  have hD : va_D A9 [(h0, .inr (1, [.int 0, .int (-1), .int 100, .int (-1), .null, .null, .null, .null, .null])), (q1, .inl (k1, 8, .inl (fun _ => 0)))] := hD
  refine W.widen (k := 1) (n := 8) (Nat.le_of_ble_eq_true rfl) (Nat.le_of_ble_eq_true rfl) ?_
  refine va_putF (D := D) (ci := 1) (v := .ref q1) (ty := .array .int) (C := RX1) (T := TX1) (N := 9) hx hb hts hin tyX1 tyX1_ok nmX1 hown hK hP hD hS 0 rfl rfl 4 (by decide) (hts (.fieldLink RX1 19 "ChronoTrialsModel" "many" "[I") (by decide +kernel)) (fun _ h9 => h9) rfl hin2 rfl (by decide +kernel) rfl rfl (Nat.le_of_ble_eq_true rfl) dX1_init_25 (fun H locs hP hD hS => ?_)
  have hP : va_P D vwCl [(h0, .inr (1, [.int 0, .int (-1), .int 100, .int (-1), .ref q1, .null, .null, .null, .null])), (q1, .inl (k1, 8, .inl (fun _ => 0)))] H := hP
  have hD : va_D A9 [(h0, .inr (1, [.int 0, .int (-1), .int 100, .int (-1), .ref q1, .null, .null, .null, .null])), (q1, .inl (k1, 8, .inl (fun _ => 0)))] := hD
  refine lv_aload_n hx hb dX1_init_28 rfl (lv_at hl 0 rfl) ?_
  refine lv_bipush (v := 8) hx hb dX1_init_29 (by decide) ?_
  refine va_newa (D := D) (atype := .int) (ty := .int) (n := 8) (N' := 8) (a0 := (8, .inl (fun _ => 0))) hx hb (hts (.arrayClass .int) (by decide +kernel)) rfl hK hP hD hS hA (fun cA => vp_cell_i cA 8 (fun _ => 0)) (by decide) (by decide) (by decide) (Nat.le_of_ble_eq_true rfl) (Nat.le_of_ble_eq_true rfl) dX1_init_31 (fun q2 k2 H hK hP hD hS => ?_)
  have hK : va_K D vwCl [(k1, .int), (k2, .int)] s := hK
  have hP : va_P D vwCl [(h0, .inr (1, [.int 0, .int (-1), .int 100, .int (-1), .ref q1, .null, .null, .null, .null])), (q1, .inl (k1, 8, .inl (fun _ => 0))), (q2, .inl (k2, 8, .inl (fun _ => 0)))] H := hP
  have hD : va_D A9 [(h0, .inr (1, [.int 0, .int (-1), .int 100, .int (-1), .ref q1, .null, .null, .null, .null])), (q1, .inl (k1, 8, .inl (fun _ => 0))), (q2, .inl (k2, 8, .inl (fun _ => 0)))] := hD
  refine W.widen (k := 2) (n := 16) (Nat.le_of_ble_eq_true rfl) (Nat.le_of_ble_eq_true rfl) ?_
  refine va_putF (D := D) (ci := 1) (v := .ref q2) (ty := .array .int) (C := RX1) (T := TX1) (N := 9) hx hb hts hin tyX1 tyX1_ok nmX1 hown hK hP hD hS 0 rfl rfl 5 (by decide) (hts (.fieldLink RX1 23 "ChronoTrialsModel" "best" "[I") (by decide +kernel)) (fun _ h9 => h9) rfl hin2 rfl (by decide +kernel) rfl rfl (Nat.le_of_ble_eq_true rfl) dX1_init_33 (fun H locs hP hD hS => ?_)
  have hP : va_P D vwCl [(h0, .inr (1, [.int 0, .int (-1), .int 100, .int (-1), .ref q1, .ref q2, .null, .null, .null])), (q1, .inl (k1, 8, .inl (fun _ => 0))), (q2, .inl (k2, 8, .inl (fun _ => 0)))] H := hP
  have hD : va_D A9 [(h0, .inr (1, [.int 0, .int (-1), .int 100, .int (-1), .ref q1, .ref q2, .null, .null, .null])), (q1, .inl (k1, 8, .inl (fun _ => 0))), (q2, .inl (k2, 8, .inl (fun _ => 0)))] := hD
  refine lv_aload_n hx hb dX1_init_36 rfl (lv_at hl 0 rfl) ?_
  refine lv_bipush (v := 8) hx hb dX1_init_37 (by decide) ?_
  refine va_newa (D := D) (atype := .int) (ty := .int) (n := 8) (N' := 8) (a0 := (8, .inl (fun _ => 0))) hx hb (hts (.arrayClass .int) (by decide +kernel)) rfl hK hP hD hS hA (fun cA => vp_cell_i cA 8 (fun _ => 0)) (by decide) (by decide) (by decide) (Nat.le_of_ble_eq_true rfl) (Nat.le_of_ble_eq_true rfl) dX1_init_39 (fun q3 k3 H hK hP hD hS => ?_)
  have hK : va_K D vwCl [(k1, .int), (k2, .int), (k3, .int)] s := hK
  have hP : va_P D vwCl [(h0, .inr (1, [.int 0, .int (-1), .int 100, .int (-1), .ref q1, .ref q2, .null, .null, .null])), (q1, .inl (k1, 8, .inl (fun _ => 0))), (q2, .inl (k2, 8, .inl (fun _ => 0))), (q3, .inl (k3, 8, .inl (fun _ => 0)))] H := hP
  have hD : va_D A9 [(h0, .inr (1, [.int 0, .int (-1), .int 100, .int (-1), .ref q1, .ref q2, .null, .null, .null])), (q1, .inl (k1, 8, .inl (fun _ => 0))), (q2, .inl (k2, 8, .inl (fun _ => 0))), (q3, .inl (k3, 8, .inl (fun _ => 0)))] := hD
  refine W.widen (k := 3) (n := 24) (Nat.le_of_ble_eq_true rfl) (Nat.le_of_ble_eq_true rfl) ?_
  refine va_putF (D := D) (ci := 1) (v := .ref q3) (ty := .array .int) (C := RX1) (T := TX1) (N := 9) hx hb hts hin tyX1 tyX1_ok nmX1 hown hK hP hD hS 0 rfl rfl 6 (by decide) (hts (.fieldLink RX1 26 "ChronoTrialsModel" "seal" "[I") (by decide +kernel)) (fun _ h9 => h9) rfl hin2 rfl (by decide +kernel) rfl rfl (Nat.le_of_ble_eq_true rfl) dX1_init_41 (fun H locs hP hD hS => ?_)
  have hP : va_P D vwCl [(h0, .inr (1, [.int 0, .int (-1), .int 100, .int (-1), .ref q1, .ref q2, .ref q3, .null, .null])), (q1, .inl (k1, 8, .inl (fun _ => 0))), (q2, .inl (k2, 8, .inl (fun _ => 0))), (q3, .inl (k3, 8, .inl (fun _ => 0)))] H := hP
  have hD : va_D A9 [(h0, .inr (1, [.int 0, .int (-1), .int 100, .int (-1), .ref q1, .ref q2, .ref q3, .null, .null])), (q1, .inl (k1, 8, .inl (fun _ => 0))), (q2, .inl (k2, 8, .inl (fun _ => 0))), (q3, .inl (k3, 8, .inl (fun _ => 0)))] := hD
  refine lv_aload_n hx hb dX1_init_44 rfl (lv_at hl 0 rfl) ?_
  refine lv_bipush (v := 48) hx hb dX1_init_45 (by decide) ?_
  refine va_newa (D := D) (atype := .int) (ty := .int) (n := 48) (N' := 48) (a0 := (48, .inl (fun _ => 0))) hx hb (hts (.arrayClass .int) (by decide +kernel)) rfl hK hP hD hS hA (fun cA => vp_cell_i cA 48 (fun _ => 0)) (by decide) (by decide) (by decide) (Nat.le_of_ble_eq_true rfl) (Nat.le_of_ble_eq_true rfl) dX1_init_47 (fun q4 k4 H hK hP hD hS => ?_)
  have hK : va_K D vwCl [(k1, .int), (k2, .int), (k3, .int), (k4, .int)] s := hK
  have hP : va_P D vwCl [(h0, .inr (1, [.int 0, .int (-1), .int 100, .int (-1), .ref q1, .ref q2, .ref q3, .null, .null])), (q1, .inl (k1, 8, .inl (fun _ => 0))), (q2, .inl (k2, 8, .inl (fun _ => 0))), (q3, .inl (k3, 8, .inl (fun _ => 0))), (q4, .inl (k4, 48, .inl (fun _ => 0)))] H := hP
  have hD : va_D A9 [(h0, .inr (1, [.int 0, .int (-1), .int 100, .int (-1), .ref q1, .ref q2, .ref q3, .null, .null])), (q1, .inl (k1, 8, .inl (fun _ => 0))), (q2, .inl (k2, 8, .inl (fun _ => 0))), (q3, .inl (k3, 8, .inl (fun _ => 0))), (q4, .inl (k4, 48, .inl (fun _ => 0)))] := hD
  refine W.widen (k := 4) (n := 72) (Nat.le_of_ble_eq_true rfl) (Nat.le_of_ble_eq_true rfl) ?_
  refine va_putF (D := D) (ci := 1) (v := .ref q4) (ty := .array .int) (C := RX1) (T := TX1) (N := 9) hx hb hts hin tyX1 tyX1_ok nmX1 hown hK hP hD hS 0 rfl rfl 7 (by decide) (hts (.fieldLink RX1 29 "ChronoTrialsModel" "rates" "[I") (by decide +kernel)) (fun _ h9 => h9) rfl hin2 rfl (by decide +kernel) rfl rfl (Nat.le_of_ble_eq_true rfl) dX1_init_49 (fun H locs hP hD hS => ?_)
  have hP : va_P D vwCl [(h0, .inr (1, [.int 0, .int (-1), .int 100, .int (-1), .ref q1, .ref q2, .ref q3, .ref q4, .null])), (q1, .inl (k1, 8, .inl (fun _ => 0))), (q2, .inl (k2, 8, .inl (fun _ => 0))), (q3, .inl (k3, 8, .inl (fun _ => 0))), (q4, .inl (k4, 48, .inl (fun _ => 0)))] H := hP
  have hD : va_D A9 [(h0, .inr (1, [.int 0, .int (-1), .int 100, .int (-1), .ref q1, .ref q2, .ref q3, .ref q4, .null])), (q1, .inl (k1, 8, .inl (fun _ => 0))), (q2, .inl (k2, 8, .inl (fun _ => 0))), (q3, .inl (k3, 8, .inl (fun _ => 0))), (q4, .inl (k4, 48, .inl (fun _ => 0)))] := hD
  refine lv_aload_n hx hb dX1_init_52 rfl (lv_at hl 0 rfl) ?_
  refine lv_bipush (v := 48) hx hb dX1_init_53 (by decide) ?_
  refine va_newa (D := D) (atype := .int) (ty := .int) (n := 48) (N' := 48) (a0 := (48, .inl (fun _ => 0))) hx hb (hts (.arrayClass .int) (by decide +kernel)) rfl hK hP hD hS hA (fun cA => vp_cell_i cA 48 (fun _ => 0)) (by decide) (by decide) (by decide) (Nat.le_of_ble_eq_true rfl) (Nat.le_of_ble_eq_true rfl) dX1_init_55 (fun q5 k5 H hK hP hD hS => ?_)
  have hK : va_K D vwCl [(k1, .int), (k2, .int), (k3, .int), (k4, .int), (k5, .int)] s := hK
  have hP : va_P D vwCl [(h0, .inr (1, [.int 0, .int (-1), .int 100, .int (-1), .ref q1, .ref q2, .ref q3, .ref q4, .null])), (q1, .inl (k1, 8, .inl (fun _ => 0))), (q2, .inl (k2, 8, .inl (fun _ => 0))), (q3, .inl (k3, 8, .inl (fun _ => 0))), (q4, .inl (k4, 48, .inl (fun _ => 0))), (q5, .inl (k5, 48, .inl (fun _ => 0)))] H := hP
  have hD : va_D A9 [(h0, .inr (1, [.int 0, .int (-1), .int 100, .int (-1), .ref q1, .ref q2, .ref q3, .ref q4, .null])), (q1, .inl (k1, 8, .inl (fun _ => 0))), (q2, .inl (k2, 8, .inl (fun _ => 0))), (q3, .inl (k3, 8, .inl (fun _ => 0))), (q4, .inl (k4, 48, .inl (fun _ => 0))), (q5, .inl (k5, 48, .inl (fun _ => 0)))] := hD
  refine W.widen (k := 5) (n := 120) (Nat.le_of_ble_eq_true rfl) (Nat.le_of_ble_eq_true rfl) ?_
  refine va_putF (D := D) (ci := 1) (v := .ref q5) (ty := .array .int) (C := RX1) (T := TX1) (N := 9) hx hb hts hin tyX1 tyX1_ok nmX1 hown hK hP hD hS 0 rfl rfl 8 (by decide) (hts (.fieldLink RX1 32 "ChronoTrialsModel" "chills" "[I") (by decide +kernel)) (fun _ h9 => h9) rfl hin2 rfl (by decide +kernel) rfl rfl (Nat.le_of_ble_eq_true rfl) dX1_init_57 (fun H locs hP hD hS => ?_)
  have hP : va_P D vwCl [(h0, .inr (1, [.int 0, .int (-1), .int 100, .int (-1), .ref q1, .ref q2, .ref q3, .ref q4, .ref q5])), (q1, .inl (k1, 8, .inl (fun _ => 0))), (q2, .inl (k2, 8, .inl (fun _ => 0))), (q3, .inl (k3, 8, .inl (fun _ => 0))), (q4, .inl (k4, 48, .inl (fun _ => 0))), (q5, .inl (k5, 48, .inl (fun _ => 0)))] H := hP
  have hD : va_D A9 [(h0, .inr (1, [.int 0, .int (-1), .int 100, .int (-1), .ref q1, .ref q2, .ref q3, .ref q4, .ref q5])), (q1, .inl (k1, 8, .inl (fun _ => 0))), (q2, .inl (k2, 8, .inl (fun _ => 0))), (q3, .inl (k3, 8, .inl (fun _ => 0))), (q4, .inl (k4, 48, .inl (fun _ => 0))), (q5, .inl (k5, 48, .inl (fun _ => 0)))] := hD
  have hP9 : va_P D vwCl (wM (adr h0 q1 q2 q3 q4 q5) (adk k1 k2 k3 k4 k5) S0) H := hP
  have hK9 : va_K D vwCl (tM (adk k1 k2 k3 k4 k5)) s := hK
  have hD9 : va_D A9 (wM (adr h0 q1 q2 q3 q4 q5) (adk k1 k2 k3 k4 k5) S0) := hD
  exact W.vret hx hb hr (fun t ht hW => ⟨⟨(adr h0 q1 q2 q3 q4 q5, adk k1 k2 k3 k4 k5), rfl, rfl, by rw [ht]; exact hP9, va_K.moved hW.alike hK9, hD9⟩, hS.F ht⟩) hS.2.2 dX1_init_60
end
section
/-! THE CLAIM OUT OF ONE WALK OF THE LAW'S BODY. Your part is whole_start (and what it stands on); all else here is the same for every law, but numbers. -/
def R_law : String := "ChronoTrialsLaw"
def lw_P (b : Addr) (xs : List Int32) (args : Array Value) (s : State) : Prop := args = #[.ref b] ∧ s.IntsAt b xs ∧ xs.length ≤ 3072 ∧ (Jvm.Cond.and given_1 narrow_1).before args s = true
def lw_Q (_ : Array Value) (s : State) (o : Outcome) (t : State) : Prop := o = .returned (some (.int 1)) ∧ Framed s o t [] 12 258
def lw_Z (below : List Frame) (a : Array Value) (s : State) : State → Prop := fun t => ∃ o, t.status = .running ∧ Ended t below o ∧ lw_Q a s o t
/-- the law's own end, with 1 on the stack, nothing written that was there before, its room as the claim has it -/
theorem lw_ret {p : Program} {l : Launch} {e : Env} {s : State} {m : MethodId} {below : List Frame} {meth : Method} {c : Code} {b : Nat} (hx : p.tables.exec = Jvm.exec) (hb : c.code = code) (hr : meth.sig.returnType = ret) (hlocks : meth.locks = false) {pc : Nat} {H : Heap} {ls : Array Slot} (hdg : decode code pc = .ok (.ireturn, 1)) : W p l e room_1 s m #[Value.ref b] below meth c H [] 12 258 (lw_Z below #[Value.ref b] s) (F0 m pc ls [.int 1]) := by
  intro T hT X
  obtain ⟨fs, hret, hrun, hended, hW, hframe⟩ := X.leave (v := some (.int 1)) (hlocks := hlocks) (fun h => by rw [hr] at h; cases h)
  have hmeth' : T.vm.method? m = some meth := X.method'
  refine ⟨T.setFrames fs, ?_, .returned (some (.int 1)), hrun, hended, rfl, ⟨_, rfl⟩, hW, hframe⟩
  jvm_step X.here [X.here.top, hx, hb, hdg, hmeth', hr, ret, narrow_b1]
  (try refine ⟨rfl, ?_⟩); (try refine ⟨rfl, ?_⟩)
  first | (intro acts; rw [hret _ acts rfl rfl rfl]) | rw [hret _ _ rfl rfl rfl]
  exact Steps.refl _
/-- what holds at the law's entry: the machine, the code, the tables' words (any of lw_tbl by 'hts w (by decide +kernel)'), the script of L ints xs at the cell b, what the Statement gives of the start (any of its parts by flat_of_before) -/
def lw_At (p : Program) (s : State) (m : MethodId) (meth : Method) (c : Code) (b L : Nat) (xs : Nat → Int32) : Prop :=
  p.tables.exec = Jvm.exec ∧ c.code = code ∧ meth.sig.returnType = ret ∧ c.maxLocals = 4 ∧ s.vm.findClass R_law = some m.cls ∧ (∀ w ∈ lw_tbl, w.before #[Value.ref b] s = true) ∧ va_X b L xs s s.heap ∧ b < s.heap.size ∧ meth.locks = false ∧ (Jvm.Cond.and given_1 narrow_1).before #[Value.ref b] s = true
set_option maxHeartbeats 4000000 in
set_option maxRecDepth 100000 in
/-- the law's loop: at its head, with i ints read, class and reference hold one state -/
theorem law_loop {p : Program} {l : Launch} {e : Env} {s : State} {m : MethodId} {below : List Frame} {meth : Method} {c : Code} {D : va_G} {A A2 : Nat → Nat} {K K2 : Nat → ClassId} {b L : Nat} {xs : Nat → Int32} (hL : L ≤ 3072) (C0 : lw_At p s m meth c b L xs) (hKX : va_K D vwCl (tX K) s) (hKM : va_K D vwCl (tM K2) s) :
    ∀ (n i : Nat), i ≤ L → L + 1 ≤ i + n → ∀ (S : XS), lawI S → ∀ (H : Heap) (locs : List Loc), va_P D vwCl (wX A K S) H → va_P D vwCl (wM A2 K2 S) H → va_D (fun q : Nat => s.heap.size ≤ q) (wX A K S ++ wM A2 K2 S) → va_S (fun q : Nat => s.heap.size ≤ q) s.heap H locs → ∀ (ls : Array Slot), lv_has ls 4 [(0, .ref b), (1, .ref (A 0)), (2, .ref (A2 0)), (3, .int (nI i))] → W p l e room_1 s m #[Value.ref b] below meth c H locs 12 258 (lw_Z below #[Value.ref b] s) (F0 m 18 ls []) := by
  obtain ⟨hx, hb, hr, hml, hown, hts0, hX, hbl, hlocks, hgv⟩ := C0
  have hown : s.vm.findClass RL = some m.cls := hown
  have hts : ∀ w ∈ wsL_law, w.before #[Value.ref b] s = true := fun w h => hts0 w (wsL_law_in w h)
  have hA : ∀ q : Nat, s.heap.size ≤ q → (fun q : Nat => s.heap.size ≤ q) q := fun _ h => h
  have hbA : ¬ (fun q : Nat => s.heap.size ≤ q) b := Nat.not_le.mpr hbl
  intro n
  induction n with
  | zero =>
    intro i h1 h2
    exact absurd h2 (by omega)
  | succ n ih =>
    intro i hi hin S hI H locs hPX hPM hD hS ls hl
    have K351 : ∀ (S : XS), lawI S → ∀ (H : Heap) (locs : List Loc), i + 6 ≤ L → va_P D vwCl (wX A K S) H → va_P D vwCl (wM A2 K2 S) H → va_D (fun q : Nat => s.heap.size ≤ q) (wX A K S ++ wM A2 K2 S) → va_S (fun q : Nat => s.heap.size ≤ q) s.heap H locs → ∀ (ls : Array Slot), lv_has ls 4 [(0, .ref b), (1, .ref (A 0)), (2, .ref (A2 0)), (3, .int (nI i))] → W p l e room_1 s m #[Value.ref b] below meth c H locs 12 258 (lw_Z below #[Value.ref b] s) (F0 m 351 ls []) := by
      intro S hI H locs hi6 hPX hPM hD hS ls hl
      refine lv_iinc (v := nI (i + 6)) (lv' := [(3, .int (nI (i + 6))), (0, .ref b), (1, .ref (A 0)), (2, .ref (A2 0))]) hx hb dL_law_351 hl (k := 3) rfl (nI_add i 6) (by decide) rfl (fun ls hl => ?_)
      refine lv_goto (tgt := 18) hx hb dL_law_354 (by decide) ?_
      exact ih (i + 6) hi6 (by omega) S hI H locs hPX hPM hD hS ls (lv_sub hl [1, 2, 3, 0] rfl)
    refine lv_iload_n hx hb dL_law_18 rfl (lv_at hl 3 rfl) ?_
    refine lv_aload_n hx hb dL_law_19 rfl (lv_at hl 0 rfl) ?_
    refine va_slen hx hb hX hbl hbA hS dL_law_20 ?_
    refine lv_bipush (v := 6) hx hb dL_law_21 (by decide) ?_
    refine lv_isub hx hb dL_law_23 ?_
    refine lv_icmp_gt (tgt := 357) hx hb dL_law_24 (by decide) (fun c1 => ?_) (fun c1 => ?_)
    · refine lv_iconst (v := 1) hx hb dL_law_357 (by decide) ?_
      refine va_forget (fun q hq => hS.2.2 q hq) ?_
      exact lw_ret hx hb hr hlocks dL_law_358
    have hi6 : i + 6 ≤ L := Nat.not_lt.mp fun q => c1 ((sub6 hL hi).mpr q)
    refine lv_aload_n hx hb dL_law_27 rfl (lv_at hl 0 rfl) ?_
    refine lv_iload_n hx hb dL_law_28 rfl (lv_at hl 3 rfl) ?_
    refine xs_ld (k := i) hx hb hX hbl hbA hS (by omega) (by omega) dL_law_29 ?_
    refine lv_bipush (v := 15) hx hb dL_law_30 (by decide) ?_
    refine lv_iand hx hb dL_law_32 ?_
    obtain ⟨j, hj, ej⟩ := pk_andE (xs i) (m := 15) 4 (by decide)
    rw [ej]
    by_cases w0 : j = 0
    · refine lv_tableIn (tgt := 84) hx hb dL_law_33 (by rw [w0]; decide) (by rw [w0]; decide) (by rw [w0]; rfl) (by decide) ?_
      refine lv_aload_n hx hb dL_law_84 rfl (lv_at hl 1 rfl) ?_
      refine wc_V (sp := (x_admit S)) (w := wX A K) (wc := wX A K S) (wr := (wM A2 K2 S)) ⟨hx, hb, hml, hown, hts⟩ [] [] (c_X0_admit l D A K S hI.1 H.size ) (cwV 0 hts gL_law_X0_admit rfl rfl rfl (by decide +kernel) ⟨(Nat.le_of_ble_eq_true rfl), (Nat.le_of_ble_eq_true rfl)⟩) hKX hPX hPM hD hS hA [0, 1, 2, 3, 4, 5] [6, 7, 8, 9, 10, 11] rfl rfl (by decide) (by decide) (by decide) (va_recv hKX hPX (ci := 0) (q0 := 0) rfl rfl) rfl hl.1 rfl (Nat.le_of_ble_eq_true rfl) ⟨(Nat.le_of_ble_eq_true rfl), (Nat.le_of_ble_eq_true rfl)⟩ dL_law_85 (fun H locs hPX hPM hD hS => ?_)
      refine lv_aload_n hx hb dL_law_88 rfl (lv_at hl 2 rfl) ?_
      refine wc_V (sp := (m_admit S)) (w := wM A2 K2) (wc := wM A2 K2 S) (wr := (wX A K (x_admit S).2)) ⟨hx, hb, hml, hown, hts⟩ [] [.int ((x_admit S).1)] (c_X1_admit l D A2 K2 S hI.1 H.size ) (cwV 0 hts gL_law_X1_admit rfl rfl rfl (by decide +kernel) ⟨(Nat.le_of_ble_eq_true rfl), (Nat.le_of_ble_eq_true rfl)⟩) hKM hPM hPX hD hS hA [0, 1, 2, 3, 4, 5] [6, 7, 8, 9, 10, 11] rfl rfl (by decide) (by decide) (by decide) (va_recv hKM hPM (ci := 1) (q0 := 0) rfl rfl) rfl hl.1 rfl (Nat.le_of_ble_eq_true rfl) ⟨(Nat.le_of_ble_eq_true rfl), (Nat.le_of_ble_eq_true rfl)⟩ dL_law_89 (fun H locs hPM hPX hD hS => ?_)
      refine lv_icmp_eq (tgt := 351) hx hb dL_law_92 (by decide) (fun _ => ?_) (fun cq => absurd (congrArg Prod.fst (E_admit S hI)) cq)
      rw [← E_admit S hI] at hPM hD
      exact K351 (x_admit S).2 (I_admit S hI) H locs hi6 hPX hPM hD hS ls hl
    by_cases w1 : j = 1
    · refine lv_tableIn (tgt := 97) hx hb dL_law_33 (by rw [w1]; decide) (by rw [w1]; decide) (by rw [w1]; rfl) (by decide) ?_
      refine lv_aload_n hx hb dL_law_97 rfl (lv_at hl 1 rfl) ?_
      refine lv_aload_n hx hb dL_law_98 rfl (lv_at hl 0 rfl) ?_
      refine lv_iload_n hx hb dL_law_99 rfl (lv_at hl 3 rfl) ?_
      refine lv_iconst (v := 1) hx hb dL_law_100 (by decide) ?_
      refine xn_add (i := i) (j := 1) hx hb dL_law_101 ?_
      refine xs_ld (k := i + 1) hx hb hX hbl hbA hS (by omega) (by omega) dL_law_102 ?_
      refine wc_V (sp := (x_prize S (xs (i + 1)))) (w := wX A K) (wc := wX A K S) (wr := (wM A2 K2 S)) ⟨hx, hb, hml, hown, hts⟩ [.int (xs (i + 1))] [] (c_X0_prize l D A K S hI.1 H.size (xs (i + 1))) (cwV 1 hts gL_law_X0_prize rfl rfl rfl (by decide +kernel) ⟨(Nat.le_of_ble_eq_true rfl), (Nat.le_of_ble_eq_true rfl)⟩) hKX hPX hPM hD hS hA [0, 1, 2, 3, 4, 5] [6, 7, 8, 9, 10, 11] rfl rfl (by decide) (by decide) (by decide) (va_recv hKX hPX (ci := 0) (q0 := 0) rfl rfl) rfl hl.1 rfl (Nat.le_of_ble_eq_true rfl) ⟨(Nat.le_of_ble_eq_true rfl), (Nat.le_of_ble_eq_true rfl)⟩ dL_law_103 (fun H locs hPX hPM hD hS => ?_)
      refine lv_aload_n hx hb dL_law_106 rfl (lv_at hl 2 rfl) ?_
      refine lv_aload_n hx hb dL_law_107 rfl (lv_at hl 0 rfl) ?_
      refine lv_iload_n hx hb dL_law_108 rfl (lv_at hl 3 rfl) ?_
      refine lv_iconst (v := 1) hx hb dL_law_109 (by decide) ?_
      refine xn_add (i := i) (j := 1) hx hb dL_law_110 ?_
      refine xs_ld (k := i + 1) hx hb hX hbl hbA hS (by omega) (by omega) dL_law_111 ?_
      refine wc_V (sp := (m_prize S (xs (i + 1)))) (w := wM A2 K2) (wc := wM A2 K2 S) (wr := (wX A K (x_prize S (xs (i + 1))).2)) ⟨hx, hb, hml, hown, hts⟩ [.int (xs (i + 1))] [.int ((x_prize S (xs (i + 1))).1)] (c_X1_prize l D A2 K2 S hI.1 H.size (xs (i + 1))) (cwV 1 hts gL_law_X1_prize rfl rfl rfl (by decide +kernel) ⟨(Nat.le_of_ble_eq_true rfl), (Nat.le_of_ble_eq_true rfl)⟩) hKM hPM hPX hD hS hA [0, 1, 2, 3, 4, 5] [6, 7, 8, 9, 10, 11] rfl rfl (by decide) (by decide) (by decide) (va_recv hKM hPM (ci := 1) (q0 := 0) rfl rfl) rfl hl.1 rfl (Nat.le_of_ble_eq_true rfl) ⟨(Nat.le_of_ble_eq_true rfl), (Nat.le_of_ble_eq_true rfl)⟩ dL_law_112 (fun H locs hPM hPX hD hS => ?_)
      refine lv_icmp_eq (tgt := 351) hx hb dL_law_115 (by decide) (fun _ => ?_) (fun cq => absurd (congrArg Prod.fst (E_prize S (xs (i + 1)))) cq)
      rw [← E_prize S (xs (i + 1))] at hPM hD
      exact K351 (x_prize S (xs (i + 1))).2 (I_prize S (xs (i + 1)) hI) H locs hi6 hPX hPM hD hS ls hl
    by_cases w2 : j = 2
    · refine lv_tableIn (tgt := 120) hx hb dL_law_33 (by rw [w2]; decide) (by rw [w2]; decide) (by rw [w2]; rfl) (by decide) ?_
      refine lv_aload_n hx hb dL_law_120 rfl (lv_at hl 1 rfl) ?_
      refine lv_aload_n hx hb dL_law_121 rfl (lv_at hl 0 rfl) ?_
      refine lv_iload_n hx hb dL_law_122 rfl (lv_at hl 3 rfl) ?_
      refine lv_iconst (v := 1) hx hb dL_law_123 (by decide) ?_
      refine xn_add (i := i) (j := 1) hx hb dL_law_124 ?_
      refine xs_ld (k := i + 1) hx hb hX hbl hbA hS (by omega) (by omega) dL_law_125 ?_
      refine wc_V (sp := (x_frost S (xs (i + 1)))) (w := wX A K) (wc := wX A K S) (wr := (wM A2 K2 S)) ⟨hx, hb, hml, hown, hts⟩ [.int (xs (i + 1))] [] (c_X0_frost l D A K S hI.1 H.size (xs (i + 1))) (cwV 1 hts gL_law_X0_frost rfl rfl rfl (by decide +kernel) ⟨(Nat.le_of_ble_eq_true rfl), (Nat.le_of_ble_eq_true rfl)⟩) hKX hPX hPM hD hS hA [0, 1, 2, 3, 4, 5] [6, 7, 8, 9, 10, 11] rfl rfl (by decide) (by decide) (by decide) (va_recv hKX hPX (ci := 0) (q0 := 0) rfl rfl) rfl hl.1 rfl (Nat.le_of_ble_eq_true rfl) ⟨(Nat.le_of_ble_eq_true rfl), (Nat.le_of_ble_eq_true rfl)⟩ dL_law_126 (fun H locs hPX hPM hD hS => ?_)
      refine lv_aload_n hx hb dL_law_129 rfl (lv_at hl 2 rfl) ?_
      refine lv_aload_n hx hb dL_law_130 rfl (lv_at hl 0 rfl) ?_
      refine lv_iload_n hx hb dL_law_131 rfl (lv_at hl 3 rfl) ?_
      refine lv_iconst (v := 1) hx hb dL_law_132 (by decide) ?_
      refine xn_add (i := i) (j := 1) hx hb dL_law_133 ?_
      refine xs_ld (k := i + 1) hx hb hX hbl hbA hS (by omega) (by omega) dL_law_134 ?_
      refine wc_V (sp := (m_frost S (xs (i + 1)))) (w := wM A2 K2) (wc := wM A2 K2 S) (wr := (wX A K (x_frost S (xs (i + 1))).2)) ⟨hx, hb, hml, hown, hts⟩ [.int (xs (i + 1))] [.int ((x_frost S (xs (i + 1))).1)] (c_X1_frost l D A2 K2 S hI.1 H.size (xs (i + 1))) (cwV 1 hts gL_law_X1_frost rfl rfl rfl (by decide +kernel) ⟨(Nat.le_of_ble_eq_true rfl), (Nat.le_of_ble_eq_true rfl)⟩) hKM hPM hPX hD hS hA [0, 1, 2, 3, 4, 5] [6, 7, 8, 9, 10, 11] rfl rfl (by decide) (by decide) (by decide) (va_recv hKM hPM (ci := 1) (q0 := 0) rfl rfl) rfl hl.1 rfl (Nat.le_of_ble_eq_true rfl) ⟨(Nat.le_of_ble_eq_true rfl), (Nat.le_of_ble_eq_true rfl)⟩ dL_law_135 (fun H locs hPM hPX hD hS => ?_)
      refine lv_icmp_eq (tgt := 351) hx hb dL_law_138 (by decide) (fun _ => ?_) (fun cq => absurd (congrArg Prod.fst (E_frost S (xs (i + 1)))) cq)
      rw [← E_frost S (xs (i + 1))] at hPM hD
      exact K351 (x_frost S (xs (i + 1))).2 (I_frost S (xs (i + 1)) hI) H locs hi6 hPX hPM hD hS ls hl
    by_cases w3 : j = 3
    · refine lv_tableIn (tgt := 143) hx hb dL_law_33 (by rw [w3]; decide) (by rw [w3]; decide) (by rw [w3]; rfl) (by decide) ?_
      refine lv_aload_n hx hb dL_law_143 rfl (lv_at hl 1 rfl) ?_
      refine lv_aload_n hx hb dL_law_144 rfl (lv_at hl 0 rfl) ?_
      refine lv_iload_n hx hb dL_law_145 rfl (lv_at hl 3 rfl) ?_
      refine lv_iconst (v := 1) hx hb dL_law_146 (by decide) ?_
      refine xn_add (i := i) (j := 1) hx hb dL_law_147 ?_
      refine xs_ld (k := i + 1) hx hb hX hbl hbA hS (by omega) (by omega) dL_law_148 ?_
      refine lv_aload_n hx hb dL_law_149 rfl (lv_at hl 0 rfl) ?_
      refine lv_iload_n hx hb dL_law_150 rfl (lv_at hl 3 rfl) ?_
      refine lv_iconst (v := 2) hx hb dL_law_151 (by decide) ?_
      refine xn_add (i := i) (j := 2) hx hb dL_law_152 ?_
      refine xs_ld (k := i + 2) hx hb hX hbl hbA hS (by omega) (by omega) dL_law_153 ?_
      refine lv_aload_n hx hb dL_law_154 rfl (lv_at hl 0 rfl) ?_
      refine lv_iload_n hx hb dL_law_155 rfl (lv_at hl 3 rfl) ?_
      refine lv_iconst (v := 3) hx hb dL_law_156 (by decide) ?_
      refine xn_add (i := i) (j := 3) hx hb dL_law_157 ?_
      refine xs_ld (k := i + 3) hx hb hX hbl hbA hS (by omega) (by omega) dL_law_158 ?_
      refine wc_V (sp := (x_trial S (xs (i + 1)) (xs (i + 2)) (xs (i + 3)))) (w := wX A K) (wc := wX A K S) (wr := (wM A2 K2 S)) ⟨hx, hb, hml, hown, hts⟩ [.int (xs (i + 1)), .int (xs (i + 2)), .int (xs (i + 3))] [] (c_X0_trial l D A K S hI.1 H.size (xs (i + 1)) (xs (i + 2)) (xs (i + 3))) (cwV 3 hts gL_law_X0_trial rfl rfl rfl (by decide +kernel) ⟨(Nat.le_of_ble_eq_true rfl), (Nat.le_of_ble_eq_true rfl)⟩) hKX hPX hPM hD hS hA [0, 1, 2, 3, 4, 5] [6, 7, 8, 9, 10, 11] rfl rfl (by decide) (by decide) (by decide) (va_recv hKX hPX (ci := 0) (q0 := 0) rfl rfl) rfl hl.1 rfl (Nat.le_of_ble_eq_true rfl) ⟨(Nat.le_of_ble_eq_true rfl), (Nat.le_of_ble_eq_true rfl)⟩ dL_law_159 (fun H locs hPX hPM hD hS => ?_)
      refine lv_aload_n hx hb dL_law_162 rfl (lv_at hl 2 rfl) ?_
      refine lv_aload_n hx hb dL_law_163 rfl (lv_at hl 0 rfl) ?_
      refine lv_iload_n hx hb dL_law_164 rfl (lv_at hl 3 rfl) ?_
      refine lv_iconst (v := 1) hx hb dL_law_165 (by decide) ?_
      refine xn_add (i := i) (j := 1) hx hb dL_law_166 ?_
      refine xs_ld (k := i + 1) hx hb hX hbl hbA hS (by omega) (by omega) dL_law_167 ?_
      refine lv_aload_n hx hb dL_law_168 rfl (lv_at hl 0 rfl) ?_
      refine lv_iload_n hx hb dL_law_169 rfl (lv_at hl 3 rfl) ?_
      refine lv_iconst (v := 2) hx hb dL_law_170 (by decide) ?_
      refine xn_add (i := i) (j := 2) hx hb dL_law_171 ?_
      refine xs_ld (k := i + 2) hx hb hX hbl hbA hS (by omega) (by omega) dL_law_172 ?_
      refine lv_aload_n hx hb dL_law_173 rfl (lv_at hl 0 rfl) ?_
      refine lv_iload_n hx hb dL_law_174 rfl (lv_at hl 3 rfl) ?_
      refine lv_iconst (v := 3) hx hb dL_law_175 (by decide) ?_
      refine xn_add (i := i) (j := 3) hx hb dL_law_176 ?_
      refine xs_ld (k := i + 3) hx hb hX hbl hbA hS (by omega) (by omega) dL_law_177 ?_
      refine wc_V (sp := (m_trial S (xs (i + 1)) (xs (i + 2)) (xs (i + 3)))) (w := wM A2 K2) (wc := wM A2 K2 S) (wr := (wX A K (x_trial S (xs (i + 1)) (xs (i + 2)) (xs (i + 3))).2)) ⟨hx, hb, hml, hown, hts⟩ [.int (xs (i + 1)), .int (xs (i + 2)), .int (xs (i + 3))] [.int ((x_trial S (xs (i + 1)) (xs (i + 2)) (xs (i + 3))).1)] (c_X1_trial l D A2 K2 S hI.1 H.size (xs (i + 1)) (xs (i + 2)) (xs (i + 3))) (cwV 3 hts gL_law_X1_trial rfl rfl rfl (by decide +kernel) ⟨(Nat.le_of_ble_eq_true rfl), (Nat.le_of_ble_eq_true rfl)⟩) hKM hPM hPX hD hS hA [0, 1, 2, 3, 4, 5] [6, 7, 8, 9, 10, 11] rfl rfl (by decide) (by decide) (by decide) (va_recv hKM hPM (ci := 1) (q0 := 0) rfl rfl) rfl hl.1 rfl (Nat.le_of_ble_eq_true rfl) ⟨(Nat.le_of_ble_eq_true rfl), (Nat.le_of_ble_eq_true rfl)⟩ dL_law_178 (fun H locs hPM hPX hD hS => ?_)
      refine lv_icmp_eq (tgt := 351) hx hb dL_law_181 (by decide) (fun _ => ?_) (fun cq => absurd (congrArg Prod.fst (E_trial S hI.1 (xs (i + 1)) (xs (i + 2)) (xs (i + 3)))) cq)
      rw [← E_trial S hI.1 (xs (i + 1)) (xs (i + 2)) (xs (i + 3))] at hPM hD
      exact K351 (x_trial S (xs (i + 1)) (xs (i + 2)) (xs (i + 3))).2 (I_trial S (xs (i + 1)) (xs (i + 2)) (xs (i + 3)) hI) H locs hi6 hPX hPM hD hS ls hl
    by_cases w4 : j = 4
    · refine lv_tableIn (tgt := 186) hx hb dL_law_33 (by rw [w4]; decide) (by rw [w4]; decide) (by rw [w4]; rfl) (by decide) ?_
      refine lv_aload_n hx hb dL_law_186 rfl (lv_at hl 1 rfl) ?_
      refine lv_aload_n hx hb dL_law_187 rfl (lv_at hl 0 rfl) ?_
      refine lv_iload_n hx hb dL_law_188 rfl (lv_at hl 3 rfl) ?_
      refine lv_iconst (v := 1) hx hb dL_law_189 (by decide) ?_
      refine xn_add (i := i) (j := 1) hx hb dL_law_190 ?_
      refine xs_ld (k := i + 1) hx hb hX hbl hbA hS (by omega) (by omega) dL_law_191 ?_
      refine wc_V (sp := (x_annul S (xs (i + 1)))) (w := wX A K) (wc := wX A K S) (wr := (wM A2 K2 S)) ⟨hx, hb, hml, hown, hts⟩ [.int (xs (i + 1))] [] (c_X0_annul l D A K S hI.1 H.size (xs (i + 1))) (cwV 1 hts gL_law_X0_annul rfl rfl rfl (by decide +kernel) ⟨(Nat.le_of_ble_eq_true rfl), (Nat.le_of_ble_eq_true rfl)⟩) hKX hPX hPM hD hS hA [0, 1, 2, 3, 4, 5] [6, 7, 8, 9, 10, 11] rfl rfl (by decide) (by decide) (by decide) (va_recv hKX hPX (ci := 0) (q0 := 0) rfl rfl) rfl hl.1 rfl (Nat.le_of_ble_eq_true rfl) ⟨(Nat.le_of_ble_eq_true rfl), (Nat.le_of_ble_eq_true rfl)⟩ dL_law_192 (fun H locs hPX hPM hD hS => ?_)
      refine lv_aload_n hx hb dL_law_195 rfl (lv_at hl 2 rfl) ?_
      refine lv_aload_n hx hb dL_law_196 rfl (lv_at hl 0 rfl) ?_
      refine lv_iload_n hx hb dL_law_197 rfl (lv_at hl 3 rfl) ?_
      refine lv_iconst (v := 1) hx hb dL_law_198 (by decide) ?_
      refine xn_add (i := i) (j := 1) hx hb dL_law_199 ?_
      refine xs_ld (k := i + 1) hx hb hX hbl hbA hS (by omega) (by omega) dL_law_200 ?_
      refine wc_V (sp := (x_annul S (xs (i + 1)))) (w := wM A2 K2) (wc := wM A2 K2 S) (wr := (wX A K (x_annul S (xs (i + 1))).2)) ⟨hx, hb, hml, hown, hts⟩ [.int (xs (i + 1))] [.int ((x_annul S (xs (i + 1))).1)] (c_X1_annul l D A2 K2 S hI.1 H.size (xs (i + 1))) (cwV 1 hts gL_law_X1_annul rfl rfl rfl (by decide +kernel) ⟨(Nat.le_of_ble_eq_true rfl), (Nat.le_of_ble_eq_true rfl)⟩) hKM hPM hPX hD hS hA [0, 1, 2, 3, 4, 5] [6, 7, 8, 9, 10, 11] rfl rfl (by decide) (by decide) (by decide) (va_recv hKM hPM (ci := 1) (q0 := 0) rfl rfl) rfl hl.1 rfl (Nat.le_of_ble_eq_true rfl) ⟨(Nat.le_of_ble_eq_true rfl), (Nat.le_of_ble_eq_true rfl)⟩ dL_law_201 (fun H locs hPM hPX hD hS => ?_)
      refine lv_icmp_eq (tgt := 351) hx hb dL_law_204 (by decide) (fun _ => ?_) (fun cq => absurd (rfl) cq)
      exact K351 (x_annul S (xs (i + 1))).2 (I_annul S (xs (i + 1)) hI) H locs hi6 hPX hPM hD hS ls hl
    by_cases w5 : j = 5
    · refine lv_tableIn (tgt := 209) hx hb dL_law_33 (by rw [w5]; decide) (by rw [w5]; decide) (by rw [w5]; rfl) (by decide) ?_
      refine lv_aload_n hx hb dL_law_209 rfl (lv_at hl 1 rfl) ?_
      refine lv_aload_n hx hb dL_law_210 rfl (lv_at hl 0 rfl) ?_
      refine lv_iload_n hx hb dL_law_211 rfl (lv_at hl 3 rfl) ?_
      refine lv_iconst (v := 1) hx hb dL_law_212 (by decide) ?_
      refine xn_add (i := i) (j := 1) hx hb dL_law_213 ?_
      refine xs_ld (k := i + 1) hx hb hX hbl hbA hS (by omega) (by omega) dL_law_214 ?_
      refine rc_V (v := (x_place S (xs (i + 1)))) ⟨hx, hb, hml, hown, hts⟩ [.int (xs (i + 1))] [] (c_X0_place l D A K S hI.1 (xs (i + 1))) (cwV 1 hts gL_law_X0_place rfl rfl rfl (by decide +kernel) ⟨(Nat.le_of_ble_eq_true rfl), (Nat.le_of_ble_eq_true rfl)⟩) hKX hPX (va_recv hKX hPX (ci := 0) (q0 := 0) rfl rfl) rfl hl.1 rfl (Nat.le_of_ble_eq_true rfl) ⟨(Nat.le_of_ble_eq_true rfl), (Nat.le_of_ble_eq_true rfl)⟩ dL_law_215 ?_
      refine lv_aload_n hx hb dL_law_218 rfl (lv_at hl 2 rfl) ?_
      refine lv_aload_n hx hb dL_law_219 rfl (lv_at hl 0 rfl) ?_
      refine lv_iload_n hx hb dL_law_220 rfl (lv_at hl 3 rfl) ?_
      refine lv_iconst (v := 1) hx hb dL_law_221 (by decide) ?_
      refine xn_add (i := i) (j := 1) hx hb dL_law_222 ?_
      refine xs_ld (k := i + 1) hx hb hX hbl hbA hS (by omega) (by omega) dL_law_223 ?_
      refine rc_V (v := (m_place S (xs (i + 1)))) ⟨hx, hb, hml, hown, hts⟩ [.int (xs (i + 1))] [.int (x_place S (xs (i + 1)))] (c_X1_place l D A2 K2 S hI.1 (xs (i + 1))) (cwV 1 hts gL_law_X1_place rfl rfl rfl (by decide +kernel) ⟨(Nat.le_of_ble_eq_true rfl), (Nat.le_of_ble_eq_true rfl)⟩) hKM hPM (va_recv hKM hPM (ci := 1) (q0 := 0) rfl rfl) rfl hl.1 rfl (Nat.le_of_ble_eq_true rfl) ⟨(Nat.le_of_ble_eq_true rfl), (Nat.le_of_ble_eq_true rfl)⟩ dL_law_224 ?_
      refine lv_icmp_eq (tgt := 351) hx hb dL_law_227 (by decide) (fun _ => ?_) (fun cq => absurd (E_place S hI.1 (xs (i + 1))) cq)
      exact K351 S hI H locs hi6 hPX hPM hD hS ls hl
    by_cases w6 : j = 6
    · refine lv_tableIn (tgt := 232) hx hb dL_law_33 (by rw [w6]; decide) (by rw [w6]; decide) (by rw [w6]; rfl) (by decide) ?_
      refine lv_aload_n hx hb dL_law_232 rfl (lv_at hl 1 rfl) ?_
      refine lv_aload_n hx hb dL_law_233 rfl (lv_at hl 0 rfl) ?_
      refine lv_iload_n hx hb dL_law_234 rfl (lv_at hl 3 rfl) ?_
      refine lv_iconst (v := 1) hx hb dL_law_235 (by decide) ?_
      refine xn_add (i := i) (j := 1) hx hb dL_law_236 ?_
      refine xs_ld (k := i + 1) hx hb hX hbl hbA hS (by omega) (by omega) dL_law_237 ?_
      refine lv_aload_n hx hb dL_law_238 rfl (lv_at hl 0 rfl) ?_
      refine lv_iload_n hx hb dL_law_239 rfl (lv_at hl 3 rfl) ?_
      refine lv_iconst (v := 2) hx hb dL_law_240 (by decide) ?_
      refine xn_add (i := i) (j := 2) hx hb dL_law_241 ?_
      refine xs_ld (k := i + 2) hx hb hX hbl hbA hS (by omega) (by omega) dL_law_242 ?_
      refine rc_V (v := (x_tell S (xs (i + 1)) (xs (i + 2)))) ⟨hx, hb, hml, hown, hts⟩ [.int (xs (i + 1)), .int (xs (i + 2))] [] (c_X0_tell l D A K S hI.1 (xs (i + 1)) (xs (i + 2))) (cwV 2 hts gL_law_X0_tell rfl rfl rfl (by decide +kernel) ⟨(Nat.le_of_ble_eq_true rfl), (Nat.le_of_ble_eq_true rfl)⟩) hKX hPX (va_recv hKX hPX (ci := 0) (q0 := 0) rfl rfl) rfl hl.1 rfl (Nat.le_of_ble_eq_true rfl) ⟨(Nat.le_of_ble_eq_true rfl), (Nat.le_of_ble_eq_true rfl)⟩ dL_law_243 ?_
      refine lv_aload_n hx hb dL_law_246 rfl (lv_at hl 2 rfl) ?_
      refine lv_aload_n hx hb dL_law_247 rfl (lv_at hl 0 rfl) ?_
      refine lv_iload_n hx hb dL_law_248 rfl (lv_at hl 3 rfl) ?_
      refine lv_iconst (v := 1) hx hb dL_law_249 (by decide) ?_
      refine xn_add (i := i) (j := 1) hx hb dL_law_250 ?_
      refine xs_ld (k := i + 1) hx hb hX hbl hbA hS (by omega) (by omega) dL_law_251 ?_
      refine lv_aload_n hx hb dL_law_252 rfl (lv_at hl 0 rfl) ?_
      refine lv_iload_n hx hb dL_law_253 rfl (lv_at hl 3 rfl) ?_
      refine lv_iconst (v := 2) hx hb dL_law_254 (by decide) ?_
      refine xn_add (i := i) (j := 2) hx hb dL_law_255 ?_
      refine xs_ld (k := i + 2) hx hb hX hbl hbA hS (by omega) (by omega) dL_law_256 ?_
      refine rc_V (v := (m_tell S (xs (i + 1)) (xs (i + 2)))) ⟨hx, hb, hml, hown, hts⟩ [.int (xs (i + 1)), .int (xs (i + 2))] [.int (x_tell S (xs (i + 1)) (xs (i + 2)))] (c_X1_tell l D A2 K2 S hI.1 (xs (i + 1)) (xs (i + 2))) (cwV 2 hts gL_law_X1_tell rfl rfl rfl (by decide +kernel) ⟨(Nat.le_of_ble_eq_true rfl), (Nat.le_of_ble_eq_true rfl)⟩) hKM hPM (va_recv hKM hPM (ci := 1) (q0 := 0) rfl rfl) rfl hl.1 rfl (Nat.le_of_ble_eq_true rfl) ⟨(Nat.le_of_ble_eq_true rfl), (Nat.le_of_ble_eq_true rfl)⟩ dL_law_257 ?_
      refine lv_icmp_eq (tgt := 351) hx hb dL_law_260 (by decide) (fun _ => ?_) (fun cq => absurd (E_tell S (xs (i + 1)) (xs (i + 2))) cq)
      exact K351 S hI H locs hi6 hPX hPM hD hS ls hl
    by_cases w7 : j = 7
    · refine lv_tableIn (tgt := 265) hx hb dL_law_33 (by rw [w7]; decide) (by rw [w7]; decide) (by rw [w7]; rfl) (by decide) ?_
      refine lv_aload_n hx hb dL_law_265 rfl (lv_at hl 1 rfl) ?_
      refine lv_aload_n hx hb dL_law_266 rfl (lv_at hl 0 rfl) ?_
      refine lv_iload_n hx hb dL_law_267 rfl (lv_at hl 3 rfl) ?_
      refine lv_iconst (v := 1) hx hb dL_law_268 (by decide) ?_
      refine xn_add (i := i) (j := 1) hx hb dL_law_269 ?_
      refine xs_ld (k := i + 1) hx hb hX hbl hbA hS (by omega) (by omega) dL_law_270 ?_
      refine lv_aload_n hx hb dL_law_271 rfl (lv_at hl 0 rfl) ?_
      refine lv_iload_n hx hb dL_law_272 rfl (lv_at hl 3 rfl) ?_
      refine lv_iconst (v := 2) hx hb dL_law_273 (by decide) ?_
      refine xn_add (i := i) (j := 2) hx hb dL_law_274 ?_
      refine xs_ld (k := i + 2) hx hb hX hbl hbA hS (by omega) (by omega) dL_law_275 ?_
      refine lv_aload_n hx hb dL_law_276 rfl (lv_at hl 0 rfl) ?_
      refine lv_iload_n hx hb dL_law_277 rfl (lv_at hl 3 rfl) ?_
      refine lv_iconst (v := 3) hx hb dL_law_278 (by decide) ?_
      refine xn_add (i := i) (j := 3) hx hb dL_law_279 ?_
      refine xs_ld (k := i + 3) hx hb hX hbl hbA hS (by omega) (by omega) dL_law_280 ?_
      refine lv_aload_n hx hb dL_law_281 rfl (lv_at hl 0 rfl) ?_
      refine lv_iload_n hx hb dL_law_282 rfl (lv_at hl 3 rfl) ?_
      refine lv_iconst (v := 4) hx hb dL_law_283 (by decide) ?_
      refine xn_add (i := i) (j := 4) hx hb dL_law_284 ?_
      refine xs_ld (k := i + 4) hx hb hX hbl hbA hS (by omega) (by omega) dL_law_285 ?_
      refine lv_aload_n hx hb dL_law_286 rfl (lv_at hl 0 rfl) ?_
      refine lv_iload_n hx hb dL_law_287 rfl (lv_at hl 3 rfl) ?_
      refine lv_iconst (v := 5) hx hb dL_law_288 (by decide) ?_
      refine xn_add (i := i) (j := 5) hx hb dL_law_289 ?_
      refine xs_ld (k := i + 5) hx hb hX hbl hbA hS (by omega) (by omega) dL_law_290 ?_
      refine wc_V (sp := (x_ask S (xs (i + 1)) (xs (i + 2)) (xs (i + 3)) (xs (i + 4)) (xs (i + 5)))) (w := wX A K) (wc := wX A K S) (wr := (wM A2 K2 S)) ⟨hx, hb, hml, hown, hts⟩ [.int (xs (i + 1)), .int (xs (i + 2)), .int (xs (i + 3)), .int (xs (i + 4)), .int (xs (i + 5))] [] (c_X0_ask l D A K S hI.1 H.size (xs (i + 1)) (xs (i + 2)) (xs (i + 3)) (xs (i + 4)) (xs (i + 5))) (cwV 5 hts gL_law_X0_ask rfl rfl rfl (by decide +kernel) ⟨(Nat.le_of_ble_eq_true rfl), (Nat.le_of_ble_eq_true rfl)⟩) hKX hPX hPM hD hS hA [0, 1, 2, 3, 4, 5] [6, 7, 8, 9, 10, 11] rfl rfl (by decide) (by decide) (by decide) (va_recv hKX hPX (ci := 0) (q0 := 0) rfl rfl) rfl hl.1 rfl (Nat.le_of_ble_eq_true rfl) ⟨(Nat.le_of_ble_eq_true rfl), (Nat.le_of_ble_eq_true rfl)⟩ dL_law_291 (fun H locs hPX hPM hD hS => ?_)
      refine lv_aload_n hx hb dL_law_294 rfl (lv_at hl 2 rfl) ?_
      refine lv_aload_n hx hb dL_law_295 rfl (lv_at hl 0 rfl) ?_
      refine lv_iload_n hx hb dL_law_296 rfl (lv_at hl 3 rfl) ?_
      refine lv_iconst (v := 1) hx hb dL_law_297 (by decide) ?_
      refine xn_add (i := i) (j := 1) hx hb dL_law_298 ?_
      refine xs_ld (k := i + 1) hx hb hX hbl hbA hS (by omega) (by omega) dL_law_299 ?_
      refine lv_aload_n hx hb dL_law_300 rfl (lv_at hl 0 rfl) ?_
      refine lv_iload_n hx hb dL_law_301 rfl (lv_at hl 3 rfl) ?_
      refine lv_iconst (v := 2) hx hb dL_law_302 (by decide) ?_
      refine xn_add (i := i) (j := 2) hx hb dL_law_303 ?_
      refine xs_ld (k := i + 2) hx hb hX hbl hbA hS (by omega) (by omega) dL_law_304 ?_
      refine lv_aload_n hx hb dL_law_305 rfl (lv_at hl 0 rfl) ?_
      refine lv_iload_n hx hb dL_law_306 rfl (lv_at hl 3 rfl) ?_
      refine lv_iconst (v := 3) hx hb dL_law_307 (by decide) ?_
      refine xn_add (i := i) (j := 3) hx hb dL_law_308 ?_
      refine xs_ld (k := i + 3) hx hb hX hbl hbA hS (by omega) (by omega) dL_law_309 ?_
      refine lv_aload_n hx hb dL_law_310 rfl (lv_at hl 0 rfl) ?_
      refine lv_iload_n hx hb dL_law_311 rfl (lv_at hl 3 rfl) ?_
      refine lv_iconst (v := 4) hx hb dL_law_312 (by decide) ?_
      refine xn_add (i := i) (j := 4) hx hb dL_law_313 ?_
      refine xs_ld (k := i + 4) hx hb hX hbl hbA hS (by omega) (by omega) dL_law_314 ?_
      refine lv_aload_n hx hb dL_law_315 rfl (lv_at hl 0 rfl) ?_
      refine lv_iload_n hx hb dL_law_316 rfl (lv_at hl 3 rfl) ?_
      refine lv_iconst (v := 5) hx hb dL_law_317 (by decide) ?_
      refine xn_add (i := i) (j := 5) hx hb dL_law_318 ?_
      refine xs_ld (k := i + 5) hx hb hX hbl hbA hS (by omega) (by omega) dL_law_319 ?_
      refine wc_V (sp := (m_ask S (xs (i + 1)) (xs (i + 2)) (xs (i + 3)) (xs (i + 4)) (xs (i + 5)))) (w := wM A2 K2) (wc := wM A2 K2 S) (wr := (wX A K (x_ask S (xs (i + 1)) (xs (i + 2)) (xs (i + 3)) (xs (i + 4)) (xs (i + 5))).2)) ⟨hx, hb, hml, hown, hts⟩ [.int (xs (i + 1)), .int (xs (i + 2)), .int (xs (i + 3)), .int (xs (i + 4)), .int (xs (i + 5))] [.int ((x_ask S (xs (i + 1)) (xs (i + 2)) (xs (i + 3)) (xs (i + 4)) (xs (i + 5))).1)] (c_X1_ask l D A2 K2 S hI.1 H.size (xs (i + 1)) (xs (i + 2)) (xs (i + 3)) (xs (i + 4)) (xs (i + 5))) (cwV 5 hts gL_law_X1_ask rfl rfl rfl (by decide +kernel) ⟨(Nat.le_of_ble_eq_true rfl), (Nat.le_of_ble_eq_true rfl)⟩) hKM hPM hPX hD hS hA [0, 1, 2, 3, 4, 5] [6, 7, 8, 9, 10, 11] rfl rfl (by decide) (by decide) (by decide) (va_recv hKM hPM (ci := 1) (q0 := 0) rfl rfl) rfl hl.1 rfl (Nat.le_of_ble_eq_true rfl) ⟨(Nat.le_of_ble_eq_true rfl), (Nat.le_of_ble_eq_true rfl)⟩ dL_law_320 (fun H locs hPM hPX hD hS => ?_)
      refine lv_icmp_eq (tgt := 351) hx hb dL_law_323 (by decide) (fun _ => ?_) (fun cq => absurd (congrArg Prod.fst (E_ask S (xs (i + 1)) (xs (i + 2)) (xs (i + 3)) (xs (i + 4)) (xs (i + 5)))) cq)
      rw [← E_ask S (xs (i + 1)) (xs (i + 2)) (xs (i + 3)) (xs (i + 4)) (xs (i + 5))] at hPM hD
      exact K351 (x_ask S (xs (i + 1)) (xs (i + 2)) (xs (i + 3)) (xs (i + 4)) (xs (i + 5))).2 (I_ask S (xs (i + 1)) (xs (i + 2)) (xs (i + 3)) (xs (i + 4)) (xs (i + 5)) hI) H locs hi6 hPX hPM hD hS ls hl
    by_cases w8 : j = 8
    · refine lv_tableIn (tgt := 328) hx hb dL_law_33 (by rw [w8]; decide) (by rw [w8]; decide) (by rw [w8]; rfl) (by decide) ?_
      refine lv_aload_n hx hb dL_law_328 rfl (lv_at hl 1 rfl) ?_
      refine lv_aload_n hx hb dL_law_329 rfl (lv_at hl 0 rfl) ?_
      refine lv_iload_n hx hb dL_law_330 rfl (lv_at hl 3 rfl) ?_
      refine lv_iconst (v := 1) hx hb dL_law_331 (by decide) ?_
      refine xn_add (i := i) (j := 1) hx hb dL_law_332 ?_
      refine xs_ld (k := i + 1) hx hb hX hbl hbA hS (by omega) (by omega) dL_law_333 ?_
      refine rc_V (v := (ct (x_first S) S (xs (i + 1)))) ⟨hx, hb, hml, hown, hts⟩ [.int (xs (i + 1))] [] (c_X0_count l D A K S hI.1 (xs (i + 1))) (cwV 1 hts gL_law_X0_count rfl rfl rfl (by decide +kernel) ⟨(Nat.le_of_ble_eq_true rfl), (Nat.le_of_ble_eq_true rfl)⟩) hKX hPX (va_recv hKX hPX (ci := 0) (q0 := 0) rfl rfl) rfl hl.1 rfl (Nat.le_of_ble_eq_true rfl) ⟨(Nat.le_of_ble_eq_true rfl), (Nat.le_of_ble_eq_true rfl)⟩ dL_law_334 ?_
      refine lv_aload_n hx hb dL_law_337 rfl (lv_at hl 2 rfl) ?_
      refine lv_aload_n hx hb dL_law_338 rfl (lv_at hl 0 rfl) ?_
      refine lv_iload_n hx hb dL_law_339 rfl (lv_at hl 3 rfl) ?_
      refine lv_iconst (v := 1) hx hb dL_law_340 (by decide) ?_
      refine xn_add (i := i) (j := 1) hx hb dL_law_341 ?_
      refine xs_ld (k := i + 1) hx hb hX hbl hbA hS (by omega) (by omega) dL_law_342 ?_
      refine rc_V (v := (ct (m_first S) S (xs (i + 1)))) ⟨hx, hb, hml, hown, hts⟩ [.int (xs (i + 1))] [.int (ct (x_first S) S (xs (i + 1)))] (c_X1_count l D A2 K2 S hI.1 (xs (i + 1))) (cwV 1 hts gL_law_X1_count rfl rfl rfl (by decide +kernel) ⟨(Nat.le_of_ble_eq_true rfl), (Nat.le_of_ble_eq_true rfl)⟩) hKM hPM (va_recv hKM hPM (ci := 1) (q0 := 0) rfl rfl) rfl hl.1 rfl (Nat.le_of_ble_eq_true rfl) ⟨(Nat.le_of_ble_eq_true rfl), (Nat.le_of_ble_eq_true rfl)⟩ dL_law_343 ?_
      refine lv_icmp_eq (tgt := 351) hx hb dL_law_346 (by decide) (fun _ => ?_) (fun cq => absurd (congrArg (fun f => ct f S (xs (i + 1))) (E_first S hI.1)) cq)
      exact K351 S hI H locs hi6 hPX hPM hD hS ls hl
    refine lv_tableOut (tgt := 351) hx hb dL_law_33 (Or.inr (by rw [nI_toInt (by omega)]; omega)) (by decide) ?_
    exact K351 S hI H locs hi6 hPX hPM hD hS ls hl
end
section
set_option maxHeartbeats 4000000 in
set_option maxRecDepth 100000 in
theorem whole_start {p : Program} {e : Env} {s : State} {m : MethodId} {below : List Frame} {meth : Method} {c : Code} (l : Launch) {b L : Nat} {xs : Nat → Int32} (hL : L ≤ 3072) (C0 : lw_At p s m meth c b L xs) : W p l e room_1 s m #[Value.ref b] below meth c s.heap [] 0 0 (lw_Z below #[Value.ref b] s) (entryFrame m ([Value.ref b] : List Value).toArray 4) := by
  obtain ⟨hx, hb, hr, hml, hown, hts0, hX, hbl, hlocks, hgv⟩ := id C0
  have hown : s.vm.findClass RL = some m.cls := hown
  have hts : ∀ w ∈ wsL_law, w.before #[Value.ref b] s = true := fun w h => hts0 w (wsL_law_in w h)
  have hA : ∀ q : Nat, s.heap.size ≤ q → (fun q : Nat => s.heap.size ≤ q) q := fun _ h => h
  have hbA : ¬ (fun q : Nat => s.heap.size ≤ q) b := Nat.not_le.mpr hbl
  obtain ⟨c0, iS0, hKn0⟩ := u_known (C := RX0) (T := TX0) (N := 9) (n := 9) hts inlX0 (hts (.instantiable RX0 9) (by decide +kernel))
  obtain ⟨c1, iS1, hKn1⟩ := u_known (C := RX1) (T := TX1) (N := 9) (n := 9) hts inlX1 (hts (.instantiable RX1 9) (by decide +kernel))
  obtain ⟨D, hKc⟩ : ∃ D : va_G, ∀ (k : Nat) (q : vw_C), vwCl[k]? = some q → u_Kn s q.1 q.2.1 q.2.2 (D.1 k) (D.2 k) := by
    refine ⟨(fun k => if k = 0 then c0 else c1, fun k => if k = 0 then iS0 else iS1), ?_⟩
    intro k q hq
    match k, hq with
    | 0, hq => cases hq; exact hKn0
    | 1, hq => cases hq; exact hKn1
    | k + 2, hq => simp [vwCl] at hq
  have hS : va_S (fun q : Nat => s.heap.size ≤ q) s.heap s.heap [] := va_S.rf
  have hK : va_K D vwCl [] s := ⟨hKc, fun k q h => by simp at h⟩
  have hP : va_P D vwCl [] s.heap := fun k q h => by simp at h
  have hD : va_D (fun q : Nat => s.heap.size ≤ q) [] := ⟨fun i j p q h => by simp at h, fun k q h => by simp at h⟩
  have hl := lv_entry ([.ref b]) (n := 4) (Nat.le_of_ble_eq_true rfl)
  rw [lg_entry_eq]
  generalize (lg_sl ([.ref b]) ++ List.replicate (4 - (lg_sl ([.ref b])).length) Slot.unset).toArray = ls at hl ⊢
  have hl : lv_has ls 4 [(0, .ref b)] := hl
  refine va_new (ci := 0) (fs := [.null, .null, .null, .null, .null, .int 0, .int 0, .int 0, .int 0]) (C := RX0) (T := TX0) (N := 9) hx hb hts inlX0 tyX0 tyX0_ok hown (hts (.classLink RL 7 RX0) (by decide +kernel)) (hts (.instantiable RX0 9) (by decide +kernel)) (hts (.initialized RX0) (by decide +kernel)) hK hP hD hS hA rfl (fun j hj => by rcases (show j = 0 ∨ j = 1 ∨ j = 2 ∨ j = 3 ∨ j = 4 ∨ j = 5 ∨ j = 6 ∨ j = 7 ∨ j = 8 by omega) with rfl | rfl | rfl | rfl | rfl | rfl | rfl | rfl | rfl <;> rfl) (Nat.le_of_ble_eq_true rfl) (Nat.le_of_ble_eq_true rfl) dL_law_0 (fun g0 H hP hD hS => ?_)
  have hP : va_P D vwCl (w0X g0) H := hP
  have hD : va_D (fun q : Nat => s.heap.size ≤ q) (w0X g0) := hD
  refine W.widen (k := 1) (n := 9) (Nat.le_of_ble_eq_true rfl) (Nat.le_of_ble_eq_true rfl) ?_
  refine lv_dup hx hb dL_law_3 rfl ?_
  have hPc := hP.sub (ws' := w0X g0) [0] rfl
  have hDc := hD.sub (ws' := w0X g0) [0] (by decide) rfl
  have hKc := hK.sub (tys' := []) [] rfl
  have hFc := va_free (wc := w0X g0) hD hS hA [0] rfl
  refine va_callv (va_runI (As := []) (rest := [.ref g0]) ⟨hx, hb, hml, hown, hts⟩ (c_X0_init l D g0 H.size) (cwI 0 hts gL_law_X0_init rfl rfl rfl (hts (.initialized RX0) (by decide +kernel)) (hts (.methodLink RL 9 yX0_init) (by decide +kernel)) (hts (.instanceMethod yX0_init) (by decide +kernel)) rfl (by decide +kernel) ⟨(Nat.le_of_ble_eq_true rfl), (Nat.le_of_ble_eq_true rfl)⟩) ⟨fun a U g mk q => by obtain ⟨q0, q1, qP, qK, qD⟩ := q; exact ⟨q0, q1, qP, va_K.moved (u := U) (U := U.calling g mk a) (Vm.Alike.refl U.vm) qK, qD⟩, fun U hU hW => ⟨rfl, by rw [hU], by rw [hU]; exact hPc, va_K.moved hW.alike hKc, hDc.weaken (fun _ _ _ _ => trivial)⟩⟩ rfl rfl hl.1 rfl (lv_room (Nat.le_of_ble_eq_true rfl)) dL_law_4 ⟨(Nat.le_of_ble_eq_true rfl), (Nat.le_of_ble_eq_true rfl)⟩) hS (fun q _ h => hFc q h) hFc (fun u t H1 locs ht hvm hw hB hz1 hk1 hS => ?_)
  obtain ⟨A, K⟩ := u
  obtain ⟨hP1, hK1, hD1⟩ := hB
  rw [ht] at hP1
  have hKX : va_K D vwCl (tX K) s := va_K.moved hvm.symm hK1
  have hw : A 0 = g0 := hw
  subst hw
  obtain ⟨hP, hD⟩ := va_join (wr := []) (w1 := wX A K S0) hP hD [0] [] rfl rfl (by decide) (by decide) hk1 hFc hP1 hD1
  have hP : va_P D vwCl (wX A K S0) H1 := hP
  have hD : va_D (fun q : Nat => s.heap.size ≤ q) (wX A K S0) := hD
  refine W.widen (k := 6) (n := 129) (Nat.le_of_ble_eq_true rfl) (Nat.le_of_ble_eq_true rfl) ?_
  refine lv_astore_n (lv' := [(1, .ref (A 0)), (0, .ref b)]) hx hb dL_law_7 rfl hl (by decide) rfl (fun ls hl => ?_)
  refine va_new (ci := 1) (fs := [.int 0, .int 0, .int 0, .int 0, .null, .null, .null, .null, .null]) (C := RX1) (T := TX1) (N := 9) hx hb hts inlX1 tyX1 tyX1_ok hown (hts (.classLink RL 10 RX1) (by decide +kernel)) (hts (.instantiable RX1 9) (by decide +kernel)) (hts (.initialized RX1) (by decide +kernel)) hK hP hD hS hA rfl (fun j hj => by rcases (show j = 0 ∨ j = 1 ∨ j = 2 ∨ j = 3 ∨ j = 4 ∨ j = 5 ∨ j = 6 ∨ j = 7 ∨ j = 8 by omega) with rfl | rfl | rfl | rfl | rfl | rfl | rfl | rfl | rfl <;> rfl) (Nat.le_of_ble_eq_true rfl) (Nat.le_of_ble_eq_true rfl) dL_law_8 (fun g1 H hP hD hS => ?_)
  have hP : va_P D vwCl (wX A K S0 ++ w0M g1) H := hP
  have hD : va_D (fun q : Nat => s.heap.size ≤ q) (wX A K S0 ++ w0M g1) := hD
  refine W.widen (k := 7) (n := 138) (Nat.le_of_ble_eq_true rfl) (Nat.le_of_ble_eq_true rfl) ?_
  refine lv_dup hx hb dL_law_11 rfl ?_
  have hPc := hP.sub (ws' := w0M g1) [6] rfl
  have hDc := hD.sub (ws' := w0M g1) [6] (by decide) rfl
  have hKc := hK.sub (tys' := []) [] rfl
  have hFc := va_free (wc := w0M g1) hD hS hA [6] rfl
  refine va_callv (va_runI (As := []) (rest := [.ref g1]) ⟨hx, hb, hml, hown, hts⟩ (c_X1_init l D g1 H.size) (cwI 0 hts gL_law_X1_init rfl rfl rfl (hts (.initialized RX1) (by decide +kernel)) (hts (.methodLink RL 12 yX1_init) (by decide +kernel)) (hts (.instanceMethod yX1_init) (by decide +kernel)) rfl (by decide +kernel) ⟨(Nat.le_of_ble_eq_true rfl), (Nat.le_of_ble_eq_true rfl)⟩) ⟨fun a U g mk q => by obtain ⟨q0, q1, qP, qK, qD⟩ := q; exact ⟨q0, q1, qP, va_K.moved (u := U) (U := U.calling g mk a) (Vm.Alike.refl U.vm) qK, qD⟩, fun U hU hW => ⟨rfl, by rw [hU], by rw [hU]; exact hPc, va_K.moved hW.alike hKc, hDc.weaken (fun _ _ _ _ => trivial)⟩⟩ rfl rfl hl.1 rfl (lv_room (Nat.le_of_ble_eq_true rfl)) dL_law_12 ⟨(Nat.le_of_ble_eq_true rfl), (Nat.le_of_ble_eq_true rfl)⟩) hS (fun q _ h => hFc q h) hFc (fun u t H1 locs ht hvm hw hB hz1 hk1 hS => ?_)
  obtain ⟨A2, K2⟩ := u
  obtain ⟨hP1, hK1, hD1⟩ := hB
  rw [ht] at hP1
  have hKM : va_K D vwCl (tM K2) s := va_K.moved hvm.symm hK1
  have hw : A2 0 = g1 := hw
  subst hw
  obtain ⟨hP, hD⟩ := va_join (wr := (wX A K S0)) (w1 := wM A2 K2 S0) hP hD [6] [0, 1, 2, 3, 4, 5] rfl rfl (by decide) (by decide) hk1 hFc hP1 hD1
  refine W.widen (k := 12) (n := 258) (Nat.le_of_ble_eq_true rfl) (Nat.le_of_ble_eq_true rfl) ?_
  refine lv_astore_n (lv' := [(2, .ref (A2 0)), (1, .ref (A 0)), (0, .ref b)]) hx hb dL_law_15 rfl hl (by decide) rfl (fun ls hl => ?_)
  refine lv_iconst (v := 0) hx hb dL_law_16 (by decide) ?_
  refine lv_istore_n (lv' := [(3, .int 0), (2, .ref (A2 0)), (1, .ref (A 0)), (0, .ref b)]) hx hb dL_law_17 rfl hl (by decide) rfl (fun ls hl => ?_)
  exact law_loop hL C0 hKX hKM (L + 1) 0 (Nat.zero_le _) (by omega) S0 I_0 _ _ (p_left hP) hP1 hD hS ls (lv_sub hl [3, 2, 1, 0] rfl)
set_option maxHeartbeats 4000000 in
theorem lw_walk (l : Launch) (b : Addr) (xs : List Int32) : MetFree l x (headSpec (Jvm.Cond.code x code maxLocals ret :: tables_1) room_1) (lw_P b xs) (fun _ _ _ _ _ => True) lw_Q := by
  refine MetFree.of_bodyS (code := code) (maxLocals := maxLocals) (ret := ret) (by decide) ?_ ?_
  · intro args s m h hn
    obtain ⟨meth, c, h1, h2, h3, h4, h5, h6, -, -⟩ := Cond.code_spec hn (atoms_spec (ws := Jvm.Cond.code x code maxLocals ret :: tables_1) h _ List.mem_cons_self)
    exact ⟨meth, c, h1, h2, h3, h4, h5, h6⟩
  · intro p e s m args below meth c s₁ B hml0 hP _
    obtain ⟨rfl, hx, hbd, hgv⟩ := hP
    obtain ⟨scr, harrAt, hlist, hof, hsmall⟩ := hx
    obtain ⟨hcb, hkn, -, -⟩ := State.arrayAt?_spec harrAt
    have hown : s.vm.findClass R_law = some m.cls := findClass_of_methodNamed B.named
    have hts0 : ∀ c ∈ (Jvm.Cond.code x code maxLocals ret :: tables_1), c.before #[Value.ref b] s = true := atoms_spec (ws := Jvm.Cond.code x code maxLocals ret :: tables_1) B.pre
    have hts : ∀ w ∈ lw_tbl, w.before #[Value.ref b] s = true := k2_hts_sels lw_privs (fun w hw => hts0 w (List.mem_cons_of_mem _ hw)) lw_privs_ok
    have hml : c.maxLocals = 4 := B.maxLocals_eq (hts0 _ List.mem_cons_self)
    have X₀ : Stand p l e room_1 s m #[Value.ref b] below meth c s₁ [] 0 0 := Stand.of_body B
    have hh0 : s₁.heap = s.heap := by rw [B.state]; rfl
    have hsz : scr.slots.size = xs.length := by rw [← Array.length_toList, hlist, List.length_map]
    have hval : ∀ j : Nat, j < xs.length → scr.slots[j]? = some (.int (xs.getD j 0)) := fun j hj => by
      rw [← Array.getElem?_toList, hlist]
      simp [hj]
    have hbl : b < s.heap.size := (Array.getElem?_eq_some_iff.mp hcb).1
    have hX : va_X b xs.length (fun j => xs.getD j 0) s s.heap := ⟨scr, hcb, hof, hkn, hsz, hval⟩
    have K : W p l e room_1 s m #[Value.ref b] below meth c s₁.heap [] 0 0 (lw_Z below #[Value.ref b] s) (entryFrame m ([Value.ref b] : List Value).toArray 4) := by
      rw [hh0]
      exact whole_start l hbd ⟨B.exec, B.bytes, B.returns, hml, hown, hts, hX, hbl, B.notSynchronized, hgv⟩
    obtain ⟨t, a1, o, b1, b2, b3⟩ := K s₁ rfl X₀
    exact ⟨t, o, a1, b1, b2, b3⟩
theorem lw_pre_spec {args : Array Value} {s : State} (h : (Jvm.Cond.and given_1 narrow_1).before args s = true) (hr : rest_1_c.before args s = true) : ∃ (b : Addr) (xs : List Int32), lw_P b xs args s := by
  have hs := flat_of_before _ h
  have hq := flat_of_before _ hr
  have hc : (Cond.count 1).before args s = true := hs _ (by decide +kernel)
  have harr : (Cond.arrayOf (.arg 0) .int).before args s = true := hs _ (by decide +kernel)
  have hle : (Cond.le (.length (.arg 0)) (.int 3072)).before args s = true := hs _ (by decide +kernel)
  have hlen : (Cond.isInt (.length (.arg 0))).before args s = true := hq _ (by decide +kernel)
  have hall : (Cond.all (.arg 0) (.isInt (.elem (.arg 0) (.index 0)))).before args s = true := hq _ (by decide +kernel)
  obtain ⟨b, xs, hb, hx⟩ := State.ints_of_pre rfl harr hlen hall
  have hsm : xs.length < 2 ^ 31 := hx.choose_spec.2.2.2
  have hev : (Term.length (.arg 0)).eval args s none [] s = some (.int xs.length.toInt32) := hx.length_eval hb
  have hv := Cond.le_ints hev (show (Term.int 3072).eval args s none [] s = some (.int 3072) from rfl)
  have hd : xs.length.toInt32 ≤ 3072 := by
    simpa [Cond.before, Cond.holds, hv] using hle
  have hN : xs.length ≤ 3072 := (Int32.ofNat_le_ofNat hsm (by decide)).mp (show Int32.ofNat xs.length ≤ Int32.ofNat 3072 from hd)
  exact ⟨b, xs, Cond.one_arg hc (show args[0]? = some (.ref b) from hb), hx, hN, h⟩
theorem lw_comes (l : Launch) : Comes l x (Jvm.Cond.code x code maxLocals ret :: tables_1) room_1 (fun tb e args s => Calls_1 tb e args s ∧ rest_1 tb e args s ∧ Pre_1 tb e args s)
    (fun _ _ args s o t => lw_Q args s o t) := by
  intro p e ha hc hk s m args below hf hfit hheap happ hpre
  obtain ⟨b, xs, hP⟩ := lw_pre_spec hpre.2.2 hpre.2.1
  obtain ⟨k, o, h1, h2, h3, hQ⟩ := lw_walk l b xs p e ha hc hk s m args below hf ((Spec.applies_iff_loose hf).mp happ).1 hP trivial
  exact ⟨k, o, h1, h2, h3, hQ⟩
theorem lw_frame {s t : State} {o : Outcome} {args : Array Value} (h : Framed s o t [] 12 258) :
    Framed s o t (fieldLocs frame_1_writes args s ++ arrayLocs frame_1_arrays args s ++ staticLocs frame_1_statics s) 12 258 := h
theorem lw_limb (L : Cond) (hL : ∀ (args : Array Value) (s t : State), L.after args s (.returned (some (.int 1))) t = true) :
    ArmFor flags0 classFile x code maxLocals ret World_1 tables_1 room_1 Calls_1 rest_1 Pre_1
      (fun tb e a s o t => postC L tb e a s o t ∧ Framed s o t (fieldLocs frame_1_writes a s ++ arrayLocs frame_1_arrays a s ++ staticLocs frame_1_statics s) 12 258) := by
  intro l _ _ _ p e ha hc hk s m args below hf hfit hheap happ hpre
  obtain ⟨k, o, h1, h2, h3, rfl, hF⟩ := lw_comes l p e ha hc hk s m args below hf hfit hheap happ hpre
  exact ⟨k, _, h1, h2, h3, hL args s _, lw_frame hF⟩
theorem i_vc : Claimed_1_1 ∧ Claimed_1_2 := ⟨lw_limb limb_1_1 (fun args s t => by simp [limb_1_1, Cond.after, Cond.holds, Cond.value]), lw_limb limb_1_2 (fun args s t => Cond.after_iff.mpr (by
  first | (rw [show limb_1_2 = Cond.eq .result (.int 1) from rfl, Cond.eq_ints (x := 1) (y := 1) rfl rfl]; simp; done) | (simp [limb_1_2, Cond.value, Term.eval]; done)))⟩
end
