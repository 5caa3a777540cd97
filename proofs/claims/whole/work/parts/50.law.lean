/-! THE CLAIM OUT OF ONE WALK OF THE LAW'S BODY. Your part is whole_start (and what it stands on); all else here is the same for every law, but numbers. -/
def R_law : String := "ChronoTrialsLaw"
def lw_P (b : Addr) (xs : List Int32) (args : Array Value) (s : State) : Prop := args = #[.ref b] ∧ s.IntsAt b xs ∧ xs.length ≤ 3072 ∧ (Jvm.Cond.and given_1 narrow_1).before args s = true
def lw_Q (_ : Array Value) (s : State) (o : Outcome) (t : State) : Prop := o = .returned (some (.int 1)) ∧ Framed s o t [] 12 258
def lw_Z (below : List Frame) (a : Array Value) (s : State) : State → Prop := fun t => ∃ o, t.status = .running ∧ Ended t below o ∧ lw_Q a s o t
/-- the law's own end, with 1 on the stack, nothing written that was there before, its room as the claim has it -/
theorem lw_ret {p : Program} {l : Launch} {e : Env} {s : State} {m : MethodId} {below : List Frame} {meth : Method} {c : Code} {b : Nat} (hx : p.tables.exec = Jvm.exec) (hb : c.code = code) (hr : meth.sig.returnType = ret) (hlocks : meth.locks = false) {pc : Nat} {H : Heap} {ls : Array Slot} (hdg : decode code pc = .ok (.ireturn, 1)) : W p l e room_1 s m #[Value.ref b] below meth c H [] 12 258 (lw_Z below #[Value.ref b] s) (F0 m pc ls [.int 1]) := by
  intro T hT X
  obtain ⟨fs, hret, hrun, hended, hW, hframe⟩ := X.leave (v := some (.int 1)) (hlocks := hlocks) (fun h => by rw [hr] at h; cases h)
  have hmeth' : T.vm.method? m = some meth := X.method'
  refine ⟨T.setFrames fs, ?_, .returned (some (.int 1)), hrun, hended, rfl, ⟨_, rfl⟩, hW, hframe⟩
  jvm_step X.here [X.here.top, hx, hb, hdg, hmeth', hr, ret, narrow_b1]
  (try refine ⟨rfl, ?_⟩); (try refine ⟨rfl, ?_⟩)
  first | (intro acts; rw [hret _ acts rfl rfl rfl]) | rw [hret _ _ rfl rfl rfl]
  exact Steps.refl _
/-- what holds at the law's entry: the machine, the code, the tables' words (any of lw_tbl by 'hts w (by decide +kernel)'), the script of L ints xs at the cell b, what the Statement gives of the start (any of its parts by flat_of_before) -/
def lw_At (p : Program) (s : State) (m : MethodId) (meth : Method) (c : Code) (b L : Nat) (xs : Nat → Int32) : Prop :=
  p.tables.exec = Jvm.exec ∧ c.code = code ∧ meth.sig.returnType = ret ∧ c.maxLocals = 4 ∧ s.vm.findClass R_law = some m.cls ∧ (∀ w ∈ lw_tbl, w.before #[Value.ref b] s = true) ∧ va_X b L xs s s.heap ∧ b < s.heap.size ∧ meth.locks = false ∧ (Jvm.Cond.and given_1 narrow_1).before #[Value.ref b] s = true
set_option maxHeartbeats 4000000 in
set_option maxRecDepth 100000 in
/-- the law's loop: at its head, with i ints read, class and reference hold one state -/
theorem law_loop {p : Program} {l : Launch} {e : Env} {s : State} {m : MethodId} {below : List Frame} {meth : Method} {c : Code} {D : va_G} {A A2 : Nat → Nat} {K K2 : Nat → ClassId} {b L : Nat} {xs : Nat → Int32} (hL : L ≤ 3072) (C0 : lw_At p s m meth c b L xs) (hKX : va_K D vwCl (tX K) s) (hKM : va_K D vwCl (tM K2) s) :
    ∀ (n i : Nat), i ≤ L → L + 1 ≤ i + n → ∀ (S : XS), lawI S → ∀ (H : Heap) (locs : List Loc), va_P D vwCl (wX A K S) H → va_P D vwCl (wM A2 K2 S) H → va_D (fun q : Nat => s.heap.size ≤ q) (wX A K S ++ wM A2 K2 S) → va_S (fun q : Nat => s.heap.size ≤ q) s.heap H locs → ∀ (ls : Array Slot), lv_has ls 4 [(0, .ref b), (1, .ref (A 0)), (2, .ref (A2 0)), (3, .int (nI i))] → W p l e room_1 s m #[Value.ref b] below meth c H locs 12 258 (lw_Z below #[Value.ref b] s) (F0 m 18 ls []) := by
  obtain ⟨hx, hb, hr, hml, hown, hts0, hX, hbl, hlocks, hgv⟩ := C0
  have hown : s.vm.findClass RL = some m.cls := hown
  have hts : ∀ w ∈ wsL_law, w.before #[Value.ref b] s = true := fun w h => hts0 w (wsL_law_in w h)
  have hA : ∀ q : Nat, s.heap.size ≤ q → (fun q : Nat => s.heap.size ≤ q) q := fun _ h => h
  have hbA : ¬ (fun q : Nat => s.heap.size ≤ q) b := Nat.not_le.mpr hbl
  intro n
  induction n with
  | zero =>
    intro i h1 h2
    exact absurd h2 (by omega)
  | succ n ih =>
    intro i hi hin S hI H locs hPX hPM hD hS ls hl
    have K351 : ∀ (S : XS), lawI S → ∀ (H : Heap) (locs : List Loc), i + 6 ≤ L → va_P D vwCl (wX A K S) H → va_P D vwCl (wM A2 K2 S) H → va_D (fun q : Nat => s.heap.size ≤ q) (wX A K S ++ wM A2 K2 S) → va_S (fun q : Nat => s.heap.size ≤ q) s.heap H locs → ∀ (ls : Array Slot), lv_has ls 4 [(0, .ref b), (1, .ref (A 0)), (2, .ref (A2 0)), (3, .int (nI i))] → W p l e room_1 s m #[Value.ref b] below meth c H locs 12 258 (lw_Z below #[Value.ref b] s) (F0 m 351 ls []) := by
      intro S hI H locs hi6 hPX hPM hD hS ls hl
      refine lv_iinc (v := nI (i + 6)) (lv' := [(3, .int (nI (i + 6))), (0, .ref b), (1, .ref (A 0)), (2, .ref (A2 0))]) hx hb dL_law_351 hl (k := 3) rfl (nI_add i 6) (by decide) rfl (fun ls hl => ?_)
      refine lv_goto (tgt := 18) hx hb dL_law_354 (by decide) ?_
      exact ih (i + 6) hi6 (by omega) S hI H locs hPX hPM hD hS ls (lv_sub hl [1, 2, 3, 0] rfl)
    refine lv_iload_n hx hb dL_law_18 rfl (lv_at hl 3 rfl) ?_
    refine lv_aload_n hx hb dL_law_19 rfl (lv_at hl 0 rfl) ?_
    refine va_slen hx hb hX hbl hbA hS dL_law_20 ?_
    refine lv_bipush (v := 6) hx hb dL_law_21 (by decide) ?_
    refine lv_isub hx hb dL_law_23 ?_
    refine lv_icmp_gt (tgt := 357) hx hb dL_law_24 (by decide) (fun c1 => ?_) (fun c1 => ?_)
    · refine lv_iconst (v := 1) hx hb dL_law_357 (by decide) ?_
      refine va_forget (fun q hq => hS.2.2 q hq) ?_
      exact lw_ret hx hb hr hlocks dL_law_358
    have hi6 : i + 6 ≤ L := Nat.not_lt.mp fun q => c1 ((sub6 hL hi).mpr q)
    refine lv_aload_n hx hb dL_law_27 rfl (lv_at hl 0 rfl) ?_
    refine lv_iload_n hx hb dL_law_28 rfl (lv_at hl 3 rfl) ?_
    refine xs_ld (k := i) hx hb hX hbl hbA hS (by omega) (by omega) dL_law_29 ?_
    refine lv_bipush (v := 15) hx hb dL_law_30 (by decide) ?_
    refine lv_iand hx hb dL_law_32 ?_
    obtain ⟨j, hj, ej⟩ := pk_andE (xs i) (m := 15) 4 (by decide)
    rw [ej]
    by_cases w0 : j = 0
    · refine lv_tableIn (tgt := 84) hx hb dL_law_33 (by rw [w0]; decide) (by rw [w0]; decide) (by rw [w0]; rfl) (by decide) ?_
      refine lv_aload_n hx hb dL_law_84 rfl (lv_at hl 1 rfl) ?_
      refine wc_V (sp := (x_admit S)) (w := wX A K) (wc := wX A K S) (wr := (wM A2 K2 S)) ⟨hx, hb, hml, hown, hts⟩ [] [] (c_X0_admit l D A K S hI.1 H.size ) (cwV 0 hts gL_law_X0_admit rfl rfl rfl (by decide +kernel) ⟨(Nat.le_of_ble_eq_true rfl), (Nat.le_of_ble_eq_true rfl)⟩) hKX hPX hPM hD hS hA [0, 1, 2, 3, 4, 5] [6, 7, 8, 9, 10, 11] rfl rfl (by decide) (by decide) (by decide) (va_recv hKX hPX (ci := 0) (q0 := 0) rfl rfl) rfl hl.1 rfl (Nat.le_of_ble_eq_true rfl) ⟨(Nat.le_of_ble_eq_true rfl), (Nat.le_of_ble_eq_true rfl)⟩ dL_law_85 (fun H locs hPX hPM hD hS => ?_)
      refine lv_aload_n hx hb dL_law_88 rfl (lv_at hl 2 rfl) ?_
      refine wc_V (sp := (m_admit S)) (w := wM A2 K2) (wc := wM A2 K2 S) (wr := (wX A K (x_admit S).2)) ⟨hx, hb, hml, hown, hts⟩ [] [.int ((x_admit S).1)] (c_X1_admit l D A2 K2 S hI.1 H.size ) (cwV 0 hts gL_law_X1_admit rfl rfl rfl (by decide +kernel) ⟨(Nat.le_of_ble_eq_true rfl), (Nat.le_of_ble_eq_true rfl)⟩) hKM hPM hPX hD hS hA [0, 1, 2, 3, 4, 5] [6, 7, 8, 9, 10, 11] rfl rfl (by decide) (by decide) (by decide) (va_recv hKM hPM (ci := 1) (q0 := 0) rfl rfl) rfl hl.1 rfl (Nat.le_of_ble_eq_true rfl) ⟨(Nat.le_of_ble_eq_true rfl), (Nat.le_of_ble_eq_true rfl)⟩ dL_law_89 (fun H locs hPM hPX hD hS => ?_)
      refine lv_icmp_eq (tgt := 351) hx hb dL_law_92 (by decide) (fun _ => ?_) (fun cq => absurd (congrArg Prod.fst (E_admit S hI)) cq)
      rw [← E_admit S hI] at hPM hD
      exact K351 (x_admit S).2 (I_admit S hI) H locs hi6 hPX hPM hD hS ls hl
    by_cases w1 : j = 1
    · refine lv_tableIn (tgt := 97) hx hb dL_law_33 (by rw [w1]; decide) (by rw [w1]; decide) (by rw [w1]; rfl) (by decide) ?_
      refine lv_aload_n hx hb dL_law_97 rfl (lv_at hl 1 rfl) ?_
      refine lv_aload_n hx hb dL_law_98 rfl (lv_at hl 0 rfl) ?_
      refine lv_iload_n hx hb dL_law_99 rfl (lv_at hl 3 rfl) ?_
      refine lv_iconst (v := 1) hx hb dL_law_100 (by decide) ?_
      refine xn_add (i := i) (j := 1) hx hb dL_law_101 ?_
      refine xs_ld (k := i + 1) hx hb hX hbl hbA hS (by omega) (by omega) dL_law_102 ?_
      refine wc_V (sp := (x_prize S (xs (i + 1)))) (w := wX A K) (wc := wX A K S) (wr := (wM A2 K2 S)) ⟨hx, hb, hml, hown, hts⟩ [.int (xs (i + 1))] [] (c_X0_prize l D A K S hI.1 H.size (xs (i + 1))) (cwV 1 hts gL_law_X0_prize rfl rfl rfl (by decide +kernel) ⟨(Nat.le_of_ble_eq_true rfl), (Nat.le_of_ble_eq_true rfl)⟩) hKX hPX hPM hD hS hA [0, 1, 2, 3, 4, 5] [6, 7, 8, 9, 10, 11] rfl rfl (by decide) (by decide) (by decide) (va_recv hKX hPX (ci := 0) (q0 := 0) rfl rfl) rfl hl.1 rfl (Nat.le_of_ble_eq_true rfl) ⟨(Nat.le_of_ble_eq_true rfl), (Nat.le_of_ble_eq_true rfl)⟩ dL_law_103 (fun H locs hPX hPM hD hS => ?_)
      refine lv_aload_n hx hb dL_law_106 rfl (lv_at hl 2 rfl) ?_
      refine lv_aload_n hx hb dL_law_107 rfl (lv_at hl 0 rfl) ?_
      refine lv_iload_n hx hb dL_law_108 rfl (lv_at hl 3 rfl) ?_
      refine lv_iconst (v := 1) hx hb dL_law_109 (by decide) ?_
      refine xn_add (i := i) (j := 1) hx hb dL_law_110 ?_
      refine xs_ld (k := i + 1) hx hb hX hbl hbA hS (by omega) (by omega) dL_law_111 ?_
      refine wc_V (sp := (m_prize S (xs (i + 1)))) (w := wM A2 K2) (wc := wM A2 K2 S) (wr := (wX A K (x_prize S (xs (i + 1))).2)) ⟨hx, hb, hml, hown, hts⟩ [.int (xs (i + 1))] [.int ((x_prize S (xs (i + 1))).1)] (c_X1_prize l D A2 K2 S hI.1 H.size (xs (i + 1))) (cwV 1 hts gL_law_X1_prize rfl rfl rfl (by decide +kernel) ⟨(Nat.le_of_ble_eq_true rfl), (Nat.le_of_ble_eq_true rfl)⟩) hKM hPM hPX hD hS hA [0, 1, 2, 3, 4, 5] [6, 7, 8, 9, 10, 11] rfl rfl (by decide) (by decide) (by decide) (va_recv hKM hPM (ci := 1) (q0 := 0) rfl rfl) rfl hl.1 rfl (Nat.le_of_ble_eq_true rfl) ⟨(Nat.le_of_ble_eq_true rfl), (Nat.le_of_ble_eq_true rfl)⟩ dL_law_112 (fun H locs hPM hPX hD hS => ?_)
      refine lv_icmp_eq (tgt := 351) hx hb dL_law_115 (by decide) (fun _ => ?_) (fun cq => absurd (congrArg Prod.fst (E_prize S (xs (i + 1)))) cq)
      rw [← E_prize S (xs (i + 1))] at hPM hD
      exact K351 (x_prize S (xs (i + 1))).2 (I_prize S (xs (i + 1)) hI) H locs hi6 hPX hPM hD hS ls hl
    by_cases w2 : j = 2
    · refine lv_tableIn (tgt := 120) hx hb dL_law_33 (by rw [w2]; decide) (by rw [w2]; decide) (by rw [w2]; rfl) (by decide) ?_
      refine lv_aload_n hx hb dL_law_120 rfl (lv_at hl 1 rfl) ?_
      refine lv_aload_n hx hb dL_law_121 rfl (lv_at hl 0 rfl) ?_
      refine lv_iload_n hx hb dL_law_122 rfl (lv_at hl 3 rfl) ?_
      refine lv_iconst (v := 1) hx hb dL_law_123 (by decide) ?_
      refine xn_add (i := i) (j := 1) hx hb dL_law_124 ?_
      refine xs_ld (k := i + 1) hx hb hX hbl hbA hS (by omega) (by omega) dL_law_125 ?_
      refine wc_V (sp := (x_frost S (xs (i + 1)))) (w := wX A K) (wc := wX A K S) (wr := (wM A2 K2 S)) ⟨hx, hb, hml, hown, hts⟩ [.int (xs (i + 1))] [] (c_X0_frost l D A K S hI.1 H.size (xs (i + 1))) (cwV 1 hts gL_law_X0_frost rfl rfl rfl (by decide +kernel) ⟨(Nat.le_of_ble_eq_true rfl), (Nat.le_of_ble_eq_true rfl)⟩) hKX hPX hPM hD hS hA [0, 1, 2, 3, 4, 5] [6, 7, 8, 9, 10, 11] rfl rfl (by decide) (by decide) (by decide) (va_recv hKX hPX (ci := 0) (q0 := 0) rfl rfl) rfl hl.1 rfl (Nat.le_of_ble_eq_true rfl) ⟨(Nat.le_of_ble_eq_true rfl), (Nat.le_of_ble_eq_true rfl)⟩ dL_law_126 (fun H locs hPX hPM hD hS => ?_)
      refine lv_aload_n hx hb dL_law_129 rfl (lv_at hl 2 rfl) ?_
      refine lv_aload_n hx hb dL_law_130 rfl (lv_at hl 0 rfl) ?_
      refine lv_iload_n hx hb dL_law_131 rfl (lv_at hl 3 rfl) ?_
      refine lv_iconst (v := 1) hx hb dL_law_132 (by decide) ?_
      refine xn_add (i := i) (j := 1) hx hb dL_law_133 ?_
      refine xs_ld (k := i + 1) hx hb hX hbl hbA hS (by omega) (by omega) dL_law_134 ?_
      refine wc_V (sp := (m_frost S (xs (i + 1)))) (w := wM A2 K2) (wc := wM A2 K2 S) (wr := (wX A K (x_frost S (xs (i + 1))).2)) ⟨hx, hb, hml, hown, hts⟩ [.int (xs (i + 1))] [.int ((x_frost S (xs (i + 1))).1)] (c_X1_frost l D A2 K2 S hI.1 H.size (xs (i + 1))) (cwV 1 hts gL_law_X1_frost rfl rfl rfl (by decide +kernel) ⟨(Nat.le_of_ble_eq_true rfl), (Nat.le_of_ble_eq_true rfl)⟩) hKM hPM hPX hD hS hA [0, 1, 2, 3, 4, 5] [6, 7, 8, 9, 10, 11] rfl rfl (by decide) (by decide) (by decide) (va_recv hKM hPM (ci := 1) (q0 := 0) rfl rfl) rfl hl.1 rfl (Nat.le_of_ble_eq_true rfl) ⟨(Nat.le_of_ble_eq_true rfl), (Nat.le_of_ble_eq_true rfl)⟩ dL_law_135 (fun H locs hPM hPX hD hS => ?_)
      refine lv_icmp_eq (tgt := 351) hx hb dL_law_138 (by decide) (fun _ => ?_) (fun cq => absurd (congrArg Prod.fst (E_frost S (xs (i + 1)))) cq)
      rw [← E_frost S (xs (i + 1))] at hPM hD
      exact K351 (x_frost S (xs (i + 1))).2 (I_frost S (xs (i + 1)) hI) H locs hi6 hPX hPM hD hS ls hl
    by_cases w3 : j = 3
    · refine lv_tableIn (tgt := 143) hx hb dL_law_33 (by rw [w3]; decide) (by rw [w3]; decide) (by rw [w3]; rfl) (by decide) ?_
      refine lv_aload_n hx hb dL_law_143 rfl (lv_at hl 1 rfl) ?_
      refine lv_aload_n hx hb dL_law_144 rfl (lv_at hl 0 rfl) ?_
      refine lv_iload_n hx hb dL_law_145 rfl (lv_at hl 3 rfl) ?_
      refine lv_iconst (v := 1) hx hb dL_law_146 (by decide) ?_
      refine xn_add (i := i) (j := 1) hx hb dL_law_147 ?_
      refine xs_ld (k := i + 1) hx hb hX hbl hbA hS (by omega) (by omega) dL_law_148 ?_
      refine lv_aload_n hx hb dL_law_149 rfl (lv_at hl 0 rfl) ?_
      refine lv_iload_n hx hb dL_law_150 rfl (lv_at hl 3 rfl) ?_
      refine lv_iconst (v := 2) hx hb dL_law_151 (by decide) ?_
      refine xn_add (i := i) (j := 2) hx hb dL_law_152 ?_
      refine xs_ld (k := i + 2) hx hb hX hbl hbA hS (by omega) (by omega) dL_law_153 ?_
      refine lv_aload_n hx hb dL_law_154 rfl (lv_at hl 0 rfl) ?_
      refine lv_iload_n hx hb dL_law_155 rfl (lv_at hl 3 rfl) ?_
      refine lv_iconst (v := 3) hx hb dL_law_156 (by decide) ?_
      refine xn_add (i := i) (j := 3) hx hb dL_law_157 ?_
      refine xs_ld (k := i + 3) hx hb hX hbl hbA hS (by omega) (by omega) dL_law_158 ?_
      refine wc_V (sp := (x_trial S (xs (i + 1)) (xs (i + 2)) (xs (i + 3)))) (w := wX A K) (wc := wX A K S) (wr := (wM A2 K2 S)) ⟨hx, hb, hml, hown, hts⟩ [.int (xs (i + 1)), .int (xs (i + 2)), .int (xs (i + 3))] [] (c_X0_trial l D A K S hI.1 H.size (xs (i + 1)) (xs (i + 2)) (xs (i + 3))) (cwV 3 hts gL_law_X0_trial rfl rfl rfl (by decide +kernel) ⟨(Nat.le_of_ble_eq_true rfl), (Nat.le_of_ble_eq_true rfl)⟩) hKX hPX hPM hD hS hA [0, 1, 2, 3, 4, 5] [6, 7, 8, 9, 10, 11] rfl rfl (by decide) (by decide) (by decide) (va_recv hKX hPX (ci := 0) (q0 := 0) rfl rfl) rfl hl.1 rfl (Nat.le_of_ble_eq_true rfl) ⟨(Nat.le_of_ble_eq_true rfl), (Nat.le_of_ble_eq_true rfl)⟩ dL_law_159 (fun H locs hPX hPM hD hS => ?_)
      refine lv_aload_n hx hb dL_law_162 rfl (lv_at hl 2 rfl) ?_
      refine lv_aload_n hx hb dL_law_163 rfl (lv_at hl 0 rfl) ?_
      refine lv_iload_n hx hb dL_law_164 rfl (lv_at hl 3 rfl) ?_
      refine lv_iconst (v := 1) hx hb dL_law_165 (by decide) ?_
      refine xn_add (i := i) (j := 1) hx hb dL_law_166 ?_
      refine xs_ld (k := i + 1) hx hb hX hbl hbA hS (by omega) (by omega) dL_law_167 ?_
      refine lv_aload_n hx hb dL_law_168 rfl (lv_at hl 0 rfl) ?_
      refine lv_iload_n hx hb dL_law_169 rfl (lv_at hl 3 rfl) ?_
      refine lv_iconst (v := 2) hx hb dL_law_170 (by decide) ?_
      refine xn_add (i := i) (j := 2) hx hb dL_law_171 ?_
      refine xs_ld (k := i + 2) hx hb hX hbl hbA hS (by omega) (by omega) dL_law_172 ?_
      refine lv_aload_n hx hb dL_law_173 rfl (lv_at hl 0 rfl) ?_
      refine lv_iload_n hx hb dL_law_174 rfl (lv_at hl 3 rfl) ?_
      refine lv_iconst (v := 3) hx hb dL_law_175 (by decide) ?_
      refine xn_add (i := i) (j := 3) hx hb dL_law_176 ?_
      refine xs_ld (k := i + 3) hx hb hX hbl hbA hS (by omega) (by omega) dL_law_177 ?_
      refine wc_V (sp := (m_trial S (xs (i + 1)) (xs (i + 2)) (xs (i + 3)))) (w := wM A2 K2) (wc := wM A2 K2 S) (wr := (wX A K (x_trial S (xs (i + 1)) (xs (i + 2)) (xs (i + 3))).2)) ⟨hx, hb, hml, hown, hts⟩ [.int (xs (i + 1)), .int (xs (i + 2)), .int (xs (i + 3))] [.int ((x_trial S (xs (i + 1)) (xs (i + 2)) (xs (i + 3))).1)] (c_X1_trial l D A2 K2 S hI.1 H.size (xs (i + 1)) (xs (i + 2)) (xs (i + 3))) (cwV 3 hts gL_law_X1_trial rfl rfl rfl (by decide +kernel) ⟨(Nat.le_of_ble_eq_true rfl), (Nat.le_of_ble_eq_true rfl)⟩) hKM hPM hPX hD hS hA [0, 1, 2, 3, 4, 5] [6, 7, 8, 9, 10, 11] rfl rfl (by decide) (by decide) (by decide) (va_recv hKM hPM (ci := 1) (q0 := 0) rfl rfl) rfl hl.1 rfl (Nat.le_of_ble_eq_true rfl) ⟨(Nat.le_of_ble_eq_true rfl), (Nat.le_of_ble_eq_true rfl)⟩ dL_law_178 (fun H locs hPM hPX hD hS => ?_)
      refine lv_icmp_eq (tgt := 351) hx hb dL_law_181 (by decide) (fun _ => ?_) (fun cq => absurd (congrArg Prod.fst (E_trial S hI.1 (xs (i + 1)) (xs (i + 2)) (xs (i + 3)))) cq)
      rw [← E_trial S hI.1 (xs (i + 1)) (xs (i + 2)) (xs (i + 3))] at hPM hD
      exact K351 (x_trial S (xs (i + 1)) (xs (i + 2)) (xs (i + 3))).2 (I_trial S (xs (i + 1)) (xs (i + 2)) (xs (i + 3)) hI) H locs hi6 hPX hPM hD hS ls hl
    by_cases w4 : j = 4
    · refine lv_tableIn (tgt := 186) hx hb dL_law_33 (by rw [w4]; decide) (by rw [w4]; decide) (by rw [w4]; rfl) (by decide) ?_
      refine lv_aload_n hx hb dL_law_186 rfl (lv_at hl 1 rfl) ?_
      refine lv_aload_n hx hb dL_law_187 rfl (lv_at hl 0 rfl) ?_
      refine lv_iload_n hx hb dL_law_188 rfl (lv_at hl 3 rfl) ?_
      refine lv_iconst (v := 1) hx hb dL_law_189 (by decide) ?_
      refine xn_add (i := i) (j := 1) hx hb dL_law_190 ?_
      refine xs_ld (k := i + 1) hx hb hX hbl hbA hS (by omega) (by omega) dL_law_191 ?_
      refine wc_V (sp := (x_annul S (xs (i + 1)))) (w := wX A K) (wc := wX A K S) (wr := (wM A2 K2 S)) ⟨hx, hb, hml, hown, hts⟩ [.int (xs (i + 1))] [] (c_X0_annul l D A K S hI.1 H.size (xs (i + 1))) (cwV 1 hts gL_law_X0_annul rfl rfl rfl (by decide +kernel) ⟨(Nat.le_of_ble_eq_true rfl), (Nat.le_of_ble_eq_true rfl)⟩) hKX hPX hPM hD hS hA [0, 1, 2, 3, 4, 5] [6, 7, 8, 9, 10, 11] rfl rfl (by decide) (by decide) (by decide) (va_recv hKX hPX (ci := 0) (q0 := 0) rfl rfl) rfl hl.1 rfl (Nat.le_of_ble_eq_true rfl) ⟨(Nat.le_of_ble_eq_true rfl), (Nat.le_of_ble_eq_true rfl)⟩ dL_law_192 (fun H locs hPX hPM hD hS => ?_)
      refine lv_aload_n hx hb dL_law_195 rfl (lv_at hl 2 rfl) ?_
      refine lv_aload_n hx hb dL_law_196 rfl (lv_at hl 0 rfl) ?_
      refine lv_iload_n hx hb dL_law_197 rfl (lv_at hl 3 rfl) ?_
      refine lv_iconst (v := 1) hx hb dL_law_198 (by decide) ?_
      refine xn_add (i := i) (j := 1) hx hb dL_law_199 ?_
      refine xs_ld (k := i + 1) hx hb hX hbl hbA hS (by omega) (by omega) dL_law_200 ?_
      refine wc_V (sp := (x_annul S (xs (i + 1)))) (w := wM A2 K2) (wc := wM A2 K2 S) (wr := (wX A K (x_annul S (xs (i + 1))).2)) ⟨hx, hb, hml, hown, hts⟩ [.int (xs (i + 1))] [.int ((x_annul S (xs (i + 1))).1)] (c_X1_annul l D A2 K2 S hI.1 H.size (xs (i + 1))) (cwV 1 hts gL_law_X1_annul rfl rfl rfl (by decide +kernel) ⟨(Nat.le_of_ble_eq_true rfl), (Nat.le_of_ble_eq_true rfl)⟩) hKM hPM hPX hD hS hA [0, 1, 2, 3, 4, 5] [6, 7, 8, 9, 10, 11] rfl rfl (by decide) (by decide) (by decide) (va_recv hKM hPM (ci := 1) (q0 := 0) rfl rfl) rfl hl.1 rfl (Nat.le_of_ble_eq_true rfl) ⟨(Nat.le_of_ble_eq_true rfl), (Nat.le_of_ble_eq_true rfl)⟩ dL_law_201 (fun H locs hPM hPX hD hS => ?_)
      refine lv_icmp_eq (tgt := 351) hx hb dL_law_204 (by decide) (fun _ => ?_) (fun cq => absurd (rfl) cq)
      exact K351 (x_annul S (xs (i + 1))).2 (I_annul S (xs (i + 1)) hI) H locs hi6 hPX hPM hD hS ls hl
    by_cases w5 : j = 5
    · refine lv_tableIn (tgt := 209) hx hb dL_law_33 (by rw [w5]; decide) (by rw [w5]; decide) (by rw [w5]; rfl) (by decide) ?_
      refine lv_aload_n hx hb dL_law_209 rfl (lv_at hl 1 rfl) ?_
      refine lv_aload_n hx hb dL_law_210 rfl (lv_at hl 0 rfl) ?_
      refine lv_iload_n hx hb dL_law_211 rfl (lv_at hl 3 rfl) ?_
      refine lv_iconst (v := 1) hx hb dL_law_212 (by decide) ?_
      refine xn_add (i := i) (j := 1) hx hb dL_law_213 ?_
      refine xs_ld (k := i + 1) hx hb hX hbl hbA hS (by omega) (by omega) dL_law_214 ?_
      refine rc_V (v := (x_place S (xs (i + 1)))) ⟨hx, hb, hml, hown, hts⟩ [.int (xs (i + 1))] [] (c_X0_place l D A K S hI.1 (xs (i + 1))) (cwV 1 hts gL_law_X0_place rfl rfl rfl (by decide +kernel) ⟨(Nat.le_of_ble_eq_true rfl), (Nat.le_of_ble_eq_true rfl)⟩) hKX hPX (va_recv hKX hPX (ci := 0) (q0 := 0) rfl rfl) rfl hl.1 rfl (Nat.le_of_ble_eq_true rfl) ⟨(Nat.le_of_ble_eq_true rfl), (Nat.le_of_ble_eq_true rfl)⟩ dL_law_215 ?_
      refine lv_aload_n hx hb dL_law_218 rfl (lv_at hl 2 rfl) ?_
      refine lv_aload_n hx hb dL_law_219 rfl (lv_at hl 0 rfl) ?_
      refine lv_iload_n hx hb dL_law_220 rfl (lv_at hl 3 rfl) ?_
      refine lv_iconst (v := 1) hx hb dL_law_221 (by decide) ?_
      refine xn_add (i := i) (j := 1) hx hb dL_law_222 ?_
      refine xs_ld (k := i + 1) hx hb hX hbl hbA hS (by omega) (by omega) dL_law_223 ?_
      refine rc_V (v := (m_place S (xs (i + 1)))) ⟨hx, hb, hml, hown, hts⟩ [.int (xs (i + 1))] [.int (x_place S (xs (i + 1)))] (c_X1_place l D A2 K2 S hI.1 (xs (i + 1))) (cwV 1 hts gL_law_X1_place rfl rfl rfl (by decide +kernel) ⟨(Nat.le_of_ble_eq_true rfl), (Nat.le_of_ble_eq_true rfl)⟩) hKM hPM (va_recv hKM hPM (ci := 1) (q0 := 0) rfl rfl) rfl hl.1 rfl (Nat.le_of_ble_eq_true rfl) ⟨(Nat.le_of_ble_eq_true rfl), (Nat.le_of_ble_eq_true rfl)⟩ dL_law_224 ?_
      refine lv_icmp_eq (tgt := 351) hx hb dL_law_227 (by decide) (fun _ => ?_) (fun cq => absurd (E_place S hI.1 (xs (i + 1))) cq)
      exact K351 S hI H locs hi6 hPX hPM hD hS ls hl
    by_cases w6 : j = 6
    · refine lv_tableIn (tgt := 232) hx hb dL_law_33 (by rw [w6]; decide) (by rw [w6]; decide) (by rw [w6]; rfl) (by decide) ?_
      refine lv_aload_n hx hb dL_law_232 rfl (lv_at hl 1 rfl) ?_
      refine lv_aload_n hx hb dL_law_233 rfl (lv_at hl 0 rfl) ?_
      refine lv_iload_n hx hb dL_law_234 rfl (lv_at hl 3 rfl) ?_
      refine lv_iconst (v := 1) hx hb dL_law_235 (by decide) ?_
      refine xn_add (i := i) (j := 1) hx hb dL_law_236 ?_
      refine xs_ld (k := i + 1) hx hb hX hbl hbA hS (by omega) (by omega) dL_law_237 ?_
      refine lv_aload_n hx hb dL_law_238 rfl (lv_at hl 0 rfl) ?_
      refine lv_iload_n hx hb dL_law_239 rfl (lv_at hl 3 rfl) ?_
      refine lv_iconst (v := 2) hx hb dL_law_240 (by decide) ?_
      refine xn_add (i := i) (j := 2) hx hb dL_law_241 ?_
      refine xs_ld (k := i + 2) hx hb hX hbl hbA hS (by omega) (by omega) dL_law_242 ?_
      refine rc_V (v := (x_tell S (xs (i + 1)) (xs (i + 2)))) ⟨hx, hb, hml, hown, hts⟩ [.int (xs (i + 1)), .int (xs (i + 2))] [] (c_X0_tell l D A K S hI.1 (xs (i + 1)) (xs (i + 2))) (cwV 2 hts gL_law_X0_tell rfl rfl rfl (by decide +kernel) ⟨(Nat.le_of_ble_eq_true rfl), (Nat.le_of_ble_eq_true rfl)⟩) hKX hPX (va_recv hKX hPX (ci := 0) (q0 := 0) rfl rfl) rfl hl.1 rfl (Nat.le_of_ble_eq_true rfl) ⟨(Nat.le_of_ble_eq_true rfl), (Nat.le_of_ble_eq_true rfl)⟩ dL_law_243 ?_
      refine lv_aload_n hx hb dL_law_246 rfl (lv_at hl 2 rfl) ?_
      refine lv_aload_n hx hb dL_law_247 rfl (lv_at hl 0 rfl) ?_
      refine lv_iload_n hx hb dL_law_248 rfl (lv_at hl 3 rfl) ?_
      refine lv_iconst (v := 1) hx hb dL_law_249 (by decide) ?_
      refine xn_add (i := i) (j := 1) hx hb dL_law_250 ?_
      refine xs_ld (k := i + 1) hx hb hX hbl hbA hS (by omega) (by omega) dL_law_251 ?_
      refine lv_aload_n hx hb dL_law_252 rfl (lv_at hl 0 rfl) ?_
      refine lv_iload_n hx hb dL_law_253 rfl (lv_at hl 3 rfl) ?_
      refine lv_iconst (v := 2) hx hb dL_law_254 (by decide) ?_
      refine xn_add (i := i) (j := 2) hx hb dL_law_255 ?_
      refine xs_ld (k := i + 2) hx hb hX hbl hbA hS (by omega) (by omega) dL_law_256 ?_
      refine rc_V (v := (m_tell S (xs (i + 1)) (xs (i + 2)))) ⟨hx, hb, hml, hown, hts⟩ [.int (xs (i + 1)), .int (xs (i + 2))] [.int (x_tell S (xs (i + 1)) (xs (i + 2)))] (c_X1_tell l D A2 K2 S hI.1 (xs (i + 1)) (xs (i + 2))) (cwV 2 hts gL_law_X1_tell rfl rfl rfl (by decide +kernel) ⟨(Nat.le_of_ble_eq_true rfl), (Nat.le_of_ble_eq_true rfl)⟩) hKM hPM (va_recv hKM hPM (ci := 1) (q0 := 0) rfl rfl) rfl hl.1 rfl (Nat.le_of_ble_eq_true rfl) ⟨(Nat.le_of_ble_eq_true rfl), (Nat.le_of_ble_eq_true rfl)⟩ dL_law_257 ?_
      refine lv_icmp_eq (tgt := 351) hx hb dL_law_260 (by decide) (fun _ => ?_) (fun cq => absurd (E_tell S (xs (i + 1)) (xs (i + 2))) cq)
      exact K351 S hI H locs hi6 hPX hPM hD hS ls hl
    by_cases w7 : j = 7
    · refine lv_tableIn (tgt := 265) hx hb dL_law_33 (by rw [w7]; decide) (by rw [w7]; decide) (by rw [w7]; rfl) (by decide) ?_
      refine lv_aload_n hx hb dL_law_265 rfl (lv_at hl 1 rfl) ?_
      refine lv_aload_n hx hb dL_law_266 rfl (lv_at hl 0 rfl) ?_
      refine lv_iload_n hx hb dL_law_267 rfl (lv_at hl 3 rfl) ?_
      refine lv_iconst (v := 1) hx hb dL_law_268 (by decide) ?_
      refine xn_add (i := i) (j := 1) hx hb dL_law_269 ?_
      refine xs_ld (k := i + 1) hx hb hX hbl hbA hS (by omega) (by omega) dL_law_270 ?_
      refine lv_aload_n hx hb dL_law_271 rfl (lv_at hl 0 rfl) ?_
      refine lv_iload_n hx hb dL_law_272 rfl (lv_at hl 3 rfl) ?_
      refine lv_iconst (v := 2) hx hb dL_law_273 (by decide) ?_
      refine xn_add (i := i) (j := 2) hx hb dL_law_274 ?_
      refine xs_ld (k := i + 2) hx hb hX hbl hbA hS (by omega) (by omega) dL_law_275 ?_
      refine lv_aload_n hx hb dL_law_276 rfl (lv_at hl 0 rfl) ?_
      refine lv_iload_n hx hb dL_law_277 rfl (lv_at hl 3 rfl) ?_
      refine lv_iconst (v := 3) hx hb dL_law_278 (by decide) ?_
      refine xn_add (i := i) (j := 3) hx hb dL_law_279 ?_
      refine xs_ld (k := i + 3) hx hb hX hbl hbA hS (by omega) (by omega) dL_law_280 ?_
      refine lv_aload_n hx hb dL_law_281 rfl (lv_at hl 0 rfl) ?_
      refine lv_iload_n hx hb dL_law_282 rfl (lv_at hl 3 rfl) ?_
      refine lv_iconst (v := 4) hx hb dL_law_283 (by decide) ?_
      refine xn_add (i := i) (j := 4) hx hb dL_law_284 ?_
      refine xs_ld (k := i + 4) hx hb hX hbl hbA hS (by omega) (by omega) dL_law_285 ?_
      refine lv_aload_n hx hb dL_law_286 rfl (lv_at hl 0 rfl) ?_
      refine lv_iload_n hx hb dL_law_287 rfl (lv_at hl 3 rfl) ?_
      refine lv_iconst (v := 5) hx hb dL_law_288 (by decide) ?_
      refine xn_add (i := i) (j := 5) hx hb dL_law_289 ?_
      refine xs_ld (k := i + 5) hx hb hX hbl hbA hS (by omega) (by omega) dL_law_290 ?_
      refine wc_V (sp := (x_ask S (xs (i + 1)) (xs (i + 2)) (xs (i + 3)) (xs (i + 4)) (xs (i + 5)))) (w := wX A K) (wc := wX A K S) (wr := (wM A2 K2 S)) ⟨hx, hb, hml, hown, hts⟩ [.int (xs (i + 1)), .int (xs (i + 2)), .int (xs (i + 3)), .int (xs (i + 4)), .int (xs (i + 5))] [] (c_X0_ask l D A K S hI.1 H.size (xs (i + 1)) (xs (i + 2)) (xs (i + 3)) (xs (i + 4)) (xs (i + 5))) (cwV 5 hts gL_law_X0_ask rfl rfl rfl (by decide +kernel) ⟨(Nat.le_of_ble_eq_true rfl), (Nat.le_of_ble_eq_true rfl)⟩) hKX hPX hPM hD hS hA [0, 1, 2, 3, 4, 5] [6, 7, 8, 9, 10, 11] rfl rfl (by decide) (by decide) (by decide) (va_recv hKX hPX (ci := 0) (q0 := 0) rfl rfl) rfl hl.1 rfl (Nat.le_of_ble_eq_true rfl) ⟨(Nat.le_of_ble_eq_true rfl), (Nat.le_of_ble_eq_true rfl)⟩ dL_law_291 (fun H locs hPX hPM hD hS => ?_)
      refine lv_aload_n hx hb dL_law_294 rfl (lv_at hl 2 rfl) ?_
      refine lv_aload_n hx hb dL_law_295 rfl (lv_at hl 0 rfl) ?_
      refine lv_iload_n hx hb dL_law_296 rfl (lv_at hl 3 rfl) ?_
      refine lv_iconst (v := 1) hx hb dL_law_297 (by decide) ?_
      refine xn_add (i := i) (j := 1) hx hb dL_law_298 ?_
      refine xs_ld (k := i + 1) hx hb hX hbl hbA hS (by omega) (by omega) dL_law_299 ?_
      refine lv_aload_n hx hb dL_law_300 rfl (lv_at hl 0 rfl) ?_
      refine lv_iload_n hx hb dL_law_301 rfl (lv_at hl 3 rfl) ?_
      refine lv_iconst (v := 2) hx hb dL_law_302 (by decide) ?_
      refine xn_add (i := i) (j := 2) hx hb dL_law_303 ?_
      refine xs_ld (k := i + 2) hx hb hX hbl hbA hS (by omega) (by omega) dL_law_304 ?_
      refine lv_aload_n hx hb dL_law_305 rfl (lv_at hl 0 rfl) ?_
      refine lv_iload_n hx hb dL_law_306 rfl (lv_at hl 3 rfl) ?_
      refine lv_iconst (v := 3) hx hb dL_law_307 (by decide) ?_
      refine xn_add (i := i) (j := 3) hx hb dL_law_308 ?_
      refine xs_ld (k := i + 3) hx hb hX hbl hbA hS (by omega) (by omega) dL_law_309 ?_
      refine lv_aload_n hx hb dL_law_310 rfl (lv_at hl 0 rfl) ?_
      refine lv_iload_n hx hb dL_law_311 rfl (lv_at hl 3 rfl) ?_
      refine lv_iconst (v := 4) hx hb dL_law_312 (by decide) ?_
      refine xn_add (i := i) (j := 4) hx hb dL_law_313 ?_
      refine xs_ld (k := i + 4) hx hb hX hbl hbA hS (by omega) (by omega) dL_law_314 ?_
      refine lv_aload_n hx hb dL_law_315 rfl (lv_at hl 0 rfl) ?_
      refine lv_iload_n hx hb dL_law_316 rfl (lv_at hl 3 rfl) ?_
      refine lv_iconst (v := 5) hx hb dL_law_317 (by decide) ?_
      refine xn_add (i := i) (j := 5) hx hb dL_law_318 ?_
      refine xs_ld (k := i + 5) hx hb hX hbl hbA hS (by omega) (by omega) dL_law_319 ?_
      refine wc_V (sp := (m_ask S (xs (i + 1)) (xs (i + 2)) (xs (i + 3)) (xs (i + 4)) (xs (i + 5)))) (w := wM A2 K2) (wc := wM A2 K2 S) (wr := (wX A K (x_ask S (xs (i + 1)) (xs (i + 2)) (xs (i + 3)) (xs (i + 4)) (xs (i + 5))).2)) ⟨hx, hb, hml, hown, hts⟩ [.int (xs (i + 1)), .int (xs (i + 2)), .int (xs (i + 3)), .int (xs (i + 4)), .int (xs (i + 5))] [.int ((x_ask S (xs (i + 1)) (xs (i + 2)) (xs (i + 3)) (xs (i + 4)) (xs (i + 5))).1)] (c_X1_ask l D A2 K2 S hI.1 H.size (xs (i + 1)) (xs (i + 2)) (xs (i + 3)) (xs (i + 4)) (xs (i + 5))) (cwV 5 hts gL_law_X1_ask rfl rfl rfl (by decide +kernel) ⟨(Nat.le_of_ble_eq_true rfl), (Nat.le_of_ble_eq_true rfl)⟩) hKM hPM hPX hD hS hA [0, 1, 2, 3, 4, 5] [6, 7, 8, 9, 10, 11] rfl rfl (by decide) (by decide) (by decide) (va_recv hKM hPM (ci := 1) (q0 := 0) rfl rfl) rfl hl.1 rfl (Nat.le_of_ble_eq_true rfl) ⟨(Nat.le_of_ble_eq_true rfl), (Nat.le_of_ble_eq_true rfl)⟩ dL_law_320 (fun H locs hPM hPX hD hS => ?_)
      refine lv_icmp_eq (tgt := 351) hx hb dL_law_323 (by decide) (fun _ => ?_) (fun cq => absurd (congrArg Prod.fst (E_ask S (xs (i + 1)) (xs (i + 2)) (xs (i + 3)) (xs (i + 4)) (xs (i + 5)))) cq)
      rw [← E_ask S (xs (i + 1)) (xs (i + 2)) (xs (i + 3)) (xs (i + 4)) (xs (i + 5))] at hPM hD
      exact K351 (x_ask S (xs (i + 1)) (xs (i + 2)) (xs (i + 3)) (xs (i + 4)) (xs (i + 5))).2 (I_ask S (xs (i + 1)) (xs (i + 2)) (xs (i + 3)) (xs (i + 4)) (xs (i + 5)) hI) H locs hi6 hPX hPM hD hS ls hl
    by_cases w8 : j = 8
    · refine lv_tableIn (tgt := 328) hx hb dL_law_33 (by rw [w8]; decide) (by rw [w8]; decide) (by rw [w8]; rfl) (by decide) ?_
      refine lv_aload_n hx hb dL_law_328 rfl (lv_at hl 1 rfl) ?_
      refine lv_aload_n hx hb dL_law_329 rfl (lv_at hl 0 rfl) ?_
      refine lv_iload_n hx hb dL_law_330 rfl (lv_at hl 3 rfl) ?_
      refine lv_iconst (v := 1) hx hb dL_law_331 (by decide) ?_
      refine xn_add (i := i) (j := 1) hx hb dL_law_332 ?_
      refine xs_ld (k := i + 1) hx hb hX hbl hbA hS (by omega) (by omega) dL_law_333 ?_
      refine rc_V (v := (ct (x_first S) S (xs (i + 1)))) ⟨hx, hb, hml, hown, hts⟩ [.int (xs (i + 1))] [] (c_X0_count l D A K S hI.1 (xs (i + 1))) (cwV 1 hts gL_law_X0_count rfl rfl rfl (by decide +kernel) ⟨(Nat.le_of_ble_eq_true rfl), (Nat.le_of_ble_eq_true rfl)⟩) hKX hPX (va_recv hKX hPX (ci := 0) (q0 := 0) rfl rfl) rfl hl.1 rfl (Nat.le_of_ble_eq_true rfl) ⟨(Nat.le_of_ble_eq_true rfl), (Nat.le_of_ble_eq_true rfl)⟩ dL_law_334 ?_
      refine lv_aload_n hx hb dL_law_337 rfl (lv_at hl 2 rfl) ?_
      refine lv_aload_n hx hb dL_law_338 rfl (lv_at hl 0 rfl) ?_
      refine lv_iload_n hx hb dL_law_339 rfl (lv_at hl 3 rfl) ?_
      refine lv_iconst (v := 1) hx hb dL_law_340 (by decide) ?_
      refine xn_add (i := i) (j := 1) hx hb dL_law_341 ?_
      refine xs_ld (k := i + 1) hx hb hX hbl hbA hS (by omega) (by omega) dL_law_342 ?_
      refine rc_V (v := (ct (m_first S) S (xs (i + 1)))) ⟨hx, hb, hml, hown, hts⟩ [.int (xs (i + 1))] [.int (ct (x_first S) S (xs (i + 1)))] (c_X1_count l D A2 K2 S hI.1 (xs (i + 1))) (cwV 1 hts gL_law_X1_count rfl rfl rfl (by decide +kernel) ⟨(Nat.le_of_ble_eq_true rfl), (Nat.le_of_ble_eq_true rfl)⟩) hKM hPM (va_recv hKM hPM (ci := 1) (q0 := 0) rfl rfl) rfl hl.1 rfl (Nat.le_of_ble_eq_true rfl) ⟨(Nat.le_of_ble_eq_true rfl), (Nat.le_of_ble_eq_true rfl)⟩ dL_law_343 ?_
      refine lv_icmp_eq (tgt := 351) hx hb dL_law_346 (by decide) (fun _ => ?_) (fun cq => absurd (congrArg (fun f => ct f S (xs (i + 1))) (E_first S hI.1)) cq)
      exact K351 S hI H locs hi6 hPX hPM hD hS ls hl
    refine lv_tableOut (tgt := 351) hx hb dL_law_33 (Or.inr (by rw [nI_toInt (by omega)]; omega)) (by decide) ?_
    exact K351 S hI H locs hi6 hPX hPM hD hS ls hl
