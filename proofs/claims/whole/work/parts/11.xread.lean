set_option maxHeartbeats 4000000 in
set_option maxRecDepth 100000 in
theorem c_X0_isClock (l : Launch) (D : va_G) (A : Nat → Nat) (K : Nat → ClassId) (S : XS) (hI : x_inv S) (v : Int32) : Met l yX0_isClock wsX0_isClock (rmD 0) (va_Pc [.ref (A 0), .int v] (i_w D vwCl (wX A K S) (tX K))) (vp_Si (fun r => r = (zi (isClk S v)))) 0 0 (fun _ => False) := by
  refine Met.ofW (cc := cX0_isClock) (maxL := 2) (ret := some .boolean) (by decide) rfl ?_
  intro p e s m args below meth c s₁ B hml hv
  obtain ⟨rfl, hP, hK⟩ := hv
  have hx := B.exec
  have hb := B.bytes
  have hr := B.returns
  have hts := atoms_spec (ws := wsX0_isClock) B.pre
  have hown : s.vm.findClass RX0 = some m.cls := findClass_of_methodNamed B.named
  have hlocks := B.notSynchronized
  have hn8 := hI.1
  have hin : ∀ w ∈ u_ws RX0 TX0 9, w ∈ wsX0_isClock := fun w h => List.mem_cons_of_mem _ (List.mem_append_right _ h)
  have f_26 := hts (.fieldLink RX0 26 "ChronoTrials" "clocks" "I") (by decide +kernel)
  have hl := lv_entry ([.ref (A 0), .int v]) (n := 2) (Nat.le_of_ble_eq_true rfl)
  rw [lg_entry_eq]
  generalize (lg_sl ([.ref (A 0), .int v]) ++ List.replicate (2 - (lg_sl ([.ref (A 0), .int v])).length) Slot.unset).toArray = ls at hl ⊢
  have hl : lv_has ls 2 [(0, .ref (A 0)), (1, .int v)] := hl
  refine lv_iload_n hx hb dX0_isClock_0 rfl (lv_at hl 1 rfl) ?_
  refine lv_if_lt (tgt := 16) hx hb dX0_isClock_1 (by decide) (fun c1 => ?_) (fun c1 => ?_)
  · refine lv_iconst (v := 0) hx hb dX0_isClock_16 (by decide) ?_
    exact W.zret (v := zi false) hx hb hr (zi_n _) (fun t ht hW => ⟨_, rfl, by simp [isClk, c1], ht⟩) (fun q h => by cases h) dX0_isClock_17
  · refine lv_iload_n hx hb dX0_isClock_4 rfl (lv_at hl 1 rfl) ?_
    refine lv_aload_n hx hb dX0_isClock_5 rfl (lv_at hl 0 rfl) ?_
    refine va_get (D := D) (ci := 0) (v := .int (nI (s_n S))) (C := RX0) (T := TX0) (N := 9) hx hb hts hin hown hK hP 0 rfl rfl 5 (by decide) f_26 (fun _ h9 => h9) rfl dX0_isClock_6 ?_
    refine lv_icmp_ge (tgt := 16) hx hb dX0_isClock_9 (by decide) (fun c2 => ?_) (fun c2 => ?_)
    · refine lv_iconst (v := 0) hx hb dX0_isClock_16 (by decide) ?_
      exact W.zret (v := zi false) hx hb hr (zi_n _) (fun t ht hW => ⟨_, rfl, by simp [isClk, c1, c2], ht⟩) (fun q h => by cases h) dX0_isClock_17
    · refine lv_iconst (v := 1) hx hb dX0_isClock_12 (by decide) ?_
      refine lv_goto (tgt := 17) hx hb dX0_isClock_13 (by decide) ?_
      exact W.zret (v := zi true) hx hb hr (zi_n _) (fun t ht hW => ⟨_, rfl, by simp [isClk, c1, c2], ht⟩) (fun q h => by cases h) dX0_isClock_17
set_option maxHeartbeats 4000000 in
set_option maxRecDepth 100000 in
theorem c_X0_isCold (l : Launch) (D : va_G) (A : Nat → Nat) (K : Nat → ClassId) (S : XS) (hI : x_inv S) (v : Int32) : Met l yX0_isCold wsX0_isCold (rmD 2) (va_Pc [.ref (A 0), .int v] (i_w D vwCl (wX A K S) (tX K))) (vp_Si (fun r => r = (zi (cold S v)))) 0 0 (fun _ => False) := by
  refine Met.ofW (cc := cX0_isCold) (maxL := 2) (ret := some .boolean) (by decide) rfl ?_
  intro p e s m args below meth c s₁ B hml hv
  obtain ⟨rfl, hP, hK⟩ := hv
  have hx := B.exec
  have hb := B.bytes
  have hr := B.returns
  have hts := atoms_spec (ws := wsX0_isCold) B.pre
  have hown : s.vm.findClass RX0 = some m.cls := findClass_of_methodNamed B.named
  have hlocks := B.notSynchronized
  have hn8 := hI.1
  have hin : ∀ w ∈ u_ws RX0 TX0 9, w ∈ wsX0_isCold := fun w h => List.mem_cons_of_mem _ (List.mem_append_right _ h)
  have f_36 := hts (.fieldLink RX0 36 "ChronoTrials" "frostChill" "I") (by decide +kernel)
  have hl := lv_entry ([.ref (A 0), .int v]) (n := 2) (Nat.le_of_ble_eq_true rfl)
  rw [lg_entry_eq]
  generalize (lg_sl ([.ref (A 0), .int v]) ++ List.replicate (2 - (lg_sl ([.ref (A 0), .int v])).length) Slot.unset).toArray = ls at hl ⊢
  have hl : lv_has ls 2 [(0, .ref (A 0)), (1, .int v)] := hl
  refine lv_iconst (v := 1) hx hb dX0_isCold_0 (by decide) ?_
  refine lv_iload_n hx hb dX0_isCold_1 rfl (lv_at hl 1 rfl) ?_
  refine lv_aload_n hx hb dX0_isCold_2 rfl (lv_at hl 0 rfl) ?_
  refine va_get (D := D) (ci := 0) (v := .int (s_fr S)) (C := RX0) (T := TX0) (N := 9) hx hb hts hin hown hK hP 0 rfl rfl 8 (by decide) f_36 (fun _ h9 => h9) rfl dX0_isCold_3 ?_
  refine rc_S (v := (zi (h_all 100 1 v (s_fr S)))) ⟨hx, hb, hml, hown, hts⟩ [.int 1, .int v, .int (s_fr S)] [] (c_X0_holdsOfChills l 1 v (s_fr S)) (va_cwS 3 hts gX0_isCold_X0_holdsOfChills rfl rfl rfl (by decide +kernel) ⟨Nat.le_of_ble_eq_true rfl, Nat.le_of_ble_eq_true rfl⟩) rfl hl.1 rfl (Nat.le_of_ble_eq_true rfl) ⟨Nat.zero_le _, Nat.zero_le _⟩ dX0_isCold_6 ?_
  exact W.zret (v := zi (h_all 100 1 v (s_fr S))) hx hb hr (zi_n _) (fun t ht hW => ⟨_, rfl, rfl, ht⟩) (fun q h => by cases h) dX0_isCold_9
set_option maxHeartbeats 4000000 in
set_option maxRecDepth 100000 in
theorem c_X0_latestChill (l : Launch) (D : va_G) (A : Nat → Nat) (K : Nat → ClassId) (S : XS) (hI : x_inv S) (a : Nat) (ha : a < 8) : Met l yX0_latestChill wsX0_latestChill (rmD 1) (va_Pc [.ref (A 0), .int (nI a)] (i_w D vwCl (wX A K S) (tX K))) (vp_Si (fun r => r = (lc S a))) 0 0 (fun _ => False) := by
  refine Met.ofW (cc := cX0_latestChill) (maxL := 2) (ret := some .int) (by decide) rfl ?_
  intro p e s m args below meth c s₁ B hml hv
  obtain ⟨rfl, hP, hK⟩ := hv
  have hx := B.exec
  have hb := B.bytes
  have hr := B.returns
  have hts := atoms_spec (ws := wsX0_latestChill) B.pre
  have hown : s.vm.findClass RX0 = some m.cls := findClass_of_methodNamed B.named
  have hlocks := B.notSynchronized
  have hn8 := hI.1
  have hin : ∀ w ∈ u_ws RX0 TX0 9, w ∈ wsX0_latestChill := fun w h => List.mem_cons_of_mem _ (List.mem_append_right _ h)
  have f_13 := hts (.fieldLink RX0 13 "ChronoTrials" "chills" "[I") (by decide +kernel)
  have f_16 := hts (.fieldLink RX0 16 "ChronoTrials" "trialsOf" "[I") (by decide +kernel)
  have ht6 := hI.2 a
  have hl := lv_entry ([.ref (A 0), .int (nI a)]) (n := 2) (Nat.le_of_ble_eq_true rfl)
  rw [lg_entry_eq]
  generalize (lg_sl ([.ref (A 0), .int (nI a)]) ++ List.replicate (2 - (lg_sl ([.ref (A 0), .int (nI a)])).length) Slot.unset).toArray = ls at hl ⊢
  have hl : lv_has ls 2 [(0, .ref (A 0)), (1, .int (nI a))] := hl
  refine lv_aload_n hx hb dX0_latestChill_0 rfl (lv_at hl 0 rfl) ?_
  refine va_get (D := D) (ci := 0) (v := .ref (A 3)) (C := RX0) (T := TX0) (N := 9) hx hb hts hin hown hK hP 0 rfl rfl 2 (by decide) f_16 (fun _ h9 => h9) rfl dX0_latestChill_1 ?_
  refine lv_iload_n hx hb dX0_latestChill_4 rfl (lv_at hl 1 rfl) ?_
  refine xa_ld (i := a) (v := (nI ((s_tr S) a))) hx hb hK hP 3 2 rfl rfl (by omega) (by decide) (rfl) dX0_latestChill_5 ?_
  refine xn_ifgt (i := ((s_tr S) a)) (tgt := 12) hx hb (by omega) dX0_latestChill_6 (by decide) (fun c1 => ?_) (fun c1 => ?_)
  · refine lv_aload_n hx hb dX0_latestChill_12 rfl (lv_at hl 0 rfl) ?_
    refine va_get (D := D) (ci := 0) (v := .ref (A 2)) (C := RX0) (T := TX0) (N := 9) hx hb hts hin hown hK hP 0 rfl rfl 1 (by decide) f_13 (fun _ h9 => h9) rfl dX0_latestChill_13 ?_
    refine lv_iload_n hx hb dX0_latestChill_16 rfl (lv_at hl 1 rfl) ?_
    refine lv_aload_n hx hb dX0_latestChill_17 rfl (lv_at hl 0 rfl) ?_
    refine va_get (D := D) (ci := 0) (v := .ref (A 3)) (C := RX0) (T := TX0) (N := 9) hx hb hts hin hown hK hP 0 rfl rfl 2 (by decide) f_16 (fun _ h9 => h9) rfl dX0_latestChill_18 ?_
    refine lv_iload_n hx hb dX0_latestChill_21 rfl (lv_at hl 1 rfl) ?_
    refine xa_ld (i := a) (v := (nI ((s_tr S) a))) hx hb hK hP 3 2 rfl rfl (by omega) (by decide) (rfl) dX0_latestChill_22 ?_
    refine lv_iconst (v := 1) hx hb dX0_latestChill_23 (by decide) ?_
    refine xn_sub (i := ((s_tr S) a)) (j := 1) hx hb (by omega) dX0_latestChill_24 ?_
    refine rc_S (v := (nI (a * 6 + (((s_tr S) a) - 1)))) ⟨hx, hb, hml, hown, hts⟩ [.int (nI a), .int (nI (((s_tr S) a) - 1))] [.ref (A 2)] (c_X0_slot l a (((s_tr S) a) - 1)) (va_cwS 2 hts gX0_latestChill_X0_slot rfl rfl rfl (by decide +kernel) ⟨Nat.le_of_ble_eq_true rfl, Nat.le_of_ble_eq_true rfl⟩) rfl hl.1 rfl (Nat.le_of_ble_eq_true rfl) ⟨Nat.zero_le _, Nat.zero_le _⟩ dX0_latestChill_25 ?_
    refine xa_ld (i := (a * 6 + (((s_tr S) a) - 1))) (v := ((s_ch S) (a * 6 + (((s_tr S) a) - 1)))) hx hb hK hP 2 1 rfl rfl (by omega) (by decide) (rfl) dX0_latestChill_28 ?_
    exact W.iret (v := ((s_ch S) (a * 6 + (((s_tr S) a) - 1)))) hx hb hr (fun t ht hW => ⟨_, rfl, by simp [lc, c1], ht⟩) (fun q h => by cases h) dX0_latestChill_29
  · refine lv_bipush (v := 100) hx hb dX0_latestChill_9 (by decide) ?_
    exact W.iret (v := 100) hx hb hr (fun t ht hW => ⟨_, rfl, by simp [lc, c1], ht⟩) (fun q h => by cases h) dX0_latestChill_11
set_option maxHeartbeats 4000000 in
set_option maxRecDepth 100000 in
theorem c_X0_holdsOfClocks (l : Launch) (D : va_G) (A : Nat → Nat) (K : Nat → ClassId) (S : XS) (hI : x_inv S) (w : Int32) (sg : Int32) (a : Nat) (b : Nat) (ha : a < 8) (hb8 : b < 8) : Met l yX0_holdsOfClocks wsX0_holdsOfClocks (rmD 2) (va_Pc [.ref (A 0), .int w, .int sg, .int (nI a), .int (nI b)] (i_w D vwCl (wX A K S) (tX K))) (vp_Si (fun r => r = (zi (hc S w sg a b)))) 0 0 (fun _ => False) := by
  refine Met.ofW (cc := cX0_holdsOfClocks) (maxL := 5) (ret := some .boolean) (by decide) rfl ?_
  intro p e s m args below meth c s₁ B hml hv
  obtain ⟨rfl, hP, hK⟩ := hv
  have hx := B.exec
  have hb := B.bytes
  have hr := B.returns
  have hts := atoms_spec (ws := wsX0_holdsOfClocks) B.pre
  have hown : s.vm.findClass RX0 = some m.cls := findClass_of_methodNamed B.named
  have hlocks := B.notSynchronized
  have hn8 := hI.1
  have hin : ∀ w ∈ u_ws RX0 TX0 9, w ∈ wsX0_holdsOfClocks := fun w h => List.mem_cons_of_mem _ (List.mem_append_right _ h)
  have f_19 := hts (.fieldLink RX0 19 "ChronoTrials" "bests" "[I") (by decide +kernel)
  have hl := lv_entry ([.ref (A 0), .int w, .int sg, .int (nI a), .int (nI b)]) (n := 5) (Nat.le_of_ble_eq_true rfl)
  rw [lg_entry_eq]
  generalize (lg_sl ([.ref (A 0), .int w, .int sg, .int (nI a), .int (nI b)]) ++ List.replicate (5 - (lg_sl ([.ref (A 0), .int w, .int sg, .int (nI a), .int (nI b)])).length) Slot.unset).toArray = ls at hl ⊢
  have hl : lv_has ls 5 [(0, .ref (A 0)), (1, .int w), (2, .int sg), (3, .int (nI a)), (4, .int (nI b))] := hl
  refine lv_iload_n hx hb dX0_holdsOfClocks_0 rfl (lv_at hl 1 rfl) ?_
  refine lv_if_ne (tgt := 22) hx hb dX0_holdsOfClocks_1 (by decide) (fun c1 => ?_) (fun c1 => ?_)
  · refine lv_iload_n hx hb dX0_holdsOfClocks_22 rfl (lv_at hl 2 rfl) ?_
    refine lv_aload_n hx hb dX0_holdsOfClocks_23 rfl (lv_at hl 0 rfl) ?_
    refine lv_iload_n hx hb dX0_holdsOfClocks_24 rfl (lv_at hl 3 rfl) ?_
    refine rc_V (v := (lc S a)) ⟨hx, hb, hml, hown, hts⟩ [.int (nI a)] [.int sg] (c_X0_latestChill l D A K S hI a (by omega)) (cwV 1 hts gX0_holdsOfClocks_X0_latestChill rfl rfl rfl (by decide +kernel) ⟨Nat.le_of_ble_eq_true rfl, Nat.le_of_ble_eq_true rfl⟩) hK hP (va_recv hK hP (ci := 0) (q0 := 0) rfl rfl) rfl hl.1 rfl (Nat.le_of_ble_eq_true rfl) ⟨Nat.zero_le _, Nat.zero_le _⟩ dX0_holdsOfClocks_25 ?_
    refine lv_aload_n hx hb dX0_holdsOfClocks_28 rfl (lv_at hl 0 rfl) ?_
    refine lv_iload hx hb dX0_holdsOfClocks_29 (lv_at hl 4 rfl) ?_
    refine rc_V (v := (lc S b)) ⟨hx, hb, hml, hown, hts⟩ [.int (nI b)] [.int (lc S a), .int sg] (c_X0_latestChill l D A K S hI b (by omega)) (cwV 1 hts gX0_holdsOfClocks_X0_latestChill rfl rfl rfl (by decide +kernel) ⟨Nat.le_of_ble_eq_true rfl, Nat.le_of_ble_eq_true rfl⟩) hK hP (va_recv hK hP (ci := 0) (q0 := 0) rfl rfl) rfl hl.1 rfl (Nat.le_of_ble_eq_true rfl) ⟨Nat.zero_le _, Nat.zero_le _⟩ dX0_holdsOfClocks_31 ?_
    refine rc_S (v := (zi (h_all 100 sg (lc S a) (lc S b)))) ⟨hx, hb, hml, hown, hts⟩ [.int sg, .int (lc S a), .int (lc S b)] [] (c_X0_holdsOfChills l sg (lc S a) (lc S b)) (va_cwS 3 hts gX0_holdsOfClocks_X0_holdsOfChills rfl rfl rfl (by decide +kernel) ⟨Nat.le_of_ble_eq_true rfl, Nat.le_of_ble_eq_true rfl⟩) rfl hl.1 rfl (Nat.le_of_ble_eq_true rfl) ⟨Nat.zero_le _, Nat.zero_le _⟩ dX0_holdsOfClocks_34 ?_
    exact W.zret (v := zi (h_all 100 sg (lc S a) (lc S b))) hx hb hr (zi_n _) (fun t ht hW => ⟨_, rfl, by simp [hc, c1], ht⟩) (fun q h => by cases h) dX0_holdsOfClocks_37
  · refine lv_iload_n hx hb dX0_holdsOfClocks_4 rfl (lv_at hl 2 rfl) ?_
    refine lv_aload_n hx hb dX0_holdsOfClocks_5 rfl (lv_at hl 0 rfl) ?_
    refine va_get (D := D) (ci := 0) (v := .ref (A 4)) (C := RX0) (T := TX0) (N := 9) hx hb hts hin hown hK hP 0 rfl rfl 3 (by decide) f_19 (fun _ h9 => h9) rfl dX0_holdsOfClocks_6 ?_
    refine lv_iload_n hx hb dX0_holdsOfClocks_9 rfl (lv_at hl 3 rfl) ?_
    refine xa_ld (i := a) (v := ((s_bs S) a)) hx hb hK hP 4 3 rfl rfl (by omega) (by decide) (rfl) dX0_holdsOfClocks_10 ?_
    refine lv_aload_n hx hb dX0_holdsOfClocks_11 rfl (lv_at hl 0 rfl) ?_
    refine va_get (D := D) (ci := 0) (v := .ref (A 4)) (C := RX0) (T := TX0) (N := 9) hx hb hts hin hown hK hP 0 rfl rfl 3 (by decide) f_19 (fun _ h9 => h9) rfl dX0_holdsOfClocks_12 ?_
    refine lv_iload hx hb dX0_holdsOfClocks_15 (lv_at hl 4 rfl) ?_
    refine xa_ld (i := b) (v := ((s_bs S) b)) hx hb hK hP 4 3 rfl rfl (by omega) (by decide) (rfl) dX0_holdsOfClocks_17 ?_
    refine rc_S (v := (zi (h_all (-1) sg ((s_bs S) a) ((s_bs S) b)))) ⟨hx, hb, hml, hown, hts⟩ [.int sg, .int ((s_bs S) a), .int ((s_bs S) b)] [] (c_X0_holdsOfRates l sg ((s_bs S) a) ((s_bs S) b)) (va_cwS 3 hts gX0_holdsOfClocks_X0_holdsOfRates rfl rfl rfl (by decide +kernel) ⟨Nat.le_of_ble_eq_true rfl, Nat.le_of_ble_eq_true rfl⟩) rfl hl.1 rfl (Nat.le_of_ble_eq_true rfl) ⟨Nat.zero_le _, Nat.zero_le _⟩ dX0_holdsOfClocks_18 ?_
    exact W.zret (v := zi (h_all (-1) sg ((s_bs S) a) ((s_bs S) b))) hx hb hr (zi_n _) (fun t ht hW => ⟨_, rfl, by simp [hc, c1], ht⟩) (fun q h => by cases h) dX0_holdsOfClocks_21
set_option maxHeartbeats 4000000 in
set_option maxRecDepth 100000 in
theorem c_X0_goesAhead (l : Launch) (D : va_G) (A : Nat → Nat) (K : Nat → ClassId) (S : XS) (hI : x_inv S) (a : Nat) (b : Nat) (ha : a < 8) (hb8 : b < 8) : Met l yX0_goesAhead wsX0_goesAhead (rmD 3) (va_Pc [.ref (A 0), .int (nI a), .int (nI b)] (i_w D vwCl (wX A K S) (tX K))) (vp_Si (fun r => r = (zi (ga S a b)))) 0 0 (fun _ => False) := by
  refine Met.ofW (cc := cX0_goesAhead) (maxL := 3) (ret := some .boolean) (by decide) rfl ?_
  intro p e s m args below meth c s₁ B hml hv
  obtain ⟨rfl, hP, hK⟩ := hv
  have hx := B.exec
  have hb := B.bytes
  have hr := B.returns
  have hts := atoms_spec (ws := wsX0_goesAhead) B.pre
  have hown : s.vm.findClass RX0 = some m.cls := findClass_of_methodNamed B.named
  have hlocks := B.notSynchronized
  have hn8 := hI.1
  have hin : ∀ w ∈ u_ws RX0 TX0 9, w ∈ wsX0_goesAhead := fun w h => List.mem_cons_of_mem _ (List.mem_append_right _ h)
  have f_19 := hts (.fieldLink RX0 19 "ChronoTrials" "bests" "[I") (by decide +kernel)
  have hl := lv_entry ([.ref (A 0), .int (nI a), .int (nI b)]) (n := 3) (Nat.le_of_ble_eq_true rfl)
  rw [lg_entry_eq]
  generalize (lg_sl ([.ref (A 0), .int (nI a), .int (nI b)]) ++ List.replicate (3 - (lg_sl ([.ref (A 0), .int (nI a), .int (nI b)])).length) Slot.unset).toArray = ls at hl ⊢
  have hl : lv_has ls 3 [(0, .ref (A 0)), (1, .int (nI a)), (2, .int (nI b))] := hl
  refine lv_aload_n hx hb dX0_goesAhead_0 rfl (lv_at hl 0 rfl) ?_
  refine va_get (D := D) (ci := 0) (v := .ref (A 4)) (C := RX0) (T := TX0) (N := 9) hx hb hts hin hown hK hP 0 rfl rfl 3 (by decide) f_19 (fun _ h9 => h9) rfl dX0_goesAhead_1 ?_
  refine lv_iload_n hx hb dX0_goesAhead_4 rfl (lv_at hl 1 rfl) ?_
  refine xa_ld (i := a) (v := ((s_bs S) a)) hx hb hK hP 4 3 rfl rfl (by omega) (by decide) (rfl) dX0_goesAhead_5 ?_
  refine lv_aload_n hx hb dX0_goesAhead_6 rfl (lv_at hl 0 rfl) ?_
  refine va_get (D := D) (ci := 0) (v := .ref (A 4)) (C := RX0) (T := TX0) (N := 9) hx hb hts hin hown hK hP 0 rfl rfl 3 (by decide) f_19 (fun _ h9 => h9) rfl dX0_goesAhead_7 ?_
  refine lv_iload_n hx hb dX0_goesAhead_10 rfl (lv_at hl 2 rfl) ?_
  refine xa_ld (i := b) (v := ((s_bs S) b)) hx hb hK hP 4 3 rfl rfl (by omega) (by decide) (rfl) dX0_goesAhead_11 ?_
  refine lv_icmp_ne (tgt := 26) hx hb dX0_goesAhead_12 (by decide) (fun c1 => ?_) (fun c1 => ?_)
  · refine lv_aload_n hx hb dX0_goesAhead_26 rfl (lv_at hl 0 rfl) ?_
    refine va_get (D := D) (ci := 0) (v := .ref (A 4)) (C := RX0) (T := TX0) (N := 9) hx hb hts hin hown hK hP 0 rfl rfl 3 (by decide) f_19 (fun _ h9 => h9) rfl dX0_goesAhead_27 ?_
    refine lv_iload_n hx hb dX0_goesAhead_30 rfl (lv_at hl 1 rfl) ?_
    refine xa_ld (i := a) (v := ((s_bs S) a)) hx hb hK hP 4 3 rfl rfl (by omega) (by decide) (rfl) dX0_goesAhead_31 ?_
    refine lv_aload_n hx hb dX0_goesAhead_32 rfl (lv_at hl 0 rfl) ?_
    refine va_get (D := D) (ci := 0) (v := .ref (A 4)) (C := RX0) (T := TX0) (N := 9) hx hb hts hin hown hK hP 0 rfl rfl 3 (by decide) f_19 (fun _ h9 => h9) rfl dX0_goesAhead_33 ?_
    refine lv_iload_n hx hb dX0_goesAhead_36 rfl (lv_at hl 2 rfl) ?_
    refine xa_ld (i := b) (v := ((s_bs S) b)) hx hb hK hP 4 3 rfl rfl (by omega) (by decide) (rfl) dX0_goesAhead_37 ?_
    refine rc_S (v := (zi (be ((s_bs S) a) ((s_bs S) b)))) ⟨hx, hb, hml, hown, hts⟩ [.int ((s_bs S) a), .int ((s_bs S) b)] [] (c_X0_betters l ((s_bs S) a) ((s_bs S) b)) (va_cwS 2 hts gX0_goesAhead_X0_betters rfl rfl rfl (by decide +kernel) ⟨Nat.le_of_ble_eq_true rfl, Nat.le_of_ble_eq_true rfl⟩) rfl hl.1 rfl (Nat.le_of_ble_eq_true rfl) ⟨Nat.zero_le _, Nat.zero_le _⟩ dX0_goesAhead_38 ?_
    exact W.zret (v := zi (be ((s_bs S) a) ((s_bs S) b))) hx hb hr (zi_n _) (fun t ht hW => ⟨_, rfl, by simp [ga, c1], ht⟩) (fun q h => by cases h) dX0_goesAhead_41
  · refine lv_iload_n hx hb dX0_goesAhead_15 rfl (lv_at hl 1 rfl) ?_
    refine lv_iload_n hx hb dX0_goesAhead_16 rfl (lv_at hl 2 rfl) ?_
    refine xn_ge (i := a) (j := b) (tgt := 24) hx hb (by omega) (by omega) dX0_goesAhead_17 (by decide) (fun c2 => ?_) (fun c2 => ?_)
    · refine lv_iconst (v := 0) hx hb dX0_goesAhead_24 (by decide) ?_
      exact W.zret (v := zi false) hx hb hr (zi_n _) (fun t ht hW => ⟨_, rfl, by simp [ga, c1, c2], ht⟩) (fun q h => by cases h) dX0_goesAhead_25
    · refine lv_iconst (v := 1) hx hb dX0_goesAhead_20 (by decide) ?_
      refine lv_goto (tgt := 25) hx hb dX0_goesAhead_21 (by decide) ?_
      exact W.zret (v := zi true) hx hb hr (zi_n _) (fun t ht hW => ⟨_, rfl, by simp [ga, c1, c2], ht⟩) (fun q h => by cases h) dX0_goesAhead_25
set_option maxHeartbeats 4000000 in
set_option maxRecDepth 100000 in
theorem c_X0_marksOf (l : Launch) (D : va_G) (A : Nat → Nat) (K : Nat → ClassId) (S : XS) (hI : x_inv S) (a : Nat) (v : Int32) (z : Int32) (ha : a < 8) : Met l yX0_marksOf wsX0_marksOf (rmD 3) (va_Pc [.ref (A 0), .int (nI a), .int v, .int z] (i_w D vwCl (wX A K S) (tX K))) (vp_Si (fun r => r = (nI (x_marks S a v z)))) 0 0 (fun _ => False) := by
  refine Met.ofW (cc := cX0_marksOf) (maxL := 5) (ret := some .int) (by decide) rfl ?_
  intro p e s m args below meth c s₁ B hml hv
  obtain ⟨rfl, hP, hK⟩ := hv
  have hx := B.exec
  have hb := B.bytes
  have hr := B.returns
  have hts := atoms_spec (ws := wsX0_marksOf) B.pre
  have hown : s.vm.findClass RX0 = some m.cls := findClass_of_methodNamed B.named
  have hlocks := B.notSynchronized
  have hn8 := hI.1
  have hin : ∀ w ∈ u_ws RX0 TX0 9, w ∈ wsX0_marksOf := fun w h => List.mem_cons_of_mem _ (List.mem_append_right _ h)
  have f_19 := hts (.fieldLink RX0 19 "ChronoTrials" "bests" "[I") (by decide +kernel)
  have f_30 := hts (.fieldLink RX0 30 "ChronoTrials" "prizeRate" "I") (by decide +kernel)
  have f_33 := hts (.fieldLink RX0 33 "ChronoTrials" "recordRate" "I") (by decide +kernel)
  have hl := lv_entry ([.ref (A 0), .int (nI a), .int v, .int z]) (n := 5) (Nat.le_of_ble_eq_true rfl)
  rw [lg_entry_eq]
  generalize (lg_sl ([.ref (A 0), .int (nI a), .int v, .int z]) ++ List.replicate (5 - (lg_sl ([.ref (A 0), .int (nI a), .int v, .int z])).length) Slot.unset).toArray = ls at hl ⊢
  have hl : lv_has ls 5 [(0, .ref (A 0)), (1, .int (nI a)), (2, .int v), (3, .int z)] := hl
  refine lv_iconst (v := 0) hx hb dX0_marksOf_0 (by decide) ?_
  refine lv_istore (lv' := [(4, .int 0), (0, .ref (A 0)), (1, .int (nI a)), (2, .int v), (3, .int z)]) hx hb dX0_marksOf_1 hl (by decide) rfl (fun ls hl => ?_)
  have K14 : ∀ (q1 : Nat), q1 = (b2 (cold S z) 1) → ∀ (ls : Array Slot), lv_has ls 5 [(4, .int (nI q1)), (0, .ref (A 0)), (1, .int (nI a)), (2, .int v), (3, .int z)] → W p l e (headSpec wsX0_marksOf (rmD 3)).room s m ([.ref (A 0), .int (nI a), .int v, .int z] : List Value).toArray below meth c s.heap [] 0 0 (MQ below (vp_Si (fun r => r = (nI (x_marks S a v z)))) ([.ref (A 0), .int (nI a), .int v, .int z] : List Value).toArray s 0 0 (fun _ => False)) (F0 m 14 ls []) := by
    intro q1 e_q1 ls hl
    have K29 : ∀ (q2 : Nat), q2 = (q1 + b2 (h_all (-1) 1 v (s_pz S)) 2) → ∀ (ls : Array Slot), lv_has ls 5 [(4, .int (nI q2)), (0, .ref (A 0)), (1, .int (nI a)), (2, .int v), (3, .int z)] → W p l e (headSpec wsX0_marksOf (rmD 3)).room s m ([.ref (A 0), .int (nI a), .int v, .int z] : List Value).toArray below meth c s.heap [] 0 0 (MQ below (vp_Si (fun r => r = (nI (x_marks S a v z)))) ([.ref (A 0), .int (nI a), .int v, .int z] : List Value).toArray s 0 0 (fun _ => False)) (F0 m 29 ls []) := by
      intro q2 e_q2 ls hl
      have K45 : ∀ (q3 : Nat), q3 = (q2 + b2 (be v (s_bs S a)) 4) → ∀ (ls : Array Slot), lv_has ls 5 [(4, .int (nI q3)), (0, .ref (A 0)), (1, .int (nI a)), (2, .int v), (3, .int z)] → W p l e (headSpec wsX0_marksOf (rmD 3)).room s m ([.ref (A 0), .int (nI a), .int v, .int z] : List Value).toArray below meth c s.heap [] 0 0 (MQ below (vp_Si (fun r => r = (nI (x_marks S a v z)))) ([.ref (A 0), .int (nI a), .int v, .int z] : List Value).toArray s 0 0 (fun _ => False)) (F0 m 45 ls []) := by
        intro q3 e_q3 ls hl
        refine lv_aload_n hx hb dX0_marksOf_45 rfl (lv_at hl 1 rfl) ?_
        refine lv_iload_n hx hb dX0_marksOf_46 rfl (lv_at hl 4 rfl) ?_
        refine rc_V (v := (zi (cold S z))) ⟨hx, hb, hml, hown, hts⟩ [.int z] [] (c_X0_isCold l D A K S hI z) (cwV 1 hts gX0_marksOf_X0_isCold rfl rfl rfl (by decide +kernel) ⟨Nat.le_of_ble_eq_true rfl, Nat.le_of_ble_eq_true rfl⟩) hK hP (va_recv hK hP (ci := 0) (q0 := 0) rfl rfl) rfl hl.1 rfl (Nat.le_of_ble_eq_true rfl) ⟨Nat.zero_le _, Nat.zero_le _⟩ dX0_marksOf_47 ?_
        refine xz_eq (b := (cold S z)) (tgt := 67) hx hb dX0_marksOf_50 (by decide) (fun c1 => ?_) (fun c1 => ?_)
        · refine lv_iload hx hb dX0_marksOf_67 (lv_at hl 0 rfl) ?_
          exact W.iret (v := (nI q3)) hx hb hr (fun t ht hW => ⟨_, rfl, by simp [x_marks, mk4, b2, e_q1, e_q2, e_q3, c1], ht⟩) (fun q h => by cases h) dX0_marksOf_69
        · refine lv_iload_n hx hb dX0_marksOf_53 rfl (lv_at hl 3 rfl) ?_
          refine lv_aload_n hx hb dX0_marksOf_54 rfl (lv_at hl 1 rfl) ?_
          refine va_get (D := D) (ci := 0) (v := .int (s_rc S)) (C := RX0) (T := TX0) (N := 9) hx hb hts hin hown hK hP 0 rfl rfl 7 (by decide) f_33 (fun _ h9 => h9) rfl dX0_marksOf_55 ?_
          refine rc_S (v := (zi (be v (s_rc S)))) ⟨hx, hb, hml, hown, hts⟩ [.int v, .int (s_rc S)] [] (c_X0_betters l v (s_rc S)) (va_cwS 2 hts gX0_marksOf_X0_betters rfl rfl rfl (by decide +kernel) ⟨Nat.le_of_ble_eq_true rfl, Nat.le_of_ble_eq_true rfl⟩) rfl hl.1 rfl (Nat.le_of_ble_eq_true rfl) ⟨Nat.zero_le _, Nat.zero_le _⟩ dX0_marksOf_58 ?_
          refine xz_eq (b := (be v (s_rc S))) (tgt := 67) hx hb dX0_marksOf_61 (by decide) (fun c2 => ?_) (fun c2 => ?_)
          · refine lv_iload hx hb dX0_marksOf_67 (lv_at hl 0 rfl) ?_
            exact W.iret (v := (nI q3)) hx hb hr (fun t ht hW => ⟨_, rfl, by simp [x_marks, mk4, b2, e_q1, e_q2, e_q3, c1, c2], ht⟩) (fun q h => by cases h) dX0_marksOf_69
          · refine lv_iinc (v := (nI (q3 + 8))) (lv' := [(4, .int (nI (q3 + 8))), (0, .ref (A 0)), (1, .int (nI a)), (2, .int v), (3, .int z)]) hx hb dX0_marksOf_64 hl (k := 0) rfl (nI_add q3 8) (by decide) rfl (fun ls hl => ?_)
            refine lv_iload hx hb dX0_marksOf_67 (lv_at hl 0 rfl) ?_
            exact W.iret (v := (nI (q3 + 8))) hx hb hr (fun t ht hW => ⟨_, rfl, by simp [x_marks, mk4, b2, e_q1, e_q2, e_q3, c1, c2], ht⟩) (fun q h => by cases h) dX0_marksOf_69
      refine lv_iload_n hx hb dX0_marksOf_29 rfl (lv_at hl 3 rfl) ?_
      refine lv_aload_n hx hb dX0_marksOf_30 rfl (lv_at hl 1 rfl) ?_
      refine va_get (D := D) (ci := 0) (v := .ref (A 4)) (C := RX0) (T := TX0) (N := 9) hx hb hts hin hown hK hP 0 rfl rfl 3 (by decide) f_19 (fun _ h9 => h9) rfl dX0_marksOf_31 ?_
      refine lv_iload_n hx hb dX0_marksOf_34 rfl (lv_at hl 2 rfl) ?_
      refine xa_ld (i := a) (v := ((s_bs S) a)) hx hb hK hP 4 3 rfl rfl (by omega) (by decide) (rfl) dX0_marksOf_35 ?_
      refine rc_S (v := (zi (be v ((s_bs S) a)))) ⟨hx, hb, hml, hown, hts⟩ [.int v, .int ((s_bs S) a)] [] (c_X0_betters l v ((s_bs S) a)) (va_cwS 2 hts gX0_marksOf_X0_betters rfl rfl rfl (by decide +kernel) ⟨Nat.le_of_ble_eq_true rfl, Nat.le_of_ble_eq_true rfl⟩) rfl hl.1 rfl (Nat.le_of_ble_eq_true rfl) ⟨Nat.zero_le _, Nat.zero_le _⟩ dX0_marksOf_36 ?_
      refine xz_eq (b := (be v ((s_bs S) a))) (tgt := 45) hx hb dX0_marksOf_39 (by decide) (fun c3 => ?_) (fun c3 => ?_)
      · exact K45 q2 (by simp [b2, e_q1, e_q2, c3]) ls (lv_sub hl [0, 1, 2, 3, 4] rfl)
      · refine lv_iinc (v := (nI (q2 + 4))) (lv' := [(4, .int (nI (q2 + 4))), (0, .ref (A 0)), (1, .int (nI a)), (2, .int v), (3, .int z)]) hx hb dX0_marksOf_42 hl (k := 0) rfl (nI_add q2 4) (by decide) rfl (fun ls hl => ?_)
        exact K45 (q2 + 4) (by simp [b2, e_q1, e_q2, c3]) ls (lv_sub hl [0, 1, 2, 3, 4] rfl)
    refine lv_iconst (v := 1) hx hb dX0_marksOf_14 (by decide) ?_
    refine lv_iload_n hx hb dX0_marksOf_15 rfl (lv_at hl 3 rfl) ?_
    refine lv_aload_n hx hb dX0_marksOf_16 rfl (lv_at hl 1 rfl) ?_
    refine va_get (D := D) (ci := 0) (v := .int (s_pz S)) (C := RX0) (T := TX0) (N := 9) hx hb hts hin hown hK hP 0 rfl rfl 6 (by decide) f_30 (fun _ h9 => h9) rfl dX0_marksOf_17 ?_
    refine rc_S (v := (zi (h_all (-1) 1 v (s_pz S)))) ⟨hx, hb, hml, hown, hts⟩ [.int 1, .int v, .int (s_pz S)] [] (c_X0_holdsOfRates l 1 v (s_pz S)) (va_cwS 3 hts gX0_marksOf_X0_holdsOfRates rfl rfl rfl (by decide +kernel) ⟨Nat.le_of_ble_eq_true rfl, Nat.le_of_ble_eq_true rfl⟩) rfl hl.1 rfl (Nat.le_of_ble_eq_true rfl) ⟨Nat.zero_le _, Nat.zero_le _⟩ dX0_marksOf_20 ?_
    refine xz_eq (b := (h_all (-1) 1 v (s_pz S))) (tgt := 29) hx hb dX0_marksOf_23 (by decide) (fun c4 => ?_) (fun c4 => ?_)
    · exact K29 q1 (by simp [b2, e_q1, c4]) ls (lv_sub hl [0, 1, 2, 3, 4] rfl)
    · refine lv_iinc (v := (nI (q1 + 2))) (lv' := [(4, .int (nI (q1 + 2))), (0, .ref (A 0)), (1, .int (nI a)), (2, .int v), (3, .int z)]) hx hb dX0_marksOf_26 hl (k := 0) rfl (nI_add q1 2) (by decide) rfl (fun ls hl => ?_)
      exact K29 (q1 + 2) (by simp [b2, e_q1, c4]) ls (lv_sub hl [0, 1, 2, 3, 4] rfl)
  refine lv_aload_n hx hb dX0_marksOf_3 rfl (lv_at hl 1 rfl) ?_
  refine lv_iload_n hx hb dX0_marksOf_4 rfl (lv_at hl 4 rfl) ?_
  refine rc_V (v := (zi (cold S z))) ⟨hx, hb, hml, hown, hts⟩ [.int z] [] (c_X0_isCold l D A K S hI z) (cwV 1 hts gX0_marksOf_X0_isCold rfl rfl rfl (by decide +kernel) ⟨Nat.le_of_ble_eq_true rfl, Nat.le_of_ble_eq_true rfl⟩) hK hP (va_recv hK hP (ci := 0) (q0 := 0) rfl rfl) rfl hl.1 rfl (Nat.le_of_ble_eq_true rfl) ⟨Nat.zero_le _, Nat.zero_le _⟩ dX0_marksOf_5 ?_
  refine xz_eq (b := (cold S z)) (tgt := 14) hx hb dX0_marksOf_8 (by decide) (fun c5 => ?_) (fun c5 => ?_)
  · exact K14 0 (by simp [b2, c5]) ls (lv_sub hl [0, 1, 2, 3, 4] rfl)
  · refine lv_iinc (v := 1) (lv' := [(4, .int 1), (0, .ref (A 0)), (1, .int (nI a)), (2, .int v), (3, .int z)]) hx hb dX0_marksOf_11 hl (k := 0) rfl (by decide) (by decide) rfl (fun ls hl => ?_)
    exact K14 1 (by simp [b2, c5]) ls (lv_sub hl [0, 1, 2, 3, 4] rfl)
