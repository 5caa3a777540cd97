set_option maxHeartbeats 4000000 in
set_option maxRecDepth 100000 in
theorem c_X1_isClock (l : Launch) (D : va_G) (A : Nat → Nat) (K : Nat → ClassId) (S : XS) (hI : x_inv S) (v : Int32) : Met l yX1_isClock wsX1_isClock (rmD 0) (va_Pc [.ref (A 0), .int v] (i_w D vwCl (wM A K S) (tM K))) (vp_Si (fun r => r = (zi (isClk S v)))) 0 0 (fun _ => False) := by
  refine Met.ofW (cc := cX1_isClock) (maxL := 2) (ret := some .boolean) (by decide) rfl ?_
  intro p e s m args below meth c s₁ B hml hv
  obtain ⟨rfl, hP, hK⟩ := hv
  have hx := B.exec
  have hb := B.bytes
  have hr := B.returns
  have hts := atoms_spec (ws := wsX1_isClock) B.pre
  have hown : s.vm.findClass RX1 = some m.cls := findClass_of_methodNamed B.named
  have hlocks := B.notSynchronized
  have hn8 := hI.1
  have hin : ∀ w ∈ u_ws RX1 TX1 9, w ∈ wsX1_isClock := fun w h => List.mem_cons_of_mem _ (List.mem_append_right _ h)
  have f_35 := hts (.fieldLink RX1 35 "ChronoTrialsModel" "clocks" "I") (by decide +kernel)
  have hl := lv_entry ([.ref (A 0), .int v]) (n := 2) (Nat.le_of_ble_eq_true rfl)
  rw [lg_entry_eq]
  generalize (lg_sl ([.ref (A 0), .int v]) ++ List.replicate (2 - (lg_sl ([.ref (A 0), .int v])).length) Slot.unset).toArray = ls at hl ⊢
  have hl : lv_has ls 2 [(0, .ref (A 0)), (1, .int v)] := hl
  refine lv_iload_n hx hb dX1_isClock_0 rfl (lv_at hl 1 rfl) ?_
  refine lv_if_lt (tgt := 16) hx hb dX1_isClock_1 (by decide) (fun c1 => ?_) (fun c1 => ?_)
  · refine lv_iconst (v := 0) hx hb dX1_isClock_16 (by decide) ?_
    exact W.zret (v := zi false) hx hb hr (zi_n _) (fun t ht hW => ⟨_, rfl, by simp [isClk, c1], ht⟩) (fun q h => by cases h) dX1_isClock_17
  · refine lv_iload_n hx hb dX1_isClock_4 rfl (lv_at hl 1 rfl) ?_
    refine lv_aload_n hx hb dX1_isClock_5 rfl (lv_at hl 0 rfl) ?_
    refine va_get (D := D) (ci := 1) (v := .int (nI (s_n S))) (C := RX1) (T := TX1) (N := 9) hx hb hts hin hown hK hP 0 rfl rfl 0 (by decide) f_35 (fun _ h9 => h9) rfl dX1_isClock_6 ?_
    refine lv_icmp_ge (tgt := 16) hx hb dX1_isClock_9 (by decide) (fun c2 => ?_) (fun c2 => ?_)
    · refine lv_iconst (v := 0) hx hb dX1_isClock_16 (by decide) ?_
      exact W.zret (v := zi false) hx hb hr (zi_n _) (fun t ht hW => ⟨_, rfl, by simp [isClk, c1, c2], ht⟩) (fun q h => by cases h) dX1_isClock_17
    · refine lv_iconst (v := 1) hx hb dX1_isClock_12 (by decide) ?_
      refine lv_goto (tgt := 17) hx hb dX1_isClock_13 (by decide) ?_
      exact W.zret (v := zi true) hx hb hr (zi_n _) (fun t ht hW => ⟨_, rfl, by simp [isClk, c1, c2], ht⟩) (fun q h => by cases h) dX1_isClock_17
set_option maxHeartbeats 4000000 in
set_option maxRecDepth 100000 in
theorem c_X1_isCold (l : Launch) (D : va_G) (A : Nat → Nat) (K : Nat → ClassId) (S : XS) (hI : x_inv S) (v : Int32) : Met l yX1_isCold wsX1_isCold (rmD 1) (va_Pc [.ref (A 0), .int v] (i_w D vwCl (wM A K S) (tM K))) (vp_Si (fun r => r = (zi (cold S v)))) 0 0 (fun _ => False) := by
  refine Met.ofW (cc := cX1_isCold) (maxL := 2) (ret := some .boolean) (by decide) rfl ?_
  intro p e s m args below meth c s₁ B hml hv
  obtain ⟨rfl, hP, hK⟩ := hv
  have hx := B.exec
  have hb := B.bytes
  have hr := B.returns
  have hts := atoms_spec (ws := wsX1_isCold) B.pre
  have hown : s.vm.findClass RX1 = some m.cls := findClass_of_methodNamed B.named
  have hlocks := B.notSynchronized
  have hn8 := hI.1
  have hin : ∀ w ∈ u_ws RX1 TX1 9, w ∈ wsX1_isCold := fun w h => List.mem_cons_of_mem _ (List.mem_append_right _ h)
  have f_13 := hts (.fieldLink RX1 13 "ChronoTrialsModel" "frost" "I") (by decide +kernel)
  have hl := lv_entry ([.ref (A 0), .int v]) (n := 2) (Nat.le_of_ble_eq_true rfl)
  rw [lg_entry_eq]
  generalize (lg_sl ([.ref (A 0), .int v]) ++ List.replicate (2 - (lg_sl ([.ref (A 0), .int v])).length) Slot.unset).toArray = ls at hl ⊢
  have hl : lv_has ls 2 [(0, .ref (A 0)), (1, .int v)] := hl
  refine lv_iconst (v := 1) hx hb dX1_isCold_0 (by decide) ?_
  refine lv_iload_n hx hb dX1_isCold_1 rfl (lv_at hl 1 rfl) ?_
  refine lv_aload_n hx hb dX1_isCold_2 rfl (lv_at hl 0 rfl) ?_
  refine va_get (D := D) (ci := 1) (v := .int (s_fr S)) (C := RX1) (T := TX1) (N := 9) hx hb hts hin hown hK hP 0 rfl rfl 2 (by decide) f_13 (fun _ h9 => h9) rfl dX1_isCold_3 ?_
  refine lv_bipush (v := 100) hx hb dX1_isCold_6 (by decide) ?_
  refine rc_S (v := (zi (h_all 100 1 v (s_fr S)))) ⟨hx, hb, hml, hown, hts⟩ [.int 1, .int v, .int (s_fr S), .int 100] [] (c_X1_holds l 1 v (s_fr S) 100) (va_cwS 4 hts gX1_isCold_X1_holds rfl rfl rfl (by decide +kernel) ⟨Nat.le_of_ble_eq_true rfl, Nat.le_of_ble_eq_true rfl⟩) rfl hl.1 rfl (Nat.le_of_ble_eq_true rfl) ⟨Nat.zero_le _, Nat.zero_le _⟩ dX1_isCold_8 ?_
  exact W.zret (v := zi (h_all 100 1 v (s_fr S))) hx hb hr (zi_n _) (fun t ht hW => ⟨_, rfl, rfl, ht⟩) (fun q h => by cases h) dX1_isCold_11
set_option maxHeartbeats 4000000 in
set_option maxRecDepth 100000 in
theorem c_X1_isAhead (l : Launch) (D : va_G) (A : Nat → Nat) (K : Nat → ClassId) (S : XS) (hI : x_inv S) (a : Nat) (b : Nat) (ha : a < 8) (hb8 : b < 8) : Met l yX1_isAhead wsX1_isAhead (rmD 2) (va_Pc [.ref (A 0), .int (nI a), .int (nI b)] (i_w D vwCl (wM A K S) (tM K))) (vp_Si (fun r => r = (zi (ga S a b)))) 0 0 (fun _ => False) := by
  refine Met.ofW (cc := cX1_isAhead) (maxL := 3) (ret := some .boolean) (by decide) rfl ?_
  intro p e s m args below meth c s₁ B hml hv
  obtain ⟨rfl, hP, hK⟩ := hv
  have hx := B.exec
  have hb := B.bytes
  have hr := B.returns
  have hts := atoms_spec (ws := wsX1_isAhead) B.pre
  have hown : s.vm.findClass RX1 = some m.cls := findClass_of_methodNamed B.named
  have hlocks := B.notSynchronized
  have hn8 := hI.1
  have hin : ∀ w ∈ u_ws RX1 TX1 9, w ∈ wsX1_isAhead := fun w h => List.mem_cons_of_mem _ (List.mem_append_right _ h)
  have f_23 := hts (.fieldLink RX1 23 "ChronoTrialsModel" "best" "[I") (by decide +kernel)
  have hl := lv_entry ([.ref (A 0), .int (nI a), .int (nI b)]) (n := 3) (Nat.le_of_ble_eq_true rfl)
  rw [lg_entry_eq]
  generalize (lg_sl ([.ref (A 0), .int (nI a), .int (nI b)]) ++ List.replicate (3 - (lg_sl ([.ref (A 0), .int (nI a), .int (nI b)])).length) Slot.unset).toArray = ls at hl ⊢
  have hl : lv_has ls 3 [(0, .ref (A 0)), (1, .int (nI a)), (2, .int (nI b))] := hl
  refine lv_aload_n hx hb dX1_isAhead_0 rfl (lv_at hl 0 rfl) ?_
  refine va_get (D := D) (ci := 1) (v := .ref (A 2)) (C := RX1) (T := TX1) (N := 9) hx hb hts hin hown hK hP 0 rfl rfl 5 (by decide) f_23 (fun _ h9 => h9) rfl dX1_isAhead_1 ?_
  refine lv_iload_n hx hb dX1_isAhead_4 rfl (lv_at hl 1 rfl) ?_
  refine xa_ld (i := a) (v := ((s_bs S) a)) hx hb hK hP 2 1 rfl rfl (by omega) (by decide) (rfl) dX1_isAhead_5 ?_
  refine lv_aload_n hx hb dX1_isAhead_6 rfl (lv_at hl 0 rfl) ?_
  refine va_get (D := D) (ci := 1) (v := .ref (A 2)) (C := RX1) (T := TX1) (N := 9) hx hb hts hin hown hK hP 0 rfl rfl 5 (by decide) f_23 (fun _ h9 => h9) rfl dX1_isAhead_7 ?_
  refine lv_iload_n hx hb dX1_isAhead_10 rfl (lv_at hl 2 rfl) ?_
  refine xa_ld (i := b) (v := ((s_bs S) b)) hx hb hK hP 2 1 rfl rfl (by omega) (by decide) (rfl) dX1_isAhead_11 ?_
  refine lv_icmp_ne (tgt := 26) hx hb dX1_isAhead_12 (by decide) (fun c1 => ?_) (fun c1 => ?_)
  · refine lv_aload_n hx hb dX1_isAhead_26 rfl (lv_at hl 0 rfl) ?_
    refine va_get (D := D) (ci := 1) (v := .ref (A 2)) (C := RX1) (T := TX1) (N := 9) hx hb hts hin hown hK hP 0 rfl rfl 5 (by decide) f_23 (fun _ h9 => h9) rfl dX1_isAhead_27 ?_
    refine lv_iload_n hx hb dX1_isAhead_30 rfl (lv_at hl 1 rfl) ?_
    refine xa_ld (i := a) (v := ((s_bs S) a)) hx hb hK hP 2 1 rfl rfl (by omega) (by decide) (rfl) dX1_isAhead_31 ?_
    refine lv_aload_n hx hb dX1_isAhead_32 rfl (lv_at hl 0 rfl) ?_
    refine va_get (D := D) (ci := 1) (v := .ref (A 2)) (C := RX1) (T := TX1) (N := 9) hx hb hts hin hown hK hP 0 rfl rfl 5 (by decide) f_23 (fun _ h9 => h9) rfl dX1_isAhead_33 ?_
    refine lv_iload_n hx hb dX1_isAhead_36 rfl (lv_at hl 2 rfl) ?_
    refine xa_ld (i := b) (v := ((s_bs S) b)) hx hb hK hP 2 1 rfl rfl (by omega) (by decide) (rfl) dX1_isAhead_37 ?_
    refine rc_S (v := (zi (be ((s_bs S) a) ((s_bs S) b)))) ⟨hx, hb, hml, hown, hts⟩ [.int ((s_bs S) a), .int ((s_bs S) b)] [] (c_X1_beats l ((s_bs S) a) ((s_bs S) b)) (va_cwS 2 hts gX1_isAhead_X1_beats rfl rfl rfl (by decide +kernel) ⟨Nat.le_of_ble_eq_true rfl, Nat.le_of_ble_eq_true rfl⟩) rfl hl.1 rfl (Nat.le_of_ble_eq_true rfl) ⟨Nat.zero_le _, Nat.zero_le _⟩ dX1_isAhead_38 ?_
    exact W.zret (v := zi (be ((s_bs S) a) ((s_bs S) b))) hx hb hr (zi_n _) (fun t ht hW => ⟨_, rfl, by simp [ga, c1], ht⟩) (fun q h => by cases h) dX1_isAhead_41
  · refine lv_iload_n hx hb dX1_isAhead_15 rfl (lv_at hl 1 rfl) ?_
    refine lv_iload_n hx hb dX1_isAhead_16 rfl (lv_at hl 2 rfl) ?_
    refine xn_ge (i := a) (j := b) (tgt := 24) hx hb (by omega) (by omega) dX1_isAhead_17 (by decide) (fun c2 => ?_) (fun c2 => ?_)
    · refine lv_iconst (v := 0) hx hb dX1_isAhead_24 (by decide) ?_
      exact W.zret (v := zi false) hx hb hr (zi_n _) (fun t ht hW => ⟨_, rfl, by simp [ga, c1, c2], ht⟩) (fun q h => by cases h) dX1_isAhead_25
    · refine lv_iconst (v := 1) hx hb dX1_isAhead_20 (by decide) ?_
      refine lv_goto (tgt := 25) hx hb dX1_isAhead_21 (by decide) ?_
      exact W.zret (v := zi true) hx hb hr (zi_n _) (fun t ht hW => ⟨_, rfl, by simp [ga, c1, c2], ht⟩) (fun q h => by cases h) dX1_isAhead_25
set_option maxHeartbeats 4000000 in
set_option maxRecDepth 100000 in
theorem c_X1_chill (l : Launch) (D : va_G) (A : Nat → Nat) (K : Nat → ClassId) (S : XS) (hI : x_inv S) (a : Nat) (ha : a < 8) : Met l yX1_chill wsX1_chill (rmD 0) (va_Pc [.ref (A 0), .int (nI a)] (i_w D vwCl (wM A K S) (tM K))) (vp_Si (fun r => r = (lc S a))) 0 0 (fun _ => False) := by
  refine Met.ofW (cc := cX1_chill) (maxL := 2) (ret := some .int) (by decide) rfl ?_
  intro p e s m args below meth c s₁ B hml hv
  obtain ⟨rfl, hP, hK⟩ := hv
  have hx := B.exec
  have hb := B.bytes
  have hr := B.returns
  have hts := atoms_spec (ws := wsX1_chill) B.pre
  have hown : s.vm.findClass RX1 = some m.cls := findClass_of_methodNamed B.named
  have hlocks := B.notSynchronized
  have hn8 := hI.1
  have hin : ∀ w ∈ u_ws RX1 TX1 9, w ∈ wsX1_chill := fun w h => List.mem_cons_of_mem _ (List.mem_append_right _ h)
  have f_19 := hts (.fieldLink RX1 19 "ChronoTrialsModel" "many" "[I") (by decide +kernel)
  have f_32 := hts (.fieldLink RX1 32 "ChronoTrialsModel" "chills" "[I") (by decide +kernel)
  have ht6 := hI.2 a
  have hl := lv_entry ([.ref (A 0), .int (nI a)]) (n := 2) (Nat.le_of_ble_eq_true rfl)
  rw [lg_entry_eq]
  generalize (lg_sl ([.ref (A 0), .int (nI a)]) ++ List.replicate (2 - (lg_sl ([.ref (A 0), .int (nI a)])).length) Slot.unset).toArray = ls at hl ⊢
  have hl : lv_has ls 2 [(0, .ref (A 0)), (1, .int (nI a))] := hl
  refine lv_aload_n hx hb dX1_chill_0 rfl (lv_at hl 0 rfl) ?_
  refine va_get (D := D) (ci := 1) (v := .ref (A 1)) (C := RX1) (T := TX1) (N := 9) hx hb hts hin hown hK hP 0 rfl rfl 4 (by decide) f_19 (fun _ h9 => h9) rfl dX1_chill_1 ?_
  refine lv_iload_n hx hb dX1_chill_4 rfl (lv_at hl 1 rfl) ?_
  refine xa_ld (i := a) (v := (nI ((s_tr S) a))) hx hb hK hP 1 0 rfl rfl (by omega) (by decide) (rfl) dX1_chill_5 ?_
  refine xn_ifne (i := ((s_tr S) a)) (tgt := 14) hx hb (by omega) dX1_chill_6 (by decide) (fun c1 => ?_) (fun c1 => ?_)
  · refine lv_aload_n hx hb dX1_chill_14 rfl (lv_at hl 0 rfl) ?_
    refine va_get (D := D) (ci := 1) (v := .ref (A 5)) (C := RX1) (T := TX1) (N := 9) hx hb hts hin hown hK hP 0 rfl rfl 8 (by decide) f_32 (fun _ h9 => h9) rfl dX1_chill_15 ?_
    refine lv_bipush (v := 6) hx hb dX1_chill_18 (by decide) ?_
    refine lv_iload_n hx hb dX1_chill_20 rfl (lv_at hl 1 rfl) ?_
    refine xn_mulc (i := 6) (j := a) hx hb dX1_chill_21 ?_
    refine lv_aload_n hx hb dX1_chill_22 rfl (lv_at hl 0 rfl) ?_
    refine va_get (D := D) (ci := 1) (v := .ref (A 1)) (C := RX1) (T := TX1) (N := 9) hx hb hts hin hown hK hP 0 rfl rfl 4 (by decide) f_19 (fun _ h9 => h9) rfl dX1_chill_23 ?_
    refine lv_iload_n hx hb dX1_chill_26 rfl (lv_at hl 1 rfl) ?_
    refine xa_ld (i := a) (v := (nI ((s_tr S) a))) hx hb hK hP 1 0 rfl rfl (by omega) (by decide) (rfl) dX1_chill_27 ?_
    refine xn_add (i := (a * 6)) (j := ((s_tr S) a)) hx hb dX1_chill_28 ?_
    refine lv_iconst (v := 1) hx hb dX1_chill_29 (by decide) ?_
    refine xn_sub (i := ((a * 6) + ((s_tr S) a))) (j := 1) hx hb (by omega) dX1_chill_30 ?_
    refine xa_ld (i := (((a * 6) + ((s_tr S) a)) - 1)) (v := (s_ch S (a * 6 + (s_tr S a - 1)))) hx hb hK hP 5 4 rfl rfl (by omega) (by decide) (congrArg (s_ch S) (by omega)) dX1_chill_31 ?_
    exact W.iret (v := (s_ch S (a * 6 + (s_tr S a - 1)))) hx hb hr (fun t ht hW => ⟨_, rfl, by simp [lc, c1], ht⟩) (fun q h => by cases h) dX1_chill_32
  · refine lv_bipush (v := 100) hx hb dX1_chill_9 (by decide) ?_
    refine lv_goto (tgt := 32) hx hb dX1_chill_11 (by decide) ?_
    exact W.iret (v := 100) hx hb hr (fun t ht hW => ⟨_, rfl, by simp [lc, c1], ht⟩) (fun q h => by cases h) dX1_chill_32
set_option maxHeartbeats 4000000 in
set_option maxRecDepth 100000 in
theorem c_X1_asked (l : Launch) (D : va_G) (A : Nat → Nat) (K : Nat → ClassId) (S : XS) (hI : x_inv S) (w : Int32) (sg : Int32) (a : Nat) (b : Nat) (ha : a < 8) (hb8 : b < 8) : Met l yX1_asked wsX1_asked (rmD 1) (va_Pc [.ref (A 0), .int w, .int sg, .int (nI a), .int (nI b)] (i_w D vwCl (wM A K S) (tM K))) (vp_Si (fun r => r = (zi (hc S w sg a b)))) 0 0 (fun _ => False) := by
  refine Met.ofW (cc := cX1_asked) (maxL := 5) (ret := some .boolean) (by decide) rfl ?_
  intro p e s m args below meth c s₁ B hml hv
  obtain ⟨rfl, hP, hK⟩ := hv
  have hx := B.exec
  have hb := B.bytes
  have hr := B.returns
  have hts := atoms_spec (ws := wsX1_asked) B.pre
  have hown : s.vm.findClass RX1 = some m.cls := findClass_of_methodNamed B.named
  have hlocks := B.notSynchronized
  have hn8 := hI.1
  have hin : ∀ w ∈ u_ws RX1 TX1 9, w ∈ wsX1_asked := fun w h => List.mem_cons_of_mem _ (List.mem_append_right _ h)
  have f_23 := hts (.fieldLink RX1 23 "ChronoTrialsModel" "best" "[I") (by decide +kernel)
  have hl := lv_entry ([.ref (A 0), .int w, .int sg, .int (nI a), .int (nI b)]) (n := 5) (Nat.le_of_ble_eq_true rfl)
  rw [lg_entry_eq]
  generalize (lg_sl ([.ref (A 0), .int w, .int sg, .int (nI a), .int (nI b)]) ++ List.replicate (5 - (lg_sl ([.ref (A 0), .int w, .int sg, .int (nI a), .int (nI b)])).length) Slot.unset).toArray = ls at hl ⊢
  have hl : lv_has ls 5 [(0, .ref (A 0)), (1, .int w), (2, .int sg), (3, .int (nI a)), (4, .int (nI b))] := hl
  refine lv_iload_n hx hb dX1_asked_0 rfl (lv_at hl 1 rfl) ?_
  refine lv_if_ne (tgt := 25) hx hb dX1_asked_1 (by decide) (fun c1 => ?_) (fun c1 => ?_)
  · refine lv_iload_n hx hb dX1_asked_25 rfl (lv_at hl 2 rfl) ?_
    refine lv_aload_n hx hb dX1_asked_26 rfl (lv_at hl 0 rfl) ?_
    refine lv_iload_n hx hb dX1_asked_27 rfl (lv_at hl 3 rfl) ?_
    refine rc_V (v := (lc S a)) ⟨hx, hb, hml, hown, hts⟩ [.int (nI a)] [.int sg] (c_X1_chill l D A K S hI a (by omega)) (cwV 1 hts gX1_asked_X1_chill rfl rfl rfl (by decide +kernel) ⟨Nat.le_of_ble_eq_true rfl, Nat.le_of_ble_eq_true rfl⟩) hK hP (va_recv hK hP (ci := 1) (q0 := 0) rfl rfl) rfl hl.1 rfl (Nat.le_of_ble_eq_true rfl) ⟨Nat.zero_le _, Nat.zero_le _⟩ dX1_asked_28 ?_
    refine lv_aload_n hx hb dX1_asked_31 rfl (lv_at hl 0 rfl) ?_
    refine lv_iload hx hb dX1_asked_32 (lv_at hl 4 rfl) ?_
    refine rc_V (v := (lc S b)) ⟨hx, hb, hml, hown, hts⟩ [.int (nI b)] [.int (lc S a), .int sg] (c_X1_chill l D A K S hI b (by omega)) (cwV 1 hts gX1_asked_X1_chill rfl rfl rfl (by decide +kernel) ⟨Nat.le_of_ble_eq_true rfl, Nat.le_of_ble_eq_true rfl⟩) hK hP (va_recv hK hP (ci := 1) (q0 := 0) rfl rfl) rfl hl.1 rfl (Nat.le_of_ble_eq_true rfl) ⟨Nat.zero_le _, Nat.zero_le _⟩ dX1_asked_34 ?_
    refine lv_bipush (v := 100) hx hb dX1_asked_37 (by decide) ?_
    refine rc_S (v := (zi (h_all 100 sg (lc S a) (lc S b)))) ⟨hx, hb, hml, hown, hts⟩ [.int sg, .int (lc S a), .int (lc S b), .int 100] [] (c_X1_holds l sg (lc S a) (lc S b) 100) (va_cwS 4 hts gX1_asked_X1_holds rfl rfl rfl (by decide +kernel) ⟨Nat.le_of_ble_eq_true rfl, Nat.le_of_ble_eq_true rfl⟩) rfl hl.1 rfl (Nat.le_of_ble_eq_true rfl) ⟨Nat.zero_le _, Nat.zero_le _⟩ dX1_asked_39 ?_
    exact W.zret (v := zi (h_all 100 sg (lc S a) (lc S b))) hx hb hr (zi_n _) (fun t ht hW => ⟨_, rfl, by simp [hc, c1], ht⟩) (fun q h => by cases h) dX1_asked_42
  · refine lv_iload_n hx hb dX1_asked_4 rfl (lv_at hl 2 rfl) ?_
    refine lv_aload_n hx hb dX1_asked_5 rfl (lv_at hl 0 rfl) ?_
    refine va_get (D := D) (ci := 1) (v := .ref (A 2)) (C := RX1) (T := TX1) (N := 9) hx hb hts hin hown hK hP 0 rfl rfl 5 (by decide) f_23 (fun _ h9 => h9) rfl dX1_asked_6 ?_
    refine lv_iload_n hx hb dX1_asked_9 rfl (lv_at hl 3 rfl) ?_
    refine xa_ld (i := a) (v := ((s_bs S) a)) hx hb hK hP 2 1 rfl rfl (by omega) (by decide) (rfl) dX1_asked_10 ?_
    refine lv_aload_n hx hb dX1_asked_11 rfl (lv_at hl 0 rfl) ?_
    refine va_get (D := D) (ci := 1) (v := .ref (A 2)) (C := RX1) (T := TX1) (N := 9) hx hb hts hin hown hK hP 0 rfl rfl 5 (by decide) f_23 (fun _ h9 => h9) rfl dX1_asked_12 ?_
    refine lv_iload hx hb dX1_asked_15 (lv_at hl 4 rfl) ?_
    refine xa_ld (i := b) (v := ((s_bs S) b)) hx hb hK hP 2 1 rfl rfl (by omega) (by decide) (rfl) dX1_asked_17 ?_
    refine lv_iconst (v := (-1)) hx hb dX1_asked_18 (by decide) ?_
    refine rc_S (v := (zi (h_all (-1) sg ((s_bs S) a) ((s_bs S) b)))) ⟨hx, hb, hml, hown, hts⟩ [.int sg, .int ((s_bs S) a), .int ((s_bs S) b), .int (-1)] [] (c_X1_holds l sg ((s_bs S) a) ((s_bs S) b) (-1)) (va_cwS 4 hts gX1_asked_X1_holds rfl rfl rfl (by decide +kernel) ⟨Nat.le_of_ble_eq_true rfl, Nat.le_of_ble_eq_true rfl⟩) rfl hl.1 rfl (Nat.le_of_ble_eq_true rfl) ⟨Nat.zero_le _, Nat.zero_le _⟩ dX1_asked_19 ?_
    refine lv_goto (tgt := 42) hx hb dX1_asked_22 (by decide) ?_
    exact W.zret (v := zi (h_all (-1) sg ((s_bs S) a) ((s_bs S) b))) hx hb hr (zi_n _) (fun t ht hW => ⟨_, rfl, by simp [hc, c1], ht⟩) (fun q h => by cases h) dX1_asked_42
