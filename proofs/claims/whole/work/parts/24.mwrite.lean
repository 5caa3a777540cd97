set_option maxHeartbeats 4000000 in
set_option maxRecDepth 100000 in
theorem c_X1_admit (l : Launch) (D : va_G) (A : Nat → Nat) (K : Nat → ClassId) (S : XS) (hI : x_inv S) (sz : Nat) : Met l yX1_admit wsX1_admit (rmD 0) (va_Pc [.ref (A 0)] (Pw D (wM A K S) (tM K) sz)) (va_Qi (fun r u => (r, u) = m_admit S) (Bw D (wM A K) (tM K) (va_A (wM A K S) sz)) (va_A (wM A K S) sz)) 0 0 (va_A (wM A K S) sz) := by
  refine Met.ofW (cc := cX1_admit) (maxL := 1) (ret := some .int) (by decide) rfl ?_
  intro p e s m args below meth c s₁ B hml hv
  obtain ⟨rfl, hsz, hP, hK, hD0⟩ := hv
  have hx := B.exec
  have hb := B.bytes
  have hr := B.returns
  have hts := atoms_spec (ws := wsX1_admit) B.pre
  have hown : s.vm.findClass RX1 = some m.cls := findClass_of_methodNamed B.named
  have hlocks := B.notSynchronized
  have hn8 := hI.1
  have hin : ∀ w ∈ u_ws RX1 TX1 9, w ∈ wsX1_admit := fun w h => List.mem_cons_of_mem _ (List.mem_append_right _ h)
  have f_19 := hts (.fieldLink RX1 19 "ChronoTrialsModel" "many" "[I") (by decide +kernel)
  have f_23 := hts (.fieldLink RX1 23 "ChronoTrialsModel" "best" "[I") (by decide +kernel)
  have f_26 := hts (.fieldLink RX1 26 "ChronoTrialsModel" "seal" "[I") (by decide +kernel)
  have f_35 := hts (.fieldLink RX1 35 "ChronoTrialsModel" "clocks" "I") (by decide +kernel)
  subst hsz
  have hD := hD0.self (sz := s.heap.size)
  generalize hAe : va_A (wM A K S) s.heap.size = A9 at hD ⊢
  have hS : va_S A9 s.heap s.heap [] := va_S.rf
  have hl := lv_entry ([.ref (A 0)]) (n := 1) (Nat.le_of_ble_eq_true rfl)
  rw [lg_entry_eq]
  generalize (lg_sl ([.ref (A 0)]) ++ List.replicate (1 - (lg_sl ([.ref (A 0)])).length) Slot.unset).toArray = ls at hl ⊢
  have hl : lv_has ls 1 [(0, .ref (A 0))] := hl
  refine lv_aload_n hx hb dX1_admit_0 rfl (lv_at hl 0 rfl) ?_
  refine va_get (D := D) (ci := 1) (v := .int (nI (s_n S))) (C := RX1) (T := TX1) (N := 9) hx hb hts hin hown hK hP 0 rfl rfl 0 (by decide) f_35 (fun _ h9 => h9) rfl dX1_admit_1 ?_
  refine lv_bipush (v := 8) hx hb dX1_admit_4 (by decide) ?_
  refine xn_ne (i := (s_n S)) (j := 8) (tgt := 11) hx hb (by omega) (by omega) dX1_admit_6 (by decide) (fun c1 => ?_) (fun c1 => ?_)
  · refine lv_aload_n hx hb dX1_admit_11 rfl (lv_at hl 0 rfl) ?_
    refine va_get (D := D) (ci := 1) (v := .ref (A 1)) (C := RX1) (T := TX1) (N := 9) hx hb hts hin hown hK hP 0 rfl rfl 4 (by decide) f_19 (fun _ h9 => h9) rfl dX1_admit_12 ?_
    refine lv_aload_n hx hb dX1_admit_15 rfl (lv_at hl 0 rfl) ?_
    refine va_get (D := D) (ci := 1) (v := .int (nI (s_n S))) (C := RX1) (T := TX1) (N := 9) hx hb hts hin hown hK hP 0 rfl rfl 0 (by decide) f_35 (fun _ h9 => h9) rfl dX1_admit_16 ?_
    refine lv_iconst (v := 0) hx hb dX1_admit_19 (by decide) ?_
    refine xa_st (i := (s_n S)) (x := nI 0) (ws' := wM A K (u_tr (upN (s_tr S) (s_n S) 0) S)) hx hb hK hP hD hS 1 0 rfl rfl (by omega) (by decide) (upN_e _ _ _) rfl dX1_admit_20 (fun H locs hP hD hS => ?_)
    refine lv_aload_n hx hb dX1_admit_21 rfl (lv_at hl 0 rfl) ?_
    refine va_get (D := D) (ci := 1) (v := .ref (A 2)) (C := RX1) (T := TX1) (N := 9) hx hb hts hin hown hK hP 0 rfl rfl 5 (by decide) f_23 (fun _ h9 => h9) rfl dX1_admit_22 ?_
    refine lv_aload_n hx hb dX1_admit_25 rfl (lv_at hl 0 rfl) ?_
    refine va_get (D := D) (ci := 1) (v := .int (nI (s_n S))) (C := RX1) (T := TX1) (N := 9) hx hb hts hin hown hK hP 0 rfl rfl 0 (by decide) f_35 (fun _ h9 => h9) rfl dX1_admit_26 ?_
    refine lv_iconst (v := (-1)) hx hb dX1_admit_29 (by decide) ?_
    refine xa_st (i := (s_n S)) (x := (-1)) (ws' := wM A K (u_bs (upd (s_bs S) (s_n S) (-1)) (u_tr (upN (s_tr S) (s_n S) 0) S))) hx hb hK hP hD hS 2 1 rfl rfl (by omega) (by decide) (rfl) rfl dX1_admit_30 (fun H locs hP hD hS => ?_)
    refine lv_aload_n hx hb dX1_admit_31 rfl (lv_at hl 0 rfl) ?_
    refine va_get (D := D) (ci := 1) (v := .ref (A 3)) (C := RX1) (T := TX1) (N := 9) hx hb hts hin hown hK hP 0 rfl rfl 6 (by decide) f_26 (fun _ h9 => h9) rfl dX1_admit_32 ?_
    refine lv_aload_n hx hb dX1_admit_35 rfl (lv_at hl 0 rfl) ?_
    refine va_get (D := D) (ci := 1) (v := .int (nI (s_n S))) (C := RX1) (T := TX1) (N := 9) hx hb hts hin hown hK hP 0 rfl rfl 0 (by decide) f_35 (fun _ h9 => h9) rfl dX1_admit_36 ?_
    refine lv_iconst (v := 0) hx hb dX1_admit_39 (by decide) ?_
    refine xa_st (i := (s_n S)) (x := zi false) (ws' := wM A K (u_sl (upB (s_sl S) (s_n S) false) (u_bs (upd (s_bs S) (s_n S) (-1)) (u_tr (upN (s_tr S) (s_n S) 0) S)))) hx hb hK hP hD hS 3 2 rfl rfl (by omega) (by decide) (upB_e _ _ _) rfl dX1_admit_40 (fun H locs hP hD hS => ?_)
    refine lv_aload_n hx hb dX1_admit_41 rfl (lv_at hl 0 rfl) ?_
    refine lv_dup hx hb dX1_admit_42 rfl ?_
    refine va_get (D := D) (ci := 1) (v := .int (nI (s_n S))) (C := RX1) (T := TX1) (N := 9) hx hb hts hin hown hK hP 0 rfl rfl 0 (by decide) f_35 (fun _ h9 => h9) rfl dX1_admit_43 ?_
    refine lv_iconst (v := 1) hx hb dX1_admit_46 (by decide) ?_
    refine xn_add (i := (s_n S)) (j := 1) hx hb dX1_admit_47 ?_
    refine va_put (D := D) (ci := 1) (v := .int (nI ((s_n S) + 1))) (ty := .int) (C := RX1) (T := TX1) (N := 9) hx hb hts hin tyX1 tyX1_ok nmX1 hown hK hP hD hS 0 rfl rfl 0 (by decide) f_35 (fun _ h9 => h9) rfl (by decide +kernel) rfl rfl (Nat.le_of_ble_eq_true rfl) dX1_admit_48 (fun H locs hP hD hS => ?_)
    have hP : va_P D vwCl (wM A K (u_n ((s_n S) + 1) (u_sl (upB (s_sl S) (s_n S) false) (u_bs (upd (s_bs S) (s_n S) (-1)) (u_tr (upN (s_tr S) (s_n S) 0) S))))) H := hP
    have hD : va_D A9 (wM A K (u_n ((s_n S) + 1) (u_sl (upB (s_sl S) (s_n S) false) (u_bs (upd (s_bs S) (s_n S) (-1)) (u_tr (upN (s_tr S) (s_n S) 0) S))))) := hD
    refine lv_aload_n hx hb dX1_admit_51 rfl (lv_at hl 0 rfl) ?_
    refine va_get (D := D) (ci := 1) (v := .int (nI ((s_n S) + 1))) (C := RX1) (T := TX1) (N := 9) hx hb hts hin hown hK hP 0 rfl rfl 0 (by decide) f_35 (fun _ h9 => h9) rfl dX1_admit_52 ?_
    refine lv_iconst (v := 1) hx hb dX1_admit_55 (by decide) ?_
    refine xn_sub (i := ((s_n S) + 1)) (j := 1) hx hb (by omega) dX1_admit_56 ?_
    exact W.iret (v := (nI (((s_n S) + 1) - 1))) hx hb hr (fun t ht hW => ⟨⟨(nI (((s_n S) + 1) - 1)), (u_n ((s_n S) + 1) (u_sl (upB (s_sl S) (s_n S) false) (u_bs (upd (s_bs S) (s_n S) (-1)) (u_tr (upN (s_tr S) (s_n S) 0) S)))), rfl, by simp [m_admit, c1], by rw [ht]; exact hP, va_K.moved hW.alike hK, hD⟩, hS.F ht⟩) hS.2.2 dX1_admit_57
  · refine lv_iconst (v := (-1)) hx hb dX1_admit_9 (by decide) ?_
    exact W.iret (v := (-1)) hx hb hr (fun t ht hW => ⟨⟨(-1), S, rfl, by simp [m_admit, c1], by rw [ht]; exact hP, va_K.moved hW.alike hK, hD⟩, hS.F ht⟩) hS.2.2 dX1_admit_10
set_option maxHeartbeats 4000000 in
set_option maxRecDepth 100000 in
theorem c_X1_prize (l : Launch) (D : va_G) (A : Nat → Nat) (K : Nat → ClassId) (S : XS) (hI : x_inv S) (sz : Nat) (v : Int32) : Met l yX1_prize wsX1_prize (rmD 1) (va_Pc [.ref (A 0), .int v] (Pw D (wM A K S) (tM K) sz)) (va_Qi (fun r u => (r, u) = m_prize S v) (Bw D (wM A K) (tM K) (va_A (wM A K S) sz)) (va_A (wM A K S) sz)) 0 0 (va_A (wM A K S) sz) := by
  refine Met.ofW (cc := cX1_prize) (maxL := 2) (ret := some .boolean) (by decide) rfl ?_
  intro p e s m args below meth c s₁ B hml hv
  obtain ⟨rfl, hsz, hP, hK, hD0⟩ := hv
  have hx := B.exec
  have hb := B.bytes
  have hr := B.returns
  have hts := atoms_spec (ws := wsX1_prize) B.pre
  have hown : s.vm.findClass RX1 = some m.cls := findClass_of_methodNamed B.named
  have hlocks := B.notSynchronized
  have hn8 := hI.1
  have hin : ∀ w ∈ u_ws RX1 TX1 9, w ∈ wsX1_prize := fun w h => List.mem_cons_of_mem _ (List.mem_append_right _ h)
  have f_9 := hts (.fieldLink RX1 9 "ChronoTrialsModel" "prize" "I") (by decide +kernel)
  subst hsz
  have hD := hD0.self (sz := s.heap.size)
  generalize hAe : va_A (wM A K S) s.heap.size = A9 at hD ⊢
  have hS : va_S A9 s.heap s.heap [] := va_S.rf
  have hl := lv_entry ([.ref (A 0), .int v]) (n := 2) (Nat.le_of_ble_eq_true rfl)
  rw [lg_entry_eq]
  generalize (lg_sl ([.ref (A 0), .int v]) ++ List.replicate (2 - (lg_sl ([.ref (A 0), .int v])).length) Slot.unset).toArray = ls at hl ⊢
  have hl : lv_has ls 2 [(0, .ref (A 0)), (1, .int v)] := hl
  refine lv_iload_n hx hb dX1_prize_0 rfl (lv_at hl 1 rfl) ?_
  refine rc_S (v := (zi (h_in v (-1) 999))) ⟨hx, hb, hml, hown, hts⟩ [.int v] [] (c_X1_isRate l v) (va_cwS 1 hts gX1_prize_X1_isRate rfl rfl rfl (by decide +kernel) ⟨Nat.le_of_ble_eq_true rfl, Nat.le_of_ble_eq_true rfl⟩) rfl hl.1 rfl (Nat.le_of_ble_eq_true rfl) ⟨Nat.zero_le _, Nat.zero_le _⟩ dX1_prize_1 ?_
  refine xz_ne (b := (h_in v (-1) 999)) (tgt := 9) hx hb dX1_prize_4 (by decide) (fun c1 => ?_) (fun c1 => ?_)
  · refine lv_aload_n hx hb dX1_prize_9 rfl (lv_at hl 0 rfl) ?_
    refine lv_iload_n hx hb dX1_prize_10 rfl (lv_at hl 1 rfl) ?_
    refine va_put (D := D) (ci := 1) (v := .int v) (ty := .int) (C := RX1) (T := TX1) (N := 9) hx hb hts hin tyX1 tyX1_ok nmX1 hown hK hP hD hS 0 rfl rfl 1 (by decide) f_9 (fun _ h9 => h9) rfl (by decide +kernel) rfl rfl (Nat.le_of_ble_eq_true rfl) dX1_prize_11 (fun H locs hP hD hS => ?_)
    have hP : va_P D vwCl (wM A K (u_pz v S)) H := hP
    have hD : va_D A9 (wM A K (u_pz v S)) := hD
    refine lv_iconst (v := 1) hx hb dX1_prize_14 (by decide) ?_
    exact W.zret (v := zi true) hx hb hr (zi_n _) (fun t ht hW => ⟨⟨zi true, (u_pz v S), rfl, by simp [m_prize, c1], by rw [ht]; exact hP, va_K.moved hW.alike hK, hD⟩, hS.F ht⟩) hS.2.2 dX1_prize_15
  · refine lv_iconst (v := 0) hx hb dX1_prize_7 (by decide) ?_
    exact W.zret (v := zi false) hx hb hr (zi_n _) (fun t ht hW => ⟨⟨zi false, S, rfl, by simp [m_prize, c1], by rw [ht]; exact hP, va_K.moved hW.alike hK, hD⟩, hS.F ht⟩) hS.2.2 dX1_prize_8
set_option maxHeartbeats 4000000 in
set_option maxRecDepth 100000 in
theorem c_X1_frost (l : Launch) (D : va_G) (A : Nat → Nat) (K : Nat → ClassId) (S : XS) (hI : x_inv S) (sz : Nat) (v : Int32) : Met l yX1_frost wsX1_frost (rmD 1) (va_Pc [.ref (A 0), .int v] (Pw D (wM A K S) (tM K) sz)) (va_Qi (fun r u => (r, u) = m_frost S v) (Bw D (wM A K) (tM K) (va_A (wM A K S) sz)) (va_A (wM A K S) sz)) 0 0 (va_A (wM A K S) sz) := by
  refine Met.ofW (cc := cX1_frost) (maxL := 2) (ret := some .boolean) (by decide) rfl ?_
  intro p e s m args below meth c s₁ B hml hv
  obtain ⟨rfl, hsz, hP, hK, hD0⟩ := hv
  have hx := B.exec
  have hb := B.bytes
  have hr := B.returns
  have hts := atoms_spec (ws := wsX1_frost) B.pre
  have hown : s.vm.findClass RX1 = some m.cls := findClass_of_methodNamed B.named
  have hlocks := B.notSynchronized
  have hn8 := hI.1
  have hin : ∀ w ∈ u_ws RX1 TX1 9, w ∈ wsX1_frost := fun w h => List.mem_cons_of_mem _ (List.mem_append_right _ h)
  have f_13 := hts (.fieldLink RX1 13 "ChronoTrialsModel" "frost" "I") (by decide +kernel)
  subst hsz
  have hD := hD0.self (sz := s.heap.size)
  generalize hAe : va_A (wM A K S) s.heap.size = A9 at hD ⊢
  have hS : va_S A9 s.heap s.heap [] := va_S.rf
  have hl := lv_entry ([.ref (A 0), .int v]) (n := 2) (Nat.le_of_ble_eq_true rfl)
  rw [lg_entry_eq]
  generalize (lg_sl ([.ref (A 0), .int v]) ++ List.replicate (2 - (lg_sl ([.ref (A 0), .int v])).length) Slot.unset).toArray = ls at hl ⊢
  have hl : lv_has ls 2 [(0, .ref (A 0)), (1, .int v)] := hl
  refine lv_iload_n hx hb dX1_frost_0 rfl (lv_at hl 1 rfl) ?_
  refine rc_S (v := (zi (h_in v (-99) 100))) ⟨hx, hb, hml, hown, hts⟩ [.int v] [] (c_X1_isChill l v) (va_cwS 1 hts gX1_frost_X1_isChill rfl rfl rfl (by decide +kernel) ⟨Nat.le_of_ble_eq_true rfl, Nat.le_of_ble_eq_true rfl⟩) rfl hl.1 rfl (Nat.le_of_ble_eq_true rfl) ⟨Nat.zero_le _, Nat.zero_le _⟩ dX1_frost_1 ?_
  refine xz_ne (b := (h_in v (-99) 100)) (tgt := 9) hx hb dX1_frost_4 (by decide) (fun c1 => ?_) (fun c1 => ?_)
  · refine lv_aload_n hx hb dX1_frost_9 rfl (lv_at hl 0 rfl) ?_
    refine lv_iload_n hx hb dX1_frost_10 rfl (lv_at hl 1 rfl) ?_
    refine va_put (D := D) (ci := 1) (v := .int v) (ty := .int) (C := RX1) (T := TX1) (N := 9) hx hb hts hin tyX1 tyX1_ok nmX1 hown hK hP hD hS 0 rfl rfl 2 (by decide) f_13 (fun _ h9 => h9) rfl (by decide +kernel) rfl rfl (Nat.le_of_ble_eq_true rfl) dX1_frost_11 (fun H locs hP hD hS => ?_)
    have hP : va_P D vwCl (wM A K (u_fr v S)) H := hP
    have hD : va_D A9 (wM A K (u_fr v S)) := hD
    refine lv_iconst (v := 1) hx hb dX1_frost_14 (by decide) ?_
    exact W.zret (v := zi true) hx hb hr (zi_n _) (fun t ht hW => ⟨⟨zi true, (u_fr v S), rfl, by simp [m_frost, c1], by rw [ht]; exact hP, va_K.moved hW.alike hK, hD⟩, hS.F ht⟩) hS.2.2 dX1_frost_15
  · refine lv_iconst (v := 0) hx hb dX1_frost_7 (by decide) ?_
    exact W.zret (v := zi false) hx hb hr (zi_n _) (fun t ht hW => ⟨⟨zi false, S, rfl, by simp [m_frost, c1], by rw [ht]; exact hP, va_K.moved hW.alike hK, hD⟩, hS.F ht⟩) hS.2.2 dX1_frost_8
set_option maxHeartbeats 4000000 in
set_option maxRecDepth 100000 in
theorem c_X1_trial (l : Launch) (D : va_G) (A : Nat → Nat) (K : Nat → ClassId) (S : XS) (hI : x_inv S) (sz : Nat) (v : Int32) (hd : Int32) (te : Int32) : Met l yX1_trial wsX1_trial (rmD 2) (va_Pc [.ref (A 0), .int v, .int hd, .int te] (Pw D (wM A K S) (tM K) sz)) (va_Qi (fun r u => (r, u) = m_trial S v hd te) (Bw D (wM A K) (tM K) (va_A (wM A K S) sz)) (va_A (wM A K S) sz)) 0 0 (va_A (wM A K S) sz) := by
  refine Met.ofW (cc := cX1_trial) (maxL := 9) (ret := some .int) (by decide) rfl ?_
  intro p e s m args below meth c s₁ B hml hv
  obtain ⟨rfl, hsz, hP, hK, hD0⟩ := hv
  have hx := B.exec
  have hb := B.bytes
  have hr := B.returns
  have hts := atoms_spec (ws := wsX1_trial) B.pre
  have hown : s.vm.findClass RX1 = some m.cls := findClass_of_methodNamed B.named
  have hlocks := B.notSynchronized
  have hn8 := hI.1
  have hin : ∀ w ∈ u_ws RX1 TX1 9, w ∈ wsX1_trial := fun w h => List.mem_cons_of_mem _ (List.mem_append_right _ h)
  have f_9 := hts (.fieldLink RX1 9 "ChronoTrialsModel" "prize" "I") (by decide +kernel)
  have f_16 := hts (.fieldLink RX1 16 "ChronoTrialsModel" "record" "I") (by decide +kernel)
  have f_19 := hts (.fieldLink RX1 19 "ChronoTrialsModel" "many" "[I") (by decide +kernel)
  have f_23 := hts (.fieldLink RX1 23 "ChronoTrialsModel" "best" "[I") (by decide +kernel)
  have f_29 := hts (.fieldLink RX1 29 "ChronoTrialsModel" "rates" "[I") (by decide +kernel)
  have f_32 := hts (.fieldLink RX1 32 "ChronoTrialsModel" "chills" "[I") (by decide +kernel)
  subst hsz
  have hD := hD0.self (sz := s.heap.size)
  generalize hAe : va_A (wM A K S) s.heap.size = A9 at hD ⊢
  have hS : va_S A9 s.heap s.heap [] := va_S.rf
  have hl := lv_entry ([.ref (A 0), .int v, .int hd, .int te]) (n := 9) (Nat.le_of_ble_eq_true rfl)
  rw [lg_entry_eq]
  generalize (lg_sl ([.ref (A 0), .int v, .int hd, .int te]) ++ List.replicate (9 - (lg_sl ([.ref (A 0), .int v, .int hd, .int te])).length) Slot.unset).toArray = ls at hl ⊢
  have hl : lv_has ls 9 [(0, .ref (A 0)), (1, .int v), (2, .int hd), (3, .int te)] := hl
  refine lv_aload_n hx hb dX1_trial_0 rfl (lv_at hl 0 rfl) ?_
  refine lv_iload_n hx hb dX1_trial_1 rfl (lv_at hl 1 rfl) ?_
  refine rc_V (v := (zi (isClk S v))) ⟨hx, hb, hml, hown, hts⟩ [.int v] [] (c_X1_isClock l D A K S hI v) (cwV 1 hts gX1_trial_X1_isClock rfl rfl rfl (by decide +kernel) ⟨Nat.le_of_ble_eq_true rfl, Nat.le_of_ble_eq_true rfl⟩) hK hP (va_recv hK hP (ci := 1) (q0 := 0) rfl rfl) rfl hl.1 rfl (Nat.le_of_ble_eq_true rfl) ⟨Nat.zero_le _, Nat.zero_le _⟩ dX1_trial_2 ?_
  refine xz_eq (b := (isClk S v)) (tgt := 33) hx hb dX1_trial_5 (by decide) (fun c1 => ?_) (fun c1 => ?_)
  · refine lv_iconst (v := (-1)) hx hb dX1_trial_33 (by decide) ?_
    exact W.iret (v := (-1)) hx hb hr (fun t ht hW => ⟨⟨(-1), S, rfl, by simp [m_trial, trM, tr3, x_marks, mk4, c1], by rw [ht]; exact hP, va_K.moved hW.alike hK, hD⟩, hS.F ht⟩) hS.2.2 dX1_trial_34
  · obtain ⟨a, ha, rfl⟩ := isClk_ex c1 hn8
    have ea : (nI a).toNatClampNeg = a := nI_clamp (by omega)
    have ht6 := hI.2 a
    refine lv_aload_n hx hb dX1_trial_8 rfl (lv_at hl 0 rfl) ?_
    refine va_get (D := D) (ci := 1) (v := .ref (A 1)) (C := RX1) (T := TX1) (N := 9) hx hb hts hin hown hK hP 0 rfl rfl 4 (by decide) f_19 (fun _ h9 => h9) rfl dX1_trial_9 ?_
    refine lv_iload_n hx hb dX1_trial_12 rfl (lv_at hl 1 rfl) ?_
    refine xa_ld (i := a) (v := (nI ((s_tr S) a))) hx hb hK hP 1 0 rfl rfl (by omega) (by decide) (rfl) dX1_trial_13 ?_
    refine lv_bipush (v := 6) hx hb dX1_trial_14 (by decide) ?_
    refine xn_eq (i := ((s_tr S) a)) (j := 6) (tgt := 33) hx hb (by omega) (by omega) dX1_trial_16 (by decide) (fun c2 => ?_) (fun c2 => ?_)
    · refine lv_iconst (v := (-1)) hx hb dX1_trial_33 (by decide) ?_
      exact W.iret (v := (-1)) hx hb hr (fun t ht hW => ⟨⟨(-1), S, rfl, by simp [m_trial, trM, tr3, x_marks, mk4, c1, ea, c2], by rw [ht]; exact hP, va_K.moved hW.alike hK, hD⟩, hS.F ht⟩) hS.2.2 dX1_trial_34
    · refine lv_iload_n hx hb dX1_trial_19 rfl (lv_at hl 2 rfl) ?_
      refine rc_S (v := (zi (h_in hd (-1) 999))) ⟨hx, hb, hml, hown, hts⟩ [.int hd] [] (c_X1_isRate l hd) (va_cwS 1 hts gX1_trial_X1_isRate rfl rfl rfl (by decide +kernel) ⟨Nat.le_of_ble_eq_true rfl, Nat.le_of_ble_eq_true rfl⟩) rfl hl.1 rfl (Nat.le_of_ble_eq_true rfl) ⟨Nat.zero_le _, Nat.zero_le _⟩ dX1_trial_20 ?_
      refine xz_eq (b := (h_in hd (-1) 999)) (tgt := 33) hx hb dX1_trial_23 (by decide) (fun c3 => ?_) (fun c3 => ?_)
      · refine lv_iconst (v := (-1)) hx hb dX1_trial_33 (by decide) ?_
        exact W.iret (v := (-1)) hx hb hr (fun t ht hW => ⟨⟨(-1), S, rfl, by simp [m_trial, trM, tr3, x_marks, mk4, c1, ea, c2, c3], by rw [ht]; exact hP, va_K.moved hW.alike hK, hD⟩, hS.F ht⟩) hS.2.2 dX1_trial_34
      · refine lv_iload_n hx hb dX1_trial_26 rfl (lv_at hl 3 rfl) ?_
        refine rc_S (v := (zi (h_in te (-99) 100))) ⟨hx, hb, hml, hown, hts⟩ [.int te] [] (c_X1_isChill l te) (va_cwS 1 hts gX1_trial_X1_isChill rfl rfl rfl (by decide +kernel) ⟨Nat.le_of_ble_eq_true rfl, Nat.le_of_ble_eq_true rfl⟩) rfl hl.1 rfl (Nat.le_of_ble_eq_true rfl) ⟨Nat.zero_le _, Nat.zero_le _⟩ dX1_trial_27 ?_
        refine xz_ne (b := (h_in te (-99) 100)) (tgt := 35) hx hb dX1_trial_30 (by decide) (fun c4 => ?_) (fun c4 => ?_)
        · refine lv_bipush (v := 6) hx hb dX1_trial_35 (by decide) ?_
          refine lv_iload_n hx hb dX1_trial_37 rfl (lv_at hl 1 rfl) ?_
          refine xn_mulc (i := 6) (j := a) hx hb dX1_trial_38 ?_
          refine lv_aload_n hx hb dX1_trial_39 rfl (lv_at hl 0 rfl) ?_
          refine va_get (D := D) (ci := 1) (v := .ref (A 1)) (C := RX1) (T := TX1) (N := 9) hx hb hts hin hown hK hP 0 rfl rfl 4 (by decide) f_19 (fun _ h9 => h9) rfl dX1_trial_40 ?_
          refine lv_iload_n hx hb dX1_trial_43 rfl (lv_at hl 1 rfl) ?_
          refine xa_ld (i := a) (v := (nI ((s_tr S) a))) hx hb hK hP 1 0 rfl rfl (by omega) (by decide) (rfl) dX1_trial_44 ?_
          refine xn_add (i := (a * 6)) (j := ((s_tr S) a)) hx hb dX1_trial_45 ?_
          refine lv_istore (lv' := [(4, .int (nI ((a * 6) + ((s_tr S) a)))), (0, .ref (A 0)), (1, .int (nI a)), (2, .int hd), (3, .int te)]) hx hb dX1_trial_46 hl (by decide) rfl (fun ls hl => ?_)
          refine lv_aload_n hx hb dX1_trial_48 rfl (lv_at hl 1 rfl) ?_
          refine va_get (D := D) (ci := 1) (v := .ref (A 4)) (C := RX1) (T := TX1) (N := 9) hx hb hts hin hown hK hP 0 rfl rfl 7 (by decide) f_29 (fun _ h9 => h9) rfl dX1_trial_49 ?_
          refine lv_iload hx hb dX1_trial_52 (lv_at hl 0 rfl) ?_
          refine lv_iload_n hx hb dX1_trial_54 rfl (lv_at hl 3 rfl) ?_
          refine xa_st (i := ((a * 6) + ((s_tr S) a))) (x := hd) (ws' := wM A K (u_rt (upd (s_rt S) ((a * 6) + ((s_tr S) a)) hd) S)) hx hb hK hP hD hS 4 3 rfl rfl (by omega) (by decide) (rfl) rfl dX1_trial_55 (fun H locs hP hD hS => ?_)
          refine lv_aload_n hx hb dX1_trial_56 rfl (lv_at hl 1 rfl) ?_
          refine va_get (D := D) (ci := 1) (v := .ref (A 5)) (C := RX1) (T := TX1) (N := 9) hx hb hts hin hown hK hP 0 rfl rfl 8 (by decide) f_32 (fun _ h9 => h9) rfl dX1_trial_57 ?_
          refine lv_iload hx hb dX1_trial_60 (lv_at hl 0 rfl) ?_
          refine lv_iload_n hx hb dX1_trial_62 rfl (lv_at hl 4 rfl) ?_
          refine xa_st (i := ((a * 6) + ((s_tr S) a))) (x := te) (ws' := wM A K (u_ch (upd (s_ch S) ((a * 6) + ((s_tr S) a)) te) (u_rt (upd (s_rt S) ((a * 6) + ((s_tr S) a)) hd) S))) hx hb hK hP hD hS 5 4 rfl rfl (by omega) (by decide) (rfl) rfl dX1_trial_63 (fun H locs hP hD hS => ?_)
          refine lv_aload_n hx hb dX1_trial_64 rfl (lv_at hl 1 rfl) ?_
          refine va_get (D := D) (ci := 1) (v := .ref (A 1)) (C := RX1) (T := TX1) (N := 9) hx hb hts hin hown hK hP 0 rfl rfl 4 (by decide) f_19 (fun _ h9 => h9) rfl dX1_trial_65 ?_
          refine lv_iload_n hx hb dX1_trial_68 rfl (lv_at hl 2 rfl) ?_
          refine lv_dup2_11 hx hb dX1_trial_69 rfl rfl ?_
          refine xa_ld (i := a) (v := (nI ((s_tr S) a))) hx hb hK hP 1 0 rfl rfl (by omega) (by decide) (rfl) dX1_trial_70 ?_
          refine lv_iconst (v := 1) hx hb dX1_trial_71 (by decide) ?_
          refine xn_add (i := ((s_tr S) a)) (j := 1) hx hb dX1_trial_72 ?_
          refine xa_st (i := a) (x := nI (((s_tr S) a) + 1)) (ws' := wM A K (u_tr (upN (s_tr S) a (((s_tr S) a) + 1)) (u_ch (upd (s_ch S) ((a * 6) + ((s_tr S) a)) te) (u_rt (upd (s_rt S) ((a * 6) + ((s_tr S) a)) hd) S)))) hx hb hK hP hD hS 1 0 rfl rfl (by omega) (by decide) (upN_e _ _ _) rfl dX1_trial_73 (fun H locs hP hD hS => ?_)
          have hI1 : x_inv (u_tr (upN (s_tr S) a (s_tr S a + 1)) (u_ch (upd (s_ch S) (a * 6 + s_tr S a) te) (u_rt (upd (s_rt S) (a * 6 + s_tr S a) hd) S))) := ⟨hI.1, fun k => by show upN (s_tr S) a (s_tr S a + 1) k ≤ 6; unfold upN; have h6 := hI.2 k; split <;> omega⟩
          refine lv_aload_n hx hb dX1_trial_74 rfl (lv_at hl 1 rfl) ?_
          refine lv_iload_n hx hb dX1_trial_75 rfl (lv_at hl 4 rfl) ?_
          refine rc_V (v := (zi (cold S te))) ⟨hx, hb, hml, hown, hts⟩ [.int te] [] (c_X1_isCold l D A K (u_tr (upN (s_tr S) a (((s_tr S) a) + 1)) (u_ch (upd (s_ch S) ((a * 6) + ((s_tr S) a)) te) (u_rt (upd (s_rt S) ((a * 6) + ((s_tr S) a)) hd) S))) hI1 te) (cwV 1 hts gX1_trial_X1_isCold rfl rfl rfl (by decide +kernel) ⟨Nat.le_of_ble_eq_true rfl, Nat.le_of_ble_eq_true rfl⟩) hK hP (va_recv hK hP (ci := 1) (q0 := 0) rfl rfl) rfl hl.1 rfl (Nat.le_of_ble_eq_true rfl) ⟨Nat.zero_le _, Nat.zero_le _⟩ dX1_trial_76 ?_
          refine lv_istore (lv' := [(5, .int (zi (cold S te))), (4, .int (nI ((a * 6) + ((s_tr S) a)))), (0, .ref (A 0)), (1, .int (nI a)), (2, .int hd), (3, .int te)]) hx hb dX1_trial_79 hl (by decide) rfl (fun ls hl => ?_)
          refine lv_iconst (v := 1) hx hb dX1_trial_81 (by decide) ?_
          refine lv_iload_n hx hb dX1_trial_82 rfl (lv_at hl 4 rfl) ?_
          refine lv_aload_n hx hb dX1_trial_83 rfl (lv_at hl 2 rfl) ?_
          refine va_get (D := D) (ci := 1) (v := .int (s_pz S)) (C := RX1) (T := TX1) (N := 9) hx hb hts hin hown hK hP 0 rfl rfl 1 (by decide) f_9 (fun _ h9 => h9) rfl dX1_trial_84 ?_
          refine lv_iconst (v := (-1)) hx hb dX1_trial_87 (by decide) ?_
          refine rc_S (v := (zi (h_all (-1) 1 hd (s_pz S)))) ⟨hx, hb, hml, hown, hts⟩ [.int 1, .int hd, .int (s_pz S), .int (-1)] [] (c_X1_holds l 1 hd (s_pz S) (-1)) (va_cwS 4 hts gX1_trial_X1_holds rfl rfl rfl (by decide +kernel) ⟨Nat.le_of_ble_eq_true rfl, Nat.le_of_ble_eq_true rfl⟩) rfl hl.1 rfl (Nat.le_of_ble_eq_true rfl) ⟨Nat.zero_le _, Nat.zero_le _⟩ dX1_trial_88 ?_
          refine lv_istore (lv' := [(6, .int (zi (h_all (-1) 1 hd (s_pz S)))), (5, .int (zi (cold S te))), (4, .int (nI ((a * 6) + ((s_tr S) a)))), (0, .ref (A 0)), (1, .int (nI a)), (2, .int hd), (3, .int te)]) hx hb dX1_trial_91 hl (by decide) rfl (fun ls hl => ?_)
          refine lv_iload_n hx hb dX1_trial_93 rfl (lv_at hl 5 rfl) ?_
          refine lv_aload_n hx hb dX1_trial_94 rfl (lv_at hl 3 rfl) ?_
          refine va_get (D := D) (ci := 1) (v := .ref (A 2)) (C := RX1) (T := TX1) (N := 9) hx hb hts hin hown hK hP 0 rfl rfl 5 (by decide) f_23 (fun _ h9 => h9) rfl dX1_trial_95 ?_
          refine lv_iload_n hx hb dX1_trial_98 rfl (lv_at hl 4 rfl) ?_
          refine xa_ld (i := a) (v := ((s_bs S) a)) hx hb hK hP 2 1 rfl rfl (by omega) (by decide) (rfl) dX1_trial_99 ?_
          refine rc_S (v := (zi (be hd ((s_bs S) a)))) ⟨hx, hb, hml, hown, hts⟩ [.int hd, .int ((s_bs S) a)] [] (c_X1_beats l hd ((s_bs S) a)) (va_cwS 2 hts gX1_trial_X1_beats rfl rfl rfl (by decide +kernel) ⟨Nat.le_of_ble_eq_true rfl, Nat.le_of_ble_eq_true rfl⟩) rfl hl.1 rfl (Nat.le_of_ble_eq_true rfl) ⟨Nat.zero_le _, Nat.zero_le _⟩ dX1_trial_100 ?_
          refine lv_istore (lv' := [(7, .int (zi (be hd ((s_bs S) a)))), (6, .int (zi (h_all (-1) 1 hd (s_pz S)))), (5, .int (zi (cold S te))), (4, .int (nI ((a * 6) + ((s_tr S) a)))), (0, .ref (A 0)), (1, .int (nI a)), (2, .int hd), (3, .int te)]) hx hb dX1_trial_103 hl (by decide) rfl (fun ls hl => ?_)
          have K126 : ∀ (q8 : Bool), q8 = ((cold S te && be hd (s_rc S))) → ∀ (ls : Array Slot), lv_has ls 9 [(7, .int (zi (be hd ((s_bs S) a)))), (6, .int (zi (h_all (-1) 1 hd (s_pz S)))), (5, .int (zi (cold S te))), (4, .int (nI ((a * 6) + ((s_tr S) a)))), (0, .ref (A 0)), (1, .int (nI a)), (2, .int hd), (3, .int te)] → W p l e (headSpec wsX1_trial (rmD 2)).room s m ([.ref (A 0), .int (nI a), .int hd, .int te] : List Value).toArray below meth c H locs 0 0 (MQ below (va_Qi (fun r u => (r, u) = m_trial S (nI a) hd te) (Bw D (wM A K) (tM K) A9) A9) ([.ref (A 0), .int (nI a), .int hd, .int te] : List Value).toArray s 0 0 A9) (F0 m 126 ls [.int (zi q8)]) := by
            intro q8 e_q8 ls hl
            refine lv_istore (lv' := [(8, .int (zi q8)), (7, .int (zi (be hd ((s_bs S) a)))), (6, .int (zi (h_all (-1) 1 hd (s_pz S)))), (5, .int (zi (cold S te))), (4, .int (nI ((a * 6) + ((s_tr S) a)))), (0, .ref (A 0)), (1, .int (nI a)), (2, .int hd), (3, .int te)]) hx hb dX1_trial_126 hl (by decide) rfl (fun ls hl => ?_)
            have K148 : ∀ (q9 : Int32), q9 = (if be hd (s_bs S a) = true then hd else s_bs S a) → ∀ (ls : Array Slot), lv_has ls 9 [(8, .int (zi q8)), (7, .int (zi (be hd ((s_bs S) a)))), (6, .int (zi (h_all (-1) 1 hd (s_pz S)))), (5, .int (zi (cold S te))), (4, .int (nI ((a * 6) + ((s_tr S) a)))), (0, .ref (A 0)), (1, .int (nI a)), (2, .int hd), (3, .int te)] → W p l e (headSpec wsX1_trial (rmD 2)).room s m ([.ref (A 0), .int (nI a), .int hd, .int te] : List Value).toArray below meth c H locs 0 0 (MQ below (va_Qi (fun r u => (r, u) = m_trial S (nI a) hd te) (Bw D (wM A K) (tM K) A9) A9) ([.ref (A 0), .int (nI a), .int hd, .int te] : List Value).toArray s 0 0 A9) (F0 m 148 ls [.int q9, .int (nI a), .ref (A 2)]) := by
              intro q9 e_q9 ls hl
              refine xa_st (i := a) (x := q9) (ws' := wM A K (u_bs (upd (s_bs S) a q9) (u_tr (upN (s_tr S) a (((s_tr S) a) + 1)) (u_ch (upd (s_ch S) ((a * 6) + ((s_tr S) a)) te) (u_rt (upd (s_rt S) ((a * 6) + ((s_tr S) a)) hd) S))))) hx hb hK hP hD hS 2 1 rfl rfl (by omega) (by decide) (rfl) rfl dX1_trial_148 (fun H locs hP hD hS => ?_)
              have K163 : ∀ (q10 : Int32), q10 = (if q8 = true then hd else s_rc S) → ∀ (ls : Array Slot), lv_has ls 9 [(8, .int (zi q8)), (7, .int (zi (be hd ((s_bs S) a)))), (6, .int (zi (h_all (-1) 1 hd (s_pz S)))), (5, .int (zi (cold S te))), (4, .int (nI ((a * 6) + ((s_tr S) a)))), (0, .ref (A 0)), (1, .int (nI a)), (2, .int hd), (3, .int te)] → W p l e (headSpec wsX1_trial (rmD 2)).room s m ([.ref (A 0), .int (nI a), .int hd, .int te] : List Value).toArray below meth c H locs 0 0 (MQ below (va_Qi (fun r u => (r, u) = m_trial S (nI a) hd te) (Bw D (wM A K) (tM K) A9) A9) ([.ref (A 0), .int (nI a), .int hd, .int te] : List Value).toArray s 0 0 A9) (F0 m 163 ls [.int q10, .ref (A 0)]) := by
                intro q10 e_q10 ls hl
                refine va_put (D := D) (ci := 1) (v := .int q10) (ty := .int) (C := RX1) (T := TX1) (N := 9) hx hb hts hin tyX1 tyX1_ok nmX1 hown hK hP hD hS 0 rfl rfl 3 (by decide) f_16 (fun _ h9 => h9) rfl (by decide +kernel) rfl rfl (Nat.le_of_ble_eq_true rfl) dX1_trial_163 (fun H locs hP hD hS => ?_)
                have hP : va_P D vwCl (wM A K (u_rc q10 (u_bs (upd (s_bs S) a q9) (u_tr (upN (s_tr S) a (((s_tr S) a) + 1)) (u_ch (upd (s_ch S) ((a * 6) + ((s_tr S) a)) te) (u_rt (upd (s_rt S) ((a * 6) + ((s_tr S) a)) hd) S)))))) H := hP
                have hD : va_D A9 (wM A K (u_rc q10 (u_bs (upd (s_bs S) a q9) (u_tr (upN (s_tr S) a (((s_tr S) a) + 1)) (u_ch (upd (s_ch S) ((a * 6) + ((s_tr S) a)) te) (u_rt (upd (s_rt S) ((a * 6) + ((s_tr S) a)) hd) S)))))) := hD
                have K176 : ∀ (q11 : Nat), q11 = (b2 (cold S te) 1) → ∀ (ls : Array Slot), lv_has ls 9 [(8, .int (zi q8)), (7, .int (zi (be hd ((s_bs S) a)))), (6, .int (zi (h_all (-1) 1 hd (s_pz S)))), (5, .int (zi (cold S te))), (4, .int (nI ((a * 6) + ((s_tr S) a)))), (0, .ref (A 0)), (1, .int (nI a)), (2, .int hd), (3, .int te)] → W p l e (headSpec wsX1_trial (rmD 2)).room s m ([.ref (A 0), .int (nI a), .int hd, .int te] : List Value).toArray below meth c H locs 0 0 (MQ below (va_Qi (fun r u => (r, u) = m_trial S (nI a) hd te) (Bw D (wM A K) (tM K) A9) A9) ([.ref (A 0), .int (nI a), .int hd, .int te] : List Value).toArray s 0 0 A9) (F0 m 176 ls [.int (nI q11)]) := by
                  intro q11 e_q11 ls hl
                  have K186 : ∀ (q12 : Nat), q12 = (b2 (h_all (-1) 1 hd (s_pz S)) 2) → ∀ (ls : Array Slot), lv_has ls 9 [(8, .int (zi q8)), (7, .int (zi (be hd ((s_bs S) a)))), (6, .int (zi (h_all (-1) 1 hd (s_pz S)))), (5, .int (zi (cold S te))), (4, .int (nI ((a * 6) + ((s_tr S) a)))), (0, .ref (A 0)), (1, .int (nI a)), (2, .int hd), (3, .int te)] → W p l e (headSpec wsX1_trial (rmD 2)).room s m ([.ref (A 0), .int (nI a), .int hd, .int te] : List Value).toArray below meth c H locs 0 0 (MQ below (va_Qi (fun r u => (r, u) = m_trial S (nI a) hd te) (Bw D (wM A K) (tM K) A9) A9) ([.ref (A 0), .int (nI a), .int hd, .int te] : List Value).toArray s 0 0 A9) (F0 m 186 ls [.int (nI q12), .int (nI q11)]) := by
                    intro q12 e_q12 ls hl
                    refine xn_add (i := q11) (j := q12) hx hb dX1_trial_186 ?_
                    have K197 : ∀ (q13 : Nat), q13 = (b2 (be hd (s_bs S a)) 4) → ∀ (ls : Array Slot), lv_has ls 9 [(8, .int (zi q8)), (7, .int (zi (be hd ((s_bs S) a)))), (6, .int (zi (h_all (-1) 1 hd (s_pz S)))), (5, .int (zi (cold S te))), (4, .int (nI ((a * 6) + ((s_tr S) a)))), (0, .ref (A 0)), (1, .int (nI a)), (2, .int hd), (3, .int te)] → W p l e (headSpec wsX1_trial (rmD 2)).room s m ([.ref (A 0), .int (nI a), .int hd, .int te] : List Value).toArray below meth c H locs 0 0 (MQ below (va_Qi (fun r u => (r, u) = m_trial S (nI a) hd te) (Bw D (wM A K) (tM K) A9) A9) ([.ref (A 0), .int (nI a), .int hd, .int te] : List Value).toArray s 0 0 A9) (F0 m 197 ls [.int (nI q13), .int (nI (q11 + q12))]) := by
                      intro q13 e_q13 ls hl
                      refine xn_add (i := (q11 + q12)) (j := q13) hx hb dX1_trial_197 ?_
                      have K209 : ∀ (q14 : Nat), q14 = (b2 q8 8) → ∀ (ls : Array Slot), lv_has ls 9 [(8, .int (zi q8)), (7, .int (zi (be hd ((s_bs S) a)))), (6, .int (zi (h_all (-1) 1 hd (s_pz S)))), (5, .int (zi (cold S te))), (4, .int (nI ((a * 6) + ((s_tr S) a)))), (0, .ref (A 0)), (1, .int (nI a)), (2, .int hd), (3, .int te)] → W p l e (headSpec wsX1_trial (rmD 2)).room s m ([.ref (A 0), .int (nI a), .int hd, .int te] : List Value).toArray below meth c H locs 0 0 (MQ below (va_Qi (fun r u => (r, u) = m_trial S (nI a) hd te) (Bw D (wM A K) (tM K) A9) A9) ([.ref (A 0), .int (nI a), .int hd, .int te] : List Value).toArray s 0 0 A9) (F0 m 209 ls [.int (nI q14), .int (nI ((q11 + q12) + q13))]) := by
                        intro q14 e_q14 ls hl
                        refine xn_add (i := ((q11 + q12) + q13)) (j := q14) hx hb dX1_trial_209 ?_
                        exact W.iret (v := (nI (((q11 + q12) + q13) + q14))) hx hb hr (fun t ht hW => ⟨⟨(nI (((q11 + q12) + q13) + q14)), (u_rc q10 (u_bs (upd (s_bs S) a q9) (u_tr (upN (s_tr S) a (((s_tr S) a) + 1)) (u_ch (upd (s_ch S) ((a * 6) + ((s_tr S) a)) te) (u_rt (upd (s_rt S) ((a * 6) + ((s_tr S) a)) hd) S))))), rfl, by simp [m_trial, trM, tr3, x_marks, mk4, c1, ea, c2, c3, c4, e_q8, e_q9, e_q10, e_q11, e_q12, e_q13, e_q14], by rw [ht]; exact hP, va_K.moved hW.alike hK, hD⟩, hS.F ht⟩) hS.2.2 dX1_trial_210
                      refine lv_iload hx hb dX1_trial_198 (lv_at hl 0 rfl) ?_
                      refine xz_eq (b := q8) (tgt := 208) hx hb dX1_trial_200 (by decide) (fun c5 => ?_) (fun c5 => ?_)
                      · refine lv_iconst (v := 0) hx hb dX1_trial_208 (by decide) ?_
                        exact K209 0 (by simp [b2, c5]) ls (lv_sub hl [0, 1, 2, 3, 4, 5, 6, 7, 8] rfl)
                      · refine lv_bipush (v := 8) hx hb dX1_trial_203 (by decide) ?_
                        refine lv_goto (tgt := 209) hx hb dX1_trial_205 (by decide) ?_
                        exact K209 8 (by simp [b2, c5]) ls (lv_sub hl [0, 1, 2, 3, 4, 5, 6, 7, 8] rfl)
                    refine lv_iload hx hb dX1_trial_187 (lv_at hl 1 rfl) ?_
                    refine xz_eq (b := (be hd ((s_bs S) a))) (tgt := 196) hx hb dX1_trial_189 (by decide) (fun c6 => ?_) (fun c6 => ?_)
                    · refine lv_iconst (v := 0) hx hb dX1_trial_196 (by decide) ?_
                      exact K197 0 (by simp [b2, c6]) ls (lv_sub hl [0, 1, 2, 3, 4, 5, 6, 7, 8] rfl)
                    · refine lv_iconst (v := 4) hx hb dX1_trial_192 (by decide) ?_
                      refine lv_goto (tgt := 197) hx hb dX1_trial_193 (by decide) ?_
                      exact K197 4 (by simp [b2, c6]) ls (lv_sub hl [0, 1, 2, 3, 4, 5, 6, 7, 8] rfl)
                  refine lv_iload hx hb dX1_trial_176 (lv_at hl 2 rfl) ?_
                  refine xz_eq (b := (h_all (-1) 1 hd (s_pz S))) (tgt := 185) hx hb dX1_trial_178 (by decide) (fun c7 => ?_) (fun c7 => ?_)
                  · refine lv_iconst (v := 0) hx hb dX1_trial_185 (by decide) ?_
                    exact K186 0 (by simp [b2, c7]) ls (lv_sub hl [0, 1, 2, 3, 4, 5, 6, 7, 8] rfl)
                  · refine lv_iconst (v := 2) hx hb dX1_trial_181 (by decide) ?_
                    refine lv_goto (tgt := 186) hx hb dX1_trial_182 (by decide) ?_
                    exact K186 2 (by simp [b2, c7]) ls (lv_sub hl [0, 1, 2, 3, 4, 5, 6, 7, 8] rfl)
                refine lv_iload hx hb dX1_trial_166 (lv_at hl 3 rfl) ?_
                refine xz_eq (b := (cold S te)) (tgt := 175) hx hb dX1_trial_168 (by decide) (fun c8 => ?_) (fun c8 => ?_)
                · refine lv_iconst (v := 0) hx hb dX1_trial_175 (by decide) ?_
                  exact K176 0 (by simp [b2, c8]) ls (lv_sub hl [0, 1, 2, 3, 4, 5, 6, 7, 8] rfl)
                · refine lv_iconst (v := 1) hx hb dX1_trial_171 (by decide) ?_
                  refine lv_goto (tgt := 176) hx hb dX1_trial_172 (by decide) ?_
                  exact K176 1 (by simp [b2, c8]) ls (lv_sub hl [0, 1, 2, 3, 4, 5, 6, 7, 8] rfl)
              refine lv_aload_n hx hb dX1_trial_149 rfl (lv_at hl 5 rfl) ?_
              refine lv_iload hx hb dX1_trial_150 (lv_at hl 0 rfl) ?_
              refine xz_eq (b := q8) (tgt := 159) hx hb dX1_trial_152 (by decide) (fun c9 => ?_) (fun c9 => ?_)
              · refine lv_aload_n hx hb dX1_trial_159 rfl (lv_at hl 5 rfl) ?_
                refine va_get (D := D) (ci := 1) (v := .int (s_rc S)) (C := RX1) (T := TX1) (N := 9) hx hb hts hin hown hK hP 0 rfl rfl 3 (by decide) f_16 (fun _ h9 => h9) rfl dX1_trial_160 ?_
                exact K163 (s_rc S) (by simp [c9]) ls (lv_sub hl [0, 1, 2, 3, 4, 5, 6, 7, 8] rfl)
              · refine lv_iload_n hx hb dX1_trial_155 rfl (lv_at hl 7 rfl) ?_
                refine lv_goto (tgt := 163) hx hb dX1_trial_156 (by decide) ?_
                exact K163 hd (by simp [c9]) ls (lv_sub hl [0, 1, 2, 3, 4, 5, 6, 7, 8] rfl)
            refine lv_aload_n hx hb dX1_trial_128 rfl (lv_at hl 5 rfl) ?_
            refine va_get (D := D) (ci := 1) (v := .ref (A 2)) (C := RX1) (T := TX1) (N := 9) hx hb hts hin hown hK hP 0 rfl rfl 5 (by decide) f_23 (fun _ h9 => h9) rfl dX1_trial_129 ?_
            refine lv_iload_n hx hb dX1_trial_132 rfl (lv_at hl 6 rfl) ?_
            refine lv_iload hx hb dX1_trial_133 (lv_at hl 1 rfl) ?_
            refine xz_eq (b := (be hd ((s_bs S) a))) (tgt := 142) hx hb dX1_trial_135 (by decide) (fun c10 => ?_) (fun c10 => ?_)
            · refine lv_aload_n hx hb dX1_trial_142 rfl (lv_at hl 5 rfl) ?_
              refine va_get (D := D) (ci := 1) (v := .ref (A 2)) (C := RX1) (T := TX1) (N := 9) hx hb hts hin hown hK hP 0 rfl rfl 5 (by decide) f_23 (fun _ h9 => h9) rfl dX1_trial_143 ?_
              refine lv_iload_n hx hb dX1_trial_146 rfl (lv_at hl 6 rfl) ?_
              refine xa_ld (i := a) (v := ((s_bs S) a)) hx hb hK hP 2 1 rfl rfl (by omega) (by decide) (rfl) dX1_trial_147 ?_
              exact K148 ((s_bs S) a) (by simp [c10]) ls (lv_sub hl [0, 1, 2, 3, 4, 5, 6, 7, 8] rfl)
            · refine lv_iload_n hx hb dX1_trial_138 rfl (lv_at hl 7 rfl) ?_
              refine lv_goto (tgt := 148) hx hb dX1_trial_139 (by decide) ?_
              exact K148 hd (by simp [c10]) ls (lv_sub hl [0, 1, 2, 3, 4, 5, 6, 7, 8] rfl)
          refine lv_iload hx hb dX1_trial_105 (lv_at hl 2 rfl) ?_
          refine xz_eq (b := (cold S te)) (tgt := 125) hx hb dX1_trial_107 (by decide) (fun c11 => ?_) (fun c11 => ?_)
          · refine lv_iconst (v := 0) hx hb dX1_trial_125 (by decide) ?_
            exact K126 false (by simp [c1, ea, c2, c3, c4, c11]) ls (lv_sub hl [0, 1, 2, 3, 4, 5, 6, 7] rfl)
          · refine lv_iload_n hx hb dX1_trial_110 rfl (lv_at hl 6 rfl) ?_
            refine lv_aload_n hx hb dX1_trial_111 rfl (lv_at hl 4 rfl) ?_
            refine va_get (D := D) (ci := 1) (v := .int (s_rc S)) (C := RX1) (T := TX1) (N := 9) hx hb hts hin hown hK hP 0 rfl rfl 3 (by decide) f_16 (fun _ h9 => h9) rfl dX1_trial_112 ?_
            refine rc_S (v := (zi (be hd (s_rc S)))) ⟨hx, hb, hml, hown, hts⟩ [.int hd, .int (s_rc S)] [] (c_X1_beats l hd (s_rc S)) (va_cwS 2 hts gX1_trial_X1_beats rfl rfl rfl (by decide +kernel) ⟨Nat.le_of_ble_eq_true rfl, Nat.le_of_ble_eq_true rfl⟩) rfl hl.1 rfl (Nat.le_of_ble_eq_true rfl) ⟨Nat.zero_le _, Nat.zero_le _⟩ dX1_trial_115 ?_
            refine xz_eq (b := (be hd (s_rc S))) (tgt := 125) hx hb dX1_trial_118 (by decide) (fun c12 => ?_) (fun c12 => ?_)
            · refine lv_iconst (v := 0) hx hb dX1_trial_125 (by decide) ?_
              exact K126 false (by simp [c1, ea, c2, c3, c4, c11, c12]) ls (lv_sub hl [0, 1, 2, 3, 4, 5, 6, 7] rfl)
            · refine lv_iconst (v := 1) hx hb dX1_trial_121 (by decide) ?_
              refine lv_goto (tgt := 126) hx hb dX1_trial_122 (by decide) ?_
              exact K126 true (by simp [c1, ea, c2, c3, c4, c11, c12]) ls (lv_sub hl [0, 1, 2, 3, 4, 5, 6, 7] rfl)
        · refine lv_iconst (v := (-1)) hx hb dX1_trial_33 (by decide) ?_
          exact W.iret (v := (-1)) hx hb hr (fun t ht hW => ⟨⟨(-1), S, rfl, by simp [m_trial, trM, tr3, x_marks, mk4, c1, ea, c2, c3, c4], by rw [ht]; exact hP, va_K.moved hW.alike hK, hD⟩, hS.F ht⟩) hS.2.2 dX1_trial_34
set_option maxHeartbeats 4000000 in
set_option maxRecDepth 100000 in
theorem c_X1_annul (l : Launch) (D : va_G) (A : Nat → Nat) (K : Nat → ClassId) (S : XS) (hI : x_inv S) (sz : Nat) (v : Int32) : Met l yX1_annul wsX1_annul (rmD 2) (va_Pc [.ref (A 0), .int v] (Pw D (wM A K S) (tM K) sz)) (va_Qi (fun r u => (r, u) = x_annul S v) (Bw D (wM A K) (tM K) (va_A (wM A K S) sz)) (va_A (wM A K S) sz)) 0 0 (va_A (wM A K S) sz) := by
  refine Met.ofW (cc := cX1_annul) (maxL := 4) (ret := some .int) (by decide) rfl ?_
  intro p e s m args below meth c s₁ B hml hv
  obtain ⟨rfl, hsz, hP, hK, hD0⟩ := hv
  have hx := B.exec
  have hb := B.bytes
  have hr := B.returns
  have hts := atoms_spec (ws := wsX1_annul) B.pre
  have hown : s.vm.findClass RX1 = some m.cls := findClass_of_methodNamed B.named
  have hlocks := B.notSynchronized
  have hn8 := hI.1
  have hin : ∀ w ∈ u_ws RX1 TX1 9, w ∈ wsX1_annul := fun w h => List.mem_cons_of_mem _ (List.mem_append_right _ h)
  have f_19 := hts (.fieldLink RX1 19 "ChronoTrialsModel" "many" "[I") (by decide +kernel)
  have f_23 := hts (.fieldLink RX1 23 "ChronoTrialsModel" "best" "[I") (by decide +kernel)
  have f_29 := hts (.fieldLink RX1 29 "ChronoTrialsModel" "rates" "[I") (by decide +kernel)
  subst hsz
  have hD := hD0.self (sz := s.heap.size)
  generalize hAe : va_A (wM A K S) s.heap.size = A9 at hD ⊢
  have hS : va_S A9 s.heap s.heap [] := va_S.rf
  have hl := lv_entry ([.ref (A 0), .int v]) (n := 4) (Nat.le_of_ble_eq_true rfl)
  rw [lg_entry_eq]
  generalize (lg_sl ([.ref (A 0), .int v]) ++ List.replicate (4 - (lg_sl ([.ref (A 0), .int v])).length) Slot.unset).toArray = ls at hl ⊢
  have hl : lv_has ls 4 [(0, .ref (A 0)), (1, .int v)] := hl
  refine lv_aload_n hx hb dX1_annul_0 rfl (lv_at hl 0 rfl) ?_
  refine lv_iload_n hx hb dX1_annul_1 rfl (lv_at hl 1 rfl) ?_
  refine rc_V (v := (zi (isClk S v))) ⟨hx, hb, hml, hown, hts⟩ [.int v] [] (c_X1_isClock l D A K S hI v) (cwV 1 hts gX1_annul_X1_isClock rfl rfl rfl (by decide +kernel) ⟨Nat.le_of_ble_eq_true rfl, Nat.le_of_ble_eq_true rfl⟩) hK hP (va_recv hK hP (ci := 1) (q0 := 0) rfl rfl) rfl hl.1 rfl (Nat.le_of_ble_eq_true rfl) ⟨Nat.zero_le _, Nat.zero_le _⟩ dX1_annul_2 ?_
  refine xz_eq (b := (isClk S v)) (tgt := 17) hx hb dX1_annul_5 (by decide) (fun c1 => ?_) (fun c1 => ?_)
  · refine lv_iconst (v := (-1)) hx hb dX1_annul_17 (by decide) ?_
    exact W.iret (v := (-1)) hx hb hr (fun t ht hW => ⟨⟨(-1), S, rfl, by simp [x_annul, c1], by rw [ht]; exact hP, va_K.moved hW.alike hK, hD⟩, hS.F ht⟩) hS.2.2 dX1_annul_18
  · obtain ⟨a, ha, rfl⟩ := isClk_ex c1 hn8
    have ea : (nI a).toNatClampNeg = a := nI_clamp (by omega)
    have ht6 := hI.2 a
    refine lv_aload_n hx hb dX1_annul_8 rfl (lv_at hl 0 rfl) ?_
    refine va_get (D := D) (ci := 1) (v := .ref (A 1)) (C := RX1) (T := TX1) (N := 9) hx hb hts hin hown hK hP 0 rfl rfl 4 (by decide) f_19 (fun _ h9 => h9) rfl dX1_annul_9 ?_
    refine lv_iload_n hx hb dX1_annul_12 rfl (lv_at hl 1 rfl) ?_
    refine xa_ld (i := a) (v := (nI ((s_tr S) a))) hx hb hK hP 1 0 rfl rfl (by omega) (by decide) (rfl) dX1_annul_13 ?_
    refine xn_ifne (i := ((s_tr S) a)) (tgt := 19) hx hb (by omega) dX1_annul_14 (by decide) (fun c2 => ?_) (fun c2 => ?_)
    · refine lv_aload_n hx hb dX1_annul_19 rfl (lv_at hl 0 rfl) ?_
      refine va_get (D := D) (ci := 1) (v := .ref (A 1)) (C := RX1) (T := TX1) (N := 9) hx hb hts hin hown hK hP 0 rfl rfl 4 (by decide) f_19 (fun _ h9 => h9) rfl dX1_annul_20 ?_
      refine lv_iload_n hx hb dX1_annul_23 rfl (lv_at hl 1 rfl) ?_
      refine lv_dup2_11 hx hb dX1_annul_24 rfl rfl ?_
      refine xa_ld (i := a) (v := (nI ((s_tr S) a))) hx hb hK hP 1 0 rfl rfl (by omega) (by decide) (rfl) dX1_annul_25 ?_
      refine lv_iconst (v := 1) hx hb dX1_annul_26 (by decide) ?_
      refine xn_sub (i := ((s_tr S) a)) (j := 1) hx hb (by omega) dX1_annul_27 ?_
      refine xa_st (i := a) (x := nI (((s_tr S) a) - 1)) (ws' := wM A K (an1 S a)) hx hb hK hP hD hS 1 0 rfl rfl (by omega) (by decide) (upN_e _ _ _) rfl dX1_annul_28 (fun H locs hP hD hS => ?_)
      refine lv_aload_n hx hb dX1_annul_29 rfl (lv_at hl 0 rfl) ?_
      refine va_get (D := D) (ci := 1) (v := .ref (A 2)) (C := RX1) (T := TX1) (N := 9) hx hb hts hin hown hK hP 0 rfl rfl 5 (by decide) f_23 (fun _ h9 => h9) rfl dX1_annul_30 ?_
      refine lv_iload_n hx hb dX1_annul_33 rfl (lv_at hl 1 rfl) ?_
      refine lv_iconst (v := (-1)) hx hb dX1_annul_34 (by decide) ?_
      refine xa_st (i := a) (x := (-1)) (ws' := wM A K (an2 S a (-1))) hx hb hK hP hD hS 2 1 rfl rfl (by omega) (by decide) (rfl) rfl dX1_annul_35 (fun H locs hP hD hS => ?_)
      refine lv_iconst (v := 0) hx hb dX1_annul_36 (by decide) ?_
      refine lv_istore_n (lv' := [(2, .int 0), (0, .ref (A 0)), (1, .int (nI a))]) hx hb dX1_annul_37 rfl hl (by decide) rfl (fun ls hl => ?_)
      have L38 : ∀ (m1 i1 : Nat) (acc : Int32), i1 + m1 = s_tr S a - 1 → acc = lr (fun t => s_rt S (a * 6 + t)) i1 → ∀ (H : Heap) (locs : List Loc), va_P D vwCl (wM A K (an2 S a acc)) H → va_D A9 (wM A K (an2 S a acc)) → va_S A9 s.heap H locs → ∀ (ls : Array Slot), lv_has ls 4 [(0, .ref (A 0)), (1, .int (nI a)), (2, .int (nI i1))] → W p l e (headSpec wsX1_annul (rmD 2)).room s m ([.ref (A 0), .int (nI a)] : List Value).toArray below meth c H locs 0 0 (MQ below (va_Qi (fun r u => (r, u) = x_annul S (nI a)) (Bw D (wM A K) (tM K) A9) A9) ([.ref (A 0), .int (nI a)] : List Value).toArray s 0 0 A9) (F0 m 38 ls []) := by
        intro m1
        induction m1 with
        | zero =>
          intro i1 acc hm1 hacc H locs hP hD hS ls hl
          refine lv_iload_n hx hb dX1_annul_38 rfl (lv_at hl 2 rfl) ?_
          refine lv_aload_n hx hb dX1_annul_39 rfl (lv_at hl 0 rfl) ?_
          refine va_get (D := D) (ci := 1) (v := .ref (A 1)) (C := RX1) (T := TX1) (N := 9) hx hb hts hin hown hK hP 0 rfl rfl 4 (by decide) f_19 (fun _ h9 => h9) rfl dX1_annul_40 ?_
          refine lv_iload_n hx hb dX1_annul_43 rfl (lv_at hl 1 rfl) ?_
          refine xa_ld (i := a) (v := (nI (s_tr S a - 1))) hx hb hK hP 1 0 rfl rfl (by omega) (by decide) (congrArg nI (upN_s _ _ _)) dX1_annul_44 ?_
          refine xn_ge (i := i1) (j := (s_tr S a - 1)) (tgt := 95) hx hb (by omega) (by omega) dX1_annul_45 (by decide) (fun c3 => ?_) (fun c3 => ?_)
          · refine lv_aload_n hx hb dX1_annul_95 rfl (lv_at hl 0 rfl) ?_
            refine va_get (D := D) (ci := 1) (v := .ref (A 1)) (C := RX1) (T := TX1) (N := 9) hx hb hts hin hown hK hP 0 rfl rfl 4 (by decide) f_19 (fun _ h9 => h9) rfl dX1_annul_96 ?_
            refine lv_iload_n hx hb dX1_annul_99 rfl (lv_at hl 1 rfl) ?_
            refine xa_ld (i := a) (v := (nI (s_tr S a - 1))) hx hb hK hP 1 0 rfl rfl (by omega) (by decide) (congrArg nI (upN_s _ _ _)) dX1_annul_100 ?_
            exact W.iret (v := (nI (s_tr S a - 1))) hx hb hr (fun t ht hW => ⟨⟨(nI (s_tr S a - 1)), an2 S a acc, rfl, by rw [hacc, show i1 = s_tr S a - 1 by omega]; simp [x_annul, least_an, c1, ea, c2, c3], by rw [ht]; exact hP, va_K.moved hW.alike hK, hD⟩, hS.F ht⟩) hS.2.2 dX1_annul_101
          · exfalso; omega
        | succ m1 ih =>
          intro i1 acc hm1 hacc H locs hP hD hS ls hl
          refine lv_iload_n hx hb dX1_annul_38 rfl (lv_at hl 2 rfl) ?_
          refine lv_aload_n hx hb dX1_annul_39 rfl (lv_at hl 0 rfl) ?_
          refine va_get (D := D) (ci := 1) (v := .ref (A 1)) (C := RX1) (T := TX1) (N := 9) hx hb hts hin hown hK hP 0 rfl rfl 4 (by decide) f_19 (fun _ h9 => h9) rfl dX1_annul_40 ?_
          refine lv_iload_n hx hb dX1_annul_43 rfl (lv_at hl 1 rfl) ?_
          refine xa_ld (i := a) (v := (nI (s_tr S a - 1))) hx hb hK hP 1 0 rfl rfl (by omega) (by decide) (congrArg nI (upN_s _ _ _)) dX1_annul_44 ?_
          refine xn_ge (i := i1) (j := (s_tr S a - 1)) (tgt := 95) hx hb (by omega) (by omega) dX1_annul_45 (by decide) (fun c4 => ?_) (fun c4 => ?_)
          · exfalso; omega
          · refine lv_aload_n hx hb dX1_annul_48 rfl (lv_at hl 0 rfl) ?_
            refine va_get (D := D) (ci := 1) (v := .ref (A 4)) (C := RX1) (T := TX1) (N := 9) hx hb hts hin hown hK hP 0 rfl rfl 7 (by decide) f_29 (fun _ h9 => h9) rfl dX1_annul_49 ?_
            refine lv_bipush (v := 6) hx hb dX1_annul_52 (by decide) ?_
            refine lv_iload_n hx hb dX1_annul_54 rfl (lv_at hl 1 rfl) ?_
            refine xn_mulc (i := 6) (j := a) hx hb dX1_annul_55 ?_
            refine lv_iload_n hx hb dX1_annul_56 rfl (lv_at hl 2 rfl) ?_
            refine xn_add (i := (a * 6)) (j := i1) hx hb dX1_annul_57 ?_
            refine xa_ld (i := ((a * 6) + i1)) (v := ((s_rt S) ((a * 6) + i1))) hx hb hK hP 4 3 rfl rfl (by omega) (by decide) (rfl) dX1_annul_58 ?_
            refine lv_istore_n (lv' := [(3, .int ((s_rt S) ((a * 6) + i1))), (0, .ref (A 0)), (1, .int (nI a)), (2, .int (nI i1))]) hx hb dX1_annul_59 rfl hl (by decide) rfl (fun ls hl => ?_)
            refine lv_aload_n hx hb dX1_annul_60 rfl (lv_at hl 1 rfl) ?_
            refine va_get (D := D) (ci := 1) (v := .ref (A 2)) (C := RX1) (T := TX1) (N := 9) hx hb hts hin hown hK hP 0 rfl rfl 5 (by decide) f_23 (fun _ h9 => h9) rfl dX1_annul_61 ?_
            refine lv_iload_n hx hb dX1_annul_64 rfl (lv_at hl 2 rfl) ?_
            refine lv_iload_n hx hb dX1_annul_65 rfl (lv_at hl 0 rfl) ?_
            refine lv_aload_n hx hb dX1_annul_66 rfl (lv_at hl 1 rfl) ?_
            refine va_get (D := D) (ci := 1) (v := .ref (A 2)) (C := RX1) (T := TX1) (N := 9) hx hb hts hin hown hK hP 0 rfl rfl 5 (by decide) f_23 (fun _ h9 => h9) rfl dX1_annul_67 ?_
            refine lv_iload_n hx hb dX1_annul_70 rfl (lv_at hl 2 rfl) ?_
            refine xa_ld (i := a) (v := acc) hx hb hK hP 2 1 rfl rfl (by omega) (by decide) (pk_us) dX1_annul_71 ?_
            refine rc_S (v := (zi (be ((s_rt S) ((a * 6) + i1)) acc))) ⟨hx, hb, hml, hown, hts⟩ [.int ((s_rt S) ((a * 6) + i1)), .int acc] [.int (nI a), .ref (A 2)] (c_X1_beats l ((s_rt S) ((a * 6) + i1)) acc) (va_cwS 2 hts gX1_annul_X1_beats rfl rfl rfl (by decide +kernel) ⟨Nat.le_of_ble_eq_true rfl, Nat.le_of_ble_eq_true rfl⟩) rfl hl.1 rfl (Nat.le_of_ble_eq_true rfl) ⟨Nat.zero_le _, Nat.zero_le _⟩ dX1_annul_72 ?_
            refine xz_eq (b := (be ((s_rt S) ((a * 6) + i1)) acc)) (tgt := 82) hx hb dX1_annul_75 (by decide) (fun c5 => ?_) (fun c5 => ?_)
            · refine lv_aload_n hx hb dX1_annul_82 rfl (lv_at hl 1 rfl) ?_
              refine va_get (D := D) (ci := 1) (v := .ref (A 2)) (C := RX1) (T := TX1) (N := 9) hx hb hts hin hown hK hP 0 rfl rfl 5 (by decide) f_23 (fun _ h9 => h9) rfl dX1_annul_83 ?_
              refine lv_iload_n hx hb dX1_annul_86 rfl (lv_at hl 2 rfl) ?_
              refine xa_ld (i := a) (v := acc) hx hb hK hP 2 1 rfl rfl (by omega) (by decide) (pk_us) dX1_annul_87 ?_
              refine xa_st (i := a) (x := acc) (ws' := wM A K (an2 S a acc)) hx hb hK hP hD hS 2 1 rfl rfl (by omega) (by decide) (up_uu _ _ _ _) rfl dX1_annul_88 (fun H locs hP hD hS => ?_)
              refine lv_iinc (v := (nI (i1 + 1))) (lv' := [(2, .int (nI (i1 + 1))), (3, .int ((s_rt S) ((a * 6) + i1))), (0, .ref (A 0)), (1, .int (nI a))]) hx hb dX1_annul_89 hl (k := 3) rfl (nI_add i1 1) (by decide) rfl (fun ls hl => ?_)
              refine lv_goto (tgt := 38) hx hb dX1_annul_92 (by decide) ?_
              exact ih (i1 + 1) acc (by omega) (by rw [lr, ← hacc]; simp [c1, ea, c2, c4, c5]) _ _ hP hD hS ls (lv_sub hl [2, 3, 0] rfl)
            · refine lv_iload_n hx hb dX1_annul_78 rfl (lv_at hl 0 rfl) ?_
              refine lv_goto (tgt := 88) hx hb dX1_annul_79 (by decide) ?_
              refine xa_st (i := a) (x := ((s_rt S) ((a * 6) + i1))) (ws' := wM A K (an2 S a ((s_rt S) ((a * 6) + i1)))) hx hb hK hP hD hS 2 1 rfl rfl (by omega) (by decide) (up_uu _ _ _ _) rfl dX1_annul_88 (fun H locs hP hD hS => ?_)
              refine lv_iinc (v := (nI (i1 + 1))) (lv' := [(2, .int (nI (i1 + 1))), (3, .int ((s_rt S) ((a * 6) + i1))), (0, .ref (A 0)), (1, .int (nI a))]) hx hb dX1_annul_89 hl (k := 3) rfl (nI_add i1 1) (by decide) rfl (fun ls hl => ?_)
              refine lv_goto (tgt := 38) hx hb dX1_annul_92 (by decide) ?_
              exact ih (i1 + 1) ((s_rt S) ((a * 6) + i1)) (by omega) (by rw [lr, ← hacc]; simp [c1, ea, c2, c4, c5]) _ _ hP hD hS ls (lv_sub hl [2, 3, 0] rfl)
      exact L38 (s_tr S a - 1) 0 (-1) (by omega) (rfl) _ _ hP hD hS ls (lv_sub hl [1, 2, 0] rfl)
    · refine lv_iconst (v := (-1)) hx hb dX1_annul_17 (by decide) ?_
      exact W.iret (v := (-1)) hx hb hr (fun t ht hW => ⟨⟨(-1), S, rfl, by simp [x_annul, c1, ea, c2], by rw [ht]; exact hP, va_K.moved hW.alike hK, hD⟩, hS.F ht⟩) hS.2.2 dX1_annul_18
set_option maxHeartbeats 4000000 in
set_option maxRecDepth 100000 in
theorem c_X1_ask (l : Launch) (D : va_G) (A : Nat → Nat) (K : Nat → ClassId) (S : XS) (hI : x_inv S) (sz : Nat) (w : Int32) (sg : Int32) (hw : Int32) (v : Int32) (z : Int32) : Met l yX1_ask wsX1_ask (rmD 2) (va_Pc [.ref (A 0), .int w, .int sg, .int hw, .int v, .int z] (Pw D (wM A K S) (tM K) sz)) (va_Qi (fun r u => (r, u) = m_ask S w sg hw v z) (Bw D (wM A K) (tM K) (va_A (wM A K S) sz)) (va_A (wM A K S) sz)) 0 0 (va_A (wM A K S) sz) := by
  refine Met.ofW (cc := cX1_ask) (maxL := 8) (ret := some .int) (by decide) rfl ?_
  intro p e s m args below meth c s₁ B hml hv
  obtain ⟨rfl, hsz, hP, hK, hD0⟩ := hv
  have hx := B.exec
  have hb := B.bytes
  have hr := B.returns
  have hts := atoms_spec (ws := wsX1_ask) B.pre
  have hown : s.vm.findClass RX1 = some m.cls := findClass_of_methodNamed B.named
  have hlocks := B.notSynchronized
  have hn8 := hI.1
  have hin : ∀ w ∈ u_ws RX1 TX1 9, w ∈ wsX1_ask := fun w h => List.mem_cons_of_mem _ (List.mem_append_right _ h)
  have f_26 := hts (.fieldLink RX1 26 "ChronoTrialsModel" "seal" "[I") (by decide +kernel)
  have f_35 := hts (.fieldLink RX1 35 "ChronoTrialsModel" "clocks" "I") (by decide +kernel)
  subst hsz
  have hD := hD0.self (sz := s.heap.size)
  generalize hAe : va_A (wM A K S) s.heap.size = A9 at hD ⊢
  have hS : va_S A9 s.heap s.heap [] := va_S.rf
  have hl := lv_entry ([.ref (A 0), .int w, .int sg, .int hw, .int v, .int z]) (n := 8) (Nat.le_of_ble_eq_true rfl)
  rw [lg_entry_eq]
  generalize (lg_sl ([.ref (A 0), .int w, .int sg, .int hw, .int v, .int z]) ++ List.replicate (8 - (lg_sl ([.ref (A 0), .int w, .int sg, .int hw, .int v, .int z])).length) Slot.unset).toArray = ls at hl ⊢
  have hl : lv_has ls 8 [(0, .ref (A 0)), (1, .int w), (2, .int sg), (3, .int hw), (4, .int v), (5, .int z)] := hl
  refine lv_iload_n hx hb dX1_ask_0 rfl (lv_at hl 1 rfl) ?_
  refine lv_if_lt (tgt := 36) hx hb dX1_ask_1 (by decide) (fun c1 => ?_) (fun c1 => ?_)
  · refine lv_iconst (v := (-1)) hx hb dX1_ask_36 (by decide) ?_
    exact W.iret (v := (-1)) hx hb hr (fun t ht hW => ⟨⟨(-1), S, rfl, by simp [m_ask, askN, a_sl, h_in, both, zi, c1], by rw [ht]; exact hP, va_K.moved hW.alike hK, hD⟩, hS.F ht⟩) hS.2.2 dX1_ask_37
  · refine lv_iload_n hx hb dX1_ask_4 rfl (lv_at hl 1 rfl) ?_
    refine lv_iconst (v := 1) hx hb dX1_ask_5 (by decide) ?_
    refine lv_icmp_gt (tgt := 36) hx hb dX1_ask_6 (by decide) (fun c2 => ?_) (fun c2 => ?_)
    · refine lv_iconst (v := (-1)) hx hb dX1_ask_36 (by decide) ?_
      exact W.iret (v := (-1)) hx hb hr (fun t ht hW => ⟨⟨(-1), S, rfl, by simp [m_ask, askN, a_sl, h_in, both, zi, c1, c2], by rw [ht]; exact hP, va_K.moved hW.alike hK, hD⟩, hS.F ht⟩) hS.2.2 dX1_ask_37
    · refine lv_iload_n hx hb dX1_ask_9 rfl (lv_at hl 2 rfl) ?_
      refine lv_if_lt (tgt := 36) hx hb dX1_ask_10 (by decide) (fun c3 => ?_) (fun c3 => ?_)
      · refine lv_iconst (v := (-1)) hx hb dX1_ask_36 (by decide) ?_
        exact W.iret (v := (-1)) hx hb hr (fun t ht hW => ⟨⟨(-1), S, rfl, by simp [m_ask, askN, a_sl, h_in, both, zi, c1, c2, c3], by rw [ht]; exact hP, va_K.moved hW.alike hK, hD⟩, hS.F ht⟩) hS.2.2 dX1_ask_37
      · refine lv_iload_n hx hb dX1_ask_13 rfl (lv_at hl 2 rfl) ?_
        refine lv_iconst (v := 5) hx hb dX1_ask_14 (by decide) ?_
        refine lv_icmp_gt (tgt := 36) hx hb dX1_ask_15 (by decide) (fun c4 => ?_) (fun c4 => ?_)
        · refine lv_iconst (v := (-1)) hx hb dX1_ask_36 (by decide) ?_
          exact W.iret (v := (-1)) hx hb hr (fun t ht hW => ⟨⟨(-1), S, rfl, by simp [m_ask, askN, a_sl, h_in, both, zi, c1, c2, c3, c4], by rw [ht]; exact hP, va_K.moved hW.alike hK, hD⟩, hS.F ht⟩) hS.2.2 dX1_ask_37
        · refine lv_aload_n hx hb dX1_ask_18 rfl (lv_at hl 0 rfl) ?_
          refine lv_iload hx hb dX1_ask_19 (lv_at hl 4 rfl) ?_
          refine rc_V (v := (zi (isClk S v))) ⟨hx, hb, hml, hown, hts⟩ [.int v] [] (c_X1_isClock l D A K S hI v) (cwV 1 hts gX1_ask_X1_isClock rfl rfl rfl (by decide +kernel) ⟨Nat.le_of_ble_eq_true rfl, Nat.le_of_ble_eq_true rfl⟩) hK hP (va_recv hK hP (ci := 1) (q0 := 0) rfl rfl) rfl hl.1 rfl (Nat.le_of_ble_eq_true rfl) ⟨Nat.zero_le _, Nat.zero_le _⟩ dX1_ask_21 ?_
          refine xz_eq (b := (isClk S v)) (tgt := 36) hx hb dX1_ask_24 (by decide) (fun c5 => ?_) (fun c5 => ?_)
          · refine lv_iconst (v := (-1)) hx hb dX1_ask_36 (by decide) ?_
            exact W.iret (v := (-1)) hx hb hr (fun t ht hW => ⟨⟨(-1), S, rfl, by simp [m_ask, askN, a_sl, h_in, both, zi, c1, c2, c3, c4, c5], by rw [ht]; exact hP, va_K.moved hW.alike hK, hD⟩, hS.F ht⟩) hS.2.2 dX1_ask_37
          · obtain ⟨a, ha, rfl⟩ := isClk_ex c5 hn8
            have ea : (nI a).toNatClampNeg = a := nI_clamp (by omega)
            refine lv_aload_n hx hb dX1_ask_27 rfl (lv_at hl 0 rfl) ?_
            refine lv_iload hx hb dX1_ask_28 (lv_at hl 5 rfl) ?_
            refine rc_V (v := (zi (isClk S z))) ⟨hx, hb, hml, hown, hts⟩ [.int z] [] (c_X1_isClock l D A K S hI z) (cwV 1 hts gX1_ask_X1_isClock rfl rfl rfl (by decide +kernel) ⟨Nat.le_of_ble_eq_true rfl, Nat.le_of_ble_eq_true rfl⟩) hK hP (va_recv hK hP (ci := 1) (q0 := 0) rfl rfl) rfl hl.1 rfl (Nat.le_of_ble_eq_true rfl) ⟨Nat.zero_le _, Nat.zero_le _⟩ dX1_ask_30 ?_
            refine xz_ne (b := (isClk S z)) (tgt := 38) hx hb dX1_ask_33 (by decide) (fun c6 => ?_) (fun c6 => ?_)
            · obtain ⟨b, hb8, rfl⟩ := isClk_ex c6 hn8
              have eb : (nI b).toNatClampNeg = b := nI_clamp (by omega)
              refine lv_aload_n hx hb dX1_ask_38 rfl (lv_at hl 0 rfl) ?_
              refine lv_iload_n hx hb dX1_ask_39 rfl (lv_at hl 1 rfl) ?_
              refine lv_iload_n hx hb dX1_ask_40 rfl (lv_at hl 2 rfl) ?_
              refine lv_iload hx hb dX1_ask_41 (lv_at hl 4 rfl) ?_
              refine lv_iload hx hb dX1_ask_43 (lv_at hl 5 rfl) ?_
              refine rc_V (v := (zi (hc S w sg a b))) ⟨hx, hb, hml, hown, hts⟩ [.int w, .int sg, .int (nI a), .int (nI b)] [] (c_X1_asked l D A K S hI w sg a b (by omega) (by omega)) (cwV 4 hts gX1_ask_X1_asked rfl rfl rfl (by decide +kernel) ⟨Nat.le_of_ble_eq_true rfl, Nat.le_of_ble_eq_true rfl⟩) hK hP (va_recv hK hP (ci := 1) (q0 := 0) rfl rfl) rfl hl.1 rfl (Nat.le_of_ble_eq_true rfl) ⟨Nat.zero_le _, Nat.zero_le _⟩ dX1_ask_45 ?_
              refine lv_istore (lv' := [(6, .int (zi (hc S w sg a b))), (0, .ref (A 0)), (1, .int w), (2, .int sg), (3, .int hw), (4, .int (nI a)), (5, .int (nI b))]) hx hb dX1_ask_48 hl (by decide) rfl (fun ls hl => ?_)
              refine lv_iload_n hx hb dX1_ask_50 rfl (lv_at hl 4 rfl) ?_
              by_cases w7 : hw = 0
              · refine lv_tableIn (tgt := 88) hx hb dX1_ask_51 (by rw [w7]; decide) (by rw [w7]; decide) (by rw [w7]; rfl) (by decide) ?_
                refine lv_iload hx hb dX1_ask_88 (lv_at hl 0 rfl) ?_
                refine xz_eq (b := (hc S w sg a b)) (tgt := 97) hx hb dX1_ask_90 (by decide) (fun c8 => ?_) (fun c8 => ?_)
                · refine lv_iconst (v := 0) hx hb dX1_ask_97 (by decide) ?_
                  exact W.iret (v := 0) hx hb hr (fun t ht hW => ⟨⟨0, S, rfl, by simp [m_ask, askN, a_sl, h_in, both, zi, c1, c2, c3, c4, c5, ea, c6, eb, w7, c8], by rw [ht]; exact hP, va_K.moved hW.alike hK, hD⟩, hS.F ht⟩) hS.2.2 dX1_ask_98
                · refine lv_iconst (v := 1) hx hb dX1_ask_93 (by decide) ?_
                  refine lv_goto (tgt := 98) hx hb dX1_ask_94 (by decide) ?_
                  exact W.iret (v := 1) hx hb hr (fun t ht hW => ⟨⟨1, S, rfl, by simp [m_ask, askN, a_sl, h_in, both, zi, c1, c2, c3, c4, c5, ea, c6, eb, w7, c8], by rw [ht]; exact hP, va_K.moved hW.alike hK, hD⟩, hS.F ht⟩) hS.2.2 dX1_ask_98
              by_cases w9 : hw = 1
              · refine lv_tableIn (tgt := 99) hx hb dX1_ask_51 (by rw [w9]; decide) (by rw [w9]; decide) (by rw [w9]; rfl) (by decide) ?_
                refine lv_iload hx hb dX1_ask_99 (lv_at hl 0 rfl) ?_
                refine xz_eq (b := (hc S w sg a b)) (tgt := 108) hx hb dX1_ask_101 (by decide) (fun c10 => ?_) (fun c10 => ?_)
                · refine lv_iconst (v := 1) hx hb dX1_ask_108 (by decide) ?_
                  exact W.iret (v := 1) hx hb hr (fun t ht hW => ⟨⟨1, S, rfl, by simp [m_ask, askN, a_sl, h_in, both, zi, c1, c2, c3, c4, c5, ea, c6, eb, w7, w9, c10], by rw [ht]; exact hP, va_K.moved hW.alike hK, hD⟩, hS.F ht⟩) hS.2.2 dX1_ask_109
                · refine lv_iconst (v := 0) hx hb dX1_ask_104 (by decide) ?_
                  refine lv_goto (tgt := 109) hx hb dX1_ask_105 (by decide) ?_
                  exact W.iret (v := 0) hx hb hr (fun t ht hW => ⟨⟨0, S, rfl, by simp [m_ask, askN, a_sl, h_in, both, zi, c1, c2, c3, c4, c5, ea, c6, eb, w7, w9, c10], by rw [ht]; exact hP, va_K.moved hW.alike hK, hD⟩, hS.F ht⟩) hS.2.2 dX1_ask_109
              by_cases w11 : hw = 2
              · refine lv_tableIn (tgt := 110) hx hb dX1_ask_51 (by rw [w11]; decide) (by rw [w11]; decide) (by rw [w11]; rfl) (by decide) ?_
                refine lv_iconst (v := 0) hx hb dX1_ask_110 (by decide) ?_
                refine lv_istore (lv' := [(7, .int 0), (6, .int (zi (hc S w sg a b))), (0, .ref (A 0)), (1, .int w), (2, .int sg), (3, .int hw), (4, .int (nI a)), (5, .int (nI b))]) hx hb dX1_ask_111 hl (by decide) rfl (fun ls hl => ?_)
                have L113 : ∀ (m1 i1 : Nat), i1 + m1 = s_n S - a → m_row S w sg a b = wh (fun k => hc S w sg (a + k) b) m1 i1 → ∀ (ls : Array Slot), lv_has ls 8 [(0, .ref (A 0)), (1, .int w), (2, .int sg), (4, .int (nI a)), (5, .int (nI b)), (7, .int (nI i1))] → W p l e (headSpec wsX1_ask (rmD 2)).room s m ([.ref (A 0), .int w, .int sg, .int hw, .int (nI a), .int (nI b)] : List Value).toArray below meth c s.heap [] 0 0 (MQ below (va_Qi (fun r u => (r, u) = m_ask S w sg hw (nI a) (nI b)) (Bw D (wM A K) (tM K) A9) A9) ([.ref (A 0), .int w, .int sg, .int hw, .int (nI a), .int (nI b)] : List Value).toArray s 0 0 A9) (F0 m 113 ls []) := by
                  intro m1
                  induction m1 with
                  | zero =>
                    intro i1 hm1 hinv ls hl
                    refine lv_iload hx hb dX1_ask_113 (lv_at hl 3 rfl) ?_
                    refine lv_iload hx hb dX1_ask_115 (lv_at hl 5 rfl) ?_
                    refine xn_add (i := a) (j := i1) hx hb dX1_ask_117 ?_
                    refine lv_aload_n hx hb dX1_ask_118 rfl (lv_at hl 0 rfl) ?_
                    refine va_get (D := D) (ci := 1) (v := .int (nI (s_n S))) (C := RX1) (T := TX1) (N := 9) hx hb hts hin hown hK hP 0 rfl rfl 0 (by decide) f_35 (fun _ h9 => h9) rfl dX1_ask_119 ?_
                    refine xn_ge (i := (a + i1)) (j := (s_n S)) (tgt := 147) hx hb (by omega) (by omega) dX1_ask_122 (by decide) (fun c12 => ?_) (fun c12 => ?_)
                    · refine lv_iload hx hb dX1_ask_147 (lv_at hl 5 rfl) ?_
                      exact W.iret (v := (nI i1)) hx hb hr (fun t ht hW => ⟨⟨(nI i1), S, rfl, by simp [m_ask, askN, a_sl, h_in, both, zi, c1, c2, c3, c4, c5, ea, c6, eb, w7, w9, w11, hinv, c12, wh], by rw [ht]; exact hP, va_K.moved hW.alike hK, hD⟩, hS.F ht⟩) hS.2.2 dX1_ask_149
                    · exfalso; omega
                  | succ m1 ih =>
                    intro i1 hm1 hinv ls hl
                    refine lv_iload hx hb dX1_ask_113 (lv_at hl 3 rfl) ?_
                    refine lv_iload hx hb dX1_ask_115 (lv_at hl 5 rfl) ?_
                    refine xn_add (i := a) (j := i1) hx hb dX1_ask_117 ?_
                    refine lv_aload_n hx hb dX1_ask_118 rfl (lv_at hl 0 rfl) ?_
                    refine va_get (D := D) (ci := 1) (v := .int (nI (s_n S))) (C := RX1) (T := TX1) (N := 9) hx hb hts hin hown hK hP 0 rfl rfl 0 (by decide) f_35 (fun _ h9 => h9) rfl dX1_ask_119 ?_
                    refine xn_ge (i := (a + i1)) (j := (s_n S)) (tgt := 147) hx hb (by omega) (by omega) dX1_ask_122 (by decide) (fun c13 => ?_) (fun c13 => ?_)
                    · exfalso; omega
                    · refine lv_aload_n hx hb dX1_ask_125 rfl (lv_at hl 0 rfl) ?_
                      refine lv_iload_n hx hb dX1_ask_126 rfl (lv_at hl 1 rfl) ?_
                      refine lv_iload_n hx hb dX1_ask_127 rfl (lv_at hl 2 rfl) ?_
                      refine lv_iload hx hb dX1_ask_128 (lv_at hl 3 rfl) ?_
                      refine lv_iload hx hb dX1_ask_130 (lv_at hl 5 rfl) ?_
                      refine xn_add (i := a) (j := i1) hx hb dX1_ask_132 ?_
                      refine lv_iload hx hb dX1_ask_133 (lv_at hl 4 rfl) ?_
                      refine rc_V (v := (zi (hc S w sg (a + i1) b))) ⟨hx, hb, hml, hown, hts⟩ [.int w, .int sg, .int (nI (a + i1)), .int (nI b)] [] (c_X1_asked l D A K S hI w sg (a + i1) b (by omega) (by omega)) (cwV 4 hts gX1_ask_X1_asked rfl rfl rfl (by decide +kernel) ⟨Nat.le_of_ble_eq_true rfl, Nat.le_of_ble_eq_true rfl⟩) hK hP (va_recv hK hP (ci := 1) (q0 := 0) rfl rfl) rfl hl.1 rfl (Nat.le_of_ble_eq_true rfl) ⟨Nat.zero_le _, Nat.zero_le _⟩ dX1_ask_135 ?_
                      refine xz_eq (b := (hc S w sg (a + i1) b)) (tgt := 147) hx hb dX1_ask_138 (by decide) (fun c14 => ?_) (fun c14 => ?_)
                      · refine lv_iload hx hb dX1_ask_147 (lv_at hl 5 rfl) ?_
                        exact W.iret (v := (nI i1)) hx hb hr (fun t ht hW => ⟨⟨(nI i1), S, rfl, by simp [m_ask, askN, a_sl, h_in, both, zi, c1, c2, c3, c4, c5, ea, c6, eb, w7, w9, w11, hinv, c13, c14, wh], by rw [ht]; exact hP, va_K.moved hW.alike hK, hD⟩, hS.F ht⟩) hS.2.2 dX1_ask_149
                      · refine lv_iinc (v := (nI (i1 + 1))) (lv' := [(7, .int (nI (i1 + 1))), (0, .ref (A 0)), (1, .int w), (2, .int sg), (4, .int (nI a)), (5, .int (nI b))]) hx hb dX1_ask_141 hl (k := 5) rfl (nI_add i1 1) (by decide) rfl (fun ls hl => ?_)
                        refine lv_goto (tgt := 113) hx hb dX1_ask_144 (by decide) ?_
                        exact ih (i1 + 1) (by omega) (by rw [hinv, wh]; simp [c14]) ls (lv_sub hl [1, 2, 3, 4, 5, 0] rfl)
                exact L113 (s_n S - a) 0 (by omega) (rfl) ls (lv_sub hl [2, 3, 4, 6, 7, 0] rfl)
              by_cases w15 : hw = 3
              · refine lv_tableIn (tgt := 150) hx hb dX1_ask_51 (by rw [w15]; decide) (by rw [w15]; decide) (by rw [w15]; rfl) (by decide) ?_
                refine lv_iload hx hb dX1_ask_150 (lv_at hl 0 rfl) ?_
                refine xz_eq (b := (hc S w sg a b)) (tgt := 160) hx hb dX1_ask_152 (by decide) (fun c16 => ?_) (fun c16 => ?_)
                · refine lv_iload hx hb dX1_ask_160 (lv_at hl 6 rfl) ?_
                  exact W.iret (v := (nI b)) hx hb hr (fun t ht hW => ⟨⟨(nI b), S, rfl, by simp [m_ask, askN, a_sl, h_in, both, zi, c1, c2, c3, c4, c5, ea, c6, eb, w7, w9, w11, w15, c16], by rw [ht]; exact hP, va_K.moved hW.alike hK, hD⟩, hS.F ht⟩) hS.2.2 dX1_ask_162
                · refine lv_iload hx hb dX1_ask_155 (lv_at hl 5 rfl) ?_
                  refine lv_goto (tgt := 162) hx hb dX1_ask_157 (by decide) ?_
                  exact W.iret (v := (nI a)) hx hb hr (fun t ht hW => ⟨⟨(nI a), S, rfl, by simp [m_ask, askN, a_sl, h_in, both, zi, c1, c2, c3, c4, c5, ea, c6, eb, w7, w9, w11, w15, c16], by rw [ht]; exact hP, va_K.moved hW.alike hK, hD⟩, hS.F ht⟩) hS.2.2 dX1_ask_162
              by_cases w17 : hw = 4
              · refine lv_tableIn (tgt := 163) hx hb dX1_ask_51 (by rw [w17]; decide) (by rw [w17]; decide) (by rw [w17]; rfl) (by decide) ?_
                refine lv_aload_n hx hb dX1_ask_163 rfl (lv_at hl 1 rfl) ?_
                refine va_get (D := D) (ci := 1) (v := .ref (A 3)) (C := RX1) (T := TX1) (N := 9) hx hb hts hin hown hK hP 0 rfl rfl 6 (by decide) f_26 (fun _ h9 => h9) rfl dX1_ask_164 ?_
                refine lv_iload hx hb dX1_ask_167 (lv_at hl 5 rfl) ?_
                have K179 : ∀ (q : Bool), q = (hc S w sg a b) → ∀ (ls : Array Slot), lv_has ls 8 [(6, .int (zi (hc S w sg a b))), (0, .ref (A 0)), (1, .int w), (2, .int sg), (3, .int hw), (4, .int (nI a)), (5, .int (nI b))] → W p l e (headSpec wsX1_ask (rmD 2)).room s m ([.ref (A 0), .int w, .int sg, .int hw, .int (nI a), .int (nI b)] : List Value).toArray below meth c s.heap [] 0 0 (MQ below (va_Qi (fun r u => (r, u) = m_ask S w sg hw (nI a) (nI b)) (Bw D (wM A K) (tM K) A9) A9) ([.ref (A 0), .int w, .int sg, .int hw, .int (nI a), .int (nI b)] : List Value).toArray s 0 0 A9) (F0 m 179 ls [.int (zi q), .int (nI a), .ref (A 3)]) := by
                  intro q e_q ls hl
                  refine xa_st (i := a) (x := zi q) (ws' := wM A K (a_sl S a q)) hx hb hK hP hD hS 3 2 rfl rfl (by omega) (by decide) (upB_e _ _ _) rfl dX1_ask_179 (fun H locs hP hD hS => ?_)
                  have hI2 : x_inv (a_sl S a q) := hI
                  refine lv_aload_n hx hb dX1_ask_180 rfl (lv_at hl 1 rfl) ?_
                  refine rc_V (v := (nI (cn (s_sl (a_sl S a q)) (s_n S)))) ⟨hx, hb, hml, hown, hts⟩ [] [] (c_X1_seals l D A K (a_sl S a q) hI2) (cwV 0 hts gX1_ask_X1_seals rfl rfl rfl (by decide +kernel) ⟨Nat.le_of_ble_eq_true rfl, Nat.le_of_ble_eq_true rfl⟩) hK hP (va_recv hK hP (ci := 1) (q0 := 0) rfl rfl) rfl hl.1 rfl (Nat.le_of_ble_eq_true rfl) ⟨Nat.zero_le _, Nat.zero_le _⟩ dX1_ask_181 ?_
                  exact W.iret (v := (nI (cn (s_sl (a_sl S a q)) (s_n S)))) hx hb hr (fun t ht hW => ⟨⟨(nI (cn (s_sl (a_sl S a q)) (s_n S))), a_sl S a q, rfl, by simp [m_ask, askN, a_sl, h_in, both, zi, c1, c2, c3, c4, c5, ea, c6, eb, w7, w9, w11, w15, w17, e_q], by rw [ht]; exact hP, va_K.moved hW.alike hK, hD⟩, hS.F ht⟩) hS.2.2 dX1_ask_184
                refine lv_iload hx hb dX1_ask_169 (lv_at hl 0 rfl) ?_
                refine xz_eq (b := (hc S w sg a b)) (tgt := 178) hx hb dX1_ask_171 (by decide) (fun c18 => ?_) (fun c18 => ?_)
                · refine lv_iconst (v := 0) hx hb dX1_ask_178 (by decide) ?_
                  exact K179 false (by simp [c18]) ls (lv_sub hl [0, 1, 2, 3, 4, 5, 6] rfl)
                · refine lv_iconst (v := 1) hx hb dX1_ask_174 (by decide) ?_
                  refine lv_goto (tgt := 179) hx hb dX1_ask_175 (by decide) ?_
                  exact K179 true (by simp [c18]) ls (lv_sub hl [0, 1, 2, 3, 4, 5, 6] rfl)
              by_cases w19 : hw = 5
              · refine lv_tableIn (tgt := 185) hx hb dX1_ask_51 (by rw [w19]; decide) (by rw [w19]; decide) (by rw [w19]; rfl) (by decide) ?_
                refine lv_aload_n hx hb dX1_ask_185 rfl (lv_at hl 1 rfl) ?_
                refine lv_iload_n hx hb dX1_ask_186 rfl (lv_at hl 2 rfl) ?_
                refine lv_iload_n hx hb dX1_ask_187 rfl (lv_at hl 3 rfl) ?_
                refine lv_iload hx hb dX1_ask_188 (lv_at hl 6 rfl) ?_
                refine lv_iload hx hb dX1_ask_190 (lv_at hl 5 rfl) ?_
                refine rc_V (v := (zi (hc S w sg b a))) ⟨hx, hb, hml, hown, hts⟩ [.int w, .int sg, .int (nI b), .int (nI a)] [] (c_X1_asked l D A K S hI w sg b a (by omega) (by omega)) (cwV 4 hts gX1_ask_X1_asked rfl rfl rfl (by decide +kernel) ⟨Nat.le_of_ble_eq_true rfl, Nat.le_of_ble_eq_true rfl⟩) hK hP (va_recv hK hP (ci := 1) (q0 := 0) rfl rfl) rfl hl.1 rfl (Nat.le_of_ble_eq_true rfl) ⟨Nat.zero_le _, Nat.zero_le _⟩ dX1_ask_192 ?_
                refine lv_istore (lv' := [(7, .int (zi (hc S w sg b a))), (6, .int (zi (hc S w sg a b))), (0, .ref (A 0)), (1, .int w), (2, .int sg), (3, .int hw), (4, .int (nI a)), (5, .int (nI b))]) hx hb dX1_ask_195 hl (by decide) rfl (fun ls hl => ?_)
                refine lv_iload hx hb dX1_ask_197 (lv_at hl 1 rfl) ?_
                refine xz_eq (b := (hc S w sg a b)) (tgt := 211) hx hb dX1_ask_199 (by decide) (fun c20 => ?_) (fun c20 => ?_)
                · refine lv_iload hx hb dX1_ask_211 (lv_at hl 1 rfl) ?_
                  refine xz_ne (b := (hc S w sg a b)) (tgt := 221) hx hb dX1_ask_213 (by decide) (fun c21 => ?_) (fun c21 => ?_)
                  · exact absurd (c20.symm.trans c21) (by decide)
                  · refine lv_iload hx hb dX1_ask_216 (lv_at hl 0 rfl) ?_
                    refine xz_eq (b := (hc S w sg b a)) (tgt := 225) hx hb dX1_ask_218 (by decide) (fun c22 => ?_) (fun c22 => ?_)
                    · refine lv_iconst (v := 0) hx hb dX1_ask_225 (by decide) ?_
                      exact W.iret (v := 0) hx hb hr (fun t ht hW => ⟨⟨0, S, rfl, by simp [m_ask, askN, a_sl, h_in, both, zi, c1, c2, c3, c4, c5, ea, c6, eb, w7, w9, w11, w15, w17, w19, c20, c21, c22], by rw [ht]; exact hP, va_K.moved hW.alike hK, hD⟩, hS.F ht⟩) hS.2.2 dX1_ask_226
                    · refine lv_iconst (v := 2) hx hb dX1_ask_221 (by decide) ?_
                      refine lv_goto (tgt := 226) hx hb dX1_ask_222 (by decide) ?_
                      exact W.iret (v := 2) hx hb hr (fun t ht hW => ⟨⟨2, S, rfl, by simp [m_ask, askN, a_sl, h_in, both, zi, c1, c2, c3, c4, c5, ea, c6, eb, w7, w9, w11, w15, w17, w19, c20, c21, c22], by rw [ht]; exact hP, va_K.moved hW.alike hK, hD⟩, hS.F ht⟩) hS.2.2 dX1_ask_226
                · refine lv_iload hx hb dX1_ask_202 (lv_at hl 0 rfl) ?_
                  refine xz_eq (b := (hc S w sg b a)) (tgt := 211) hx hb dX1_ask_204 (by decide) (fun c23 => ?_) (fun c23 => ?_)
                  · refine lv_iload hx hb dX1_ask_211 (lv_at hl 1 rfl) ?_
                    refine xz_ne (b := (hc S w sg a b)) (tgt := 221) hx hb dX1_ask_213 (by decide) (fun c24 => ?_) (fun c24 => ?_)
                    · refine lv_iconst (v := 2) hx hb dX1_ask_221 (by decide) ?_
                      refine lv_goto (tgt := 226) hx hb dX1_ask_222 (by decide) ?_
                      exact W.iret (v := 2) hx hb hr (fun t ht hW => ⟨⟨2, S, rfl, by simp [m_ask, askN, a_sl, h_in, both, zi, c1, c2, c3, c4, c5, ea, c6, eb, w7, w9, w11, w15, w17, w19, c20, c23, c24], by rw [ht]; exact hP, va_K.moved hW.alike hK, hD⟩, hS.F ht⟩) hS.2.2 dX1_ask_226
                    · exact absurd (c20.symm.trans c24) (by decide)
                  · refine lv_iconst (v := 1) hx hb dX1_ask_207 (by decide) ?_
                    refine lv_goto (tgt := 226) hx hb dX1_ask_208 (by decide) ?_
                    exact W.iret (v := 1) hx hb hr (fun t ht hW => ⟨⟨1, S, rfl, by simp [m_ask, askN, a_sl, h_in, both, zi, c1, c2, c3, c4, c5, ea, c6, eb, w7, w9, w11, w15, w17, w19, c20, c23], by rw [ht]; exact hP, va_K.moved hW.alike hK, hD⟩, hS.F ht⟩) hS.2.2 dX1_ask_226
              refine lv_tableOut (tgt := 227) hx hb dX1_ask_51 (by have tw7 := lv_neT (a := 0) w7 rfl; have tw9 := lv_neT (a := 1) w9 rfl; have tw11 := lv_neT (a := 2) w11 rfl; have tw15 := lv_neT (a := 3) w15 rfl; have tw17 := lv_neT (a := 4) w17 rfl; have tw19 := lv_neT (a := 5) w19 rfl; omega) (by decide) ?_
              refine lv_iconst (v := (-1)) hx hb dX1_ask_227 (by decide) ?_
              exact W.iret (v := (-1)) hx hb hr (fun t ht hW => ⟨⟨(-1), S, rfl, by simp [m_ask, askN, a_sl, h_in, both, zi, c1, c2, c3, c4, c5, ea, c6, eb, w7, w9, w11, w15, w17, w19], by rw [ht]; exact hP, va_K.moved hW.alike hK, hD⟩, hS.F ht⟩) hS.2.2 dX1_ask_228
            · refine lv_iconst (v := (-1)) hx hb dX1_ask_36 (by decide) ?_
              exact W.iret (v := (-1)) hx hb hr (fun t ht hW => ⟨⟨(-1), S, rfl, by simp [m_ask, askN, a_sl, h_in, both, zi, c1, c2, c3, c4, c5, ea, c6], by rw [ht]; exact hP, va_K.moved hW.alike hK, hD⟩, hS.F ht⟩) hS.2.2 dX1_ask_37
