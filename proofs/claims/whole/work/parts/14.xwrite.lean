set_option maxHeartbeats 4000000 in
set_option maxRecDepth 100000 in
theorem c_X0_admit (l : Launch) (D : va_G) (A : Nat → Nat) (K : Nat → ClassId) (S : XS) (hI : x_inv S) (sz : Nat) : Met l yX0_admit wsX0_admit (rmD 0) (va_Pc [.ref (A 0)] (Pw D (wX A K S) (tX K) sz)) (va_Qi (fun r u => (r, u) = x_admit S) (Bw D (wX A K) (tX K) (va_A (wX A K S) sz)) (va_A (wX A K S) sz)) 0 0 (va_A (wX A K S) sz) := by
  refine Met.ofW (cc := cX0_admit) (maxL := 2) (ret := some .int) (by decide) rfl ?_
  intro p e s m args below meth c s₁ B hml hv
  obtain ⟨rfl, hsz, hP, hK, hD0⟩ := hv
  have hx := B.exec
  have hb := B.bytes
  have hr := B.returns
  have hts := atoms_spec (ws := wsX0_admit) B.pre
  have hown : s.vm.findClass RX0 = some m.cls := findClass_of_methodNamed B.named
  have hlocks := B.notSynchronized
  have hn8 := hI.1
  have hin : ∀ w ∈ u_ws RX0 TX0 9, w ∈ wsX0_admit := fun w h => List.mem_cons_of_mem _ (List.mem_append_right _ h)
  have f_19 := hts (.fieldLink RX0 19 "ChronoTrials" "bests" "[I") (by decide +kernel)
  have f_26 := hts (.fieldLink RX0 26 "ChronoTrials" "clocks" "I") (by decide +kernel)
  subst hsz
  have hD := hD0.self (sz := s.heap.size)
  generalize hAe : va_A (wX A K S) s.heap.size = A9 at hD ⊢
  have hS : va_S A9 s.heap s.heap [] := va_S.rf
  have hl := lv_entry ([.ref (A 0)]) (n := 2) (Nat.le_of_ble_eq_true rfl)
  rw [lg_entry_eq]
  generalize (lg_sl ([.ref (A 0)]) ++ List.replicate (2 - (lg_sl ([.ref (A 0)])).length) Slot.unset).toArray = ls at hl ⊢
  have hl : lv_has ls 2 [(0, .ref (A 0))] := hl
  refine lv_aload_n hx hb dX0_admit_0 rfl (lv_at hl 0 rfl) ?_
  refine va_get (D := D) (ci := 0) (v := .int (nI (s_n S))) (C := RX0) (T := TX0) (N := 9) hx hb hts hin hown hK hP 0 rfl rfl 5 (by decide) f_26 (fun _ h9 => h9) rfl dX0_admit_1 ?_
  refine lv_bipush (v := 8) hx hb dX0_admit_4 (by decide) ?_
  refine xn_lt (i := (s_n S)) (j := 8) (tgt := 11) hx hb (by omega) (by omega) dX0_admit_6 (by decide) (fun c1 => ?_) (fun c1 => ?_)
  · refine lv_aload_n hx hb dX0_admit_11 rfl (lv_at hl 0 rfl) ?_
    refine va_get (D := D) (ci := 0) (v := .int (nI (s_n S))) (C := RX0) (T := TX0) (N := 9) hx hb hts hin hown hK hP 0 rfl rfl 5 (by decide) f_26 (fun _ h9 => h9) rfl dX0_admit_12 ?_
    refine lv_istore_n (lv' := [(1, .int (nI (s_n S))), (0, .ref (A 0))]) hx hb dX0_admit_15 rfl hl (by decide) rfl (fun ls hl => ?_)
    refine lv_aload_n hx hb dX0_admit_16 rfl (lv_at hl 1 rfl) ?_
    refine va_get (D := D) (ci := 0) (v := .ref (A 4)) (C := RX0) (T := TX0) (N := 9) hx hb hts hin hown hK hP 0 rfl rfl 3 (by decide) f_19 (fun _ h9 => h9) rfl dX0_admit_17 ?_
    refine lv_iload_n hx hb dX0_admit_20 rfl (lv_at hl 0 rfl) ?_
    refine lv_iconst (v := (-1)) hx hb dX0_admit_21 (by decide) ?_
    refine xa_st (i := (s_n S)) (x := (-1)) (ws' := wX A K (u_bs (upd (s_bs S) (s_n S) (-1)) S)) hx hb hK hP hD hS 4 3 rfl rfl (by omega) (by decide) (rfl) rfl dX0_admit_22 (fun H locs hP hD hS => ?_)
    refine lv_aload_n hx hb dX0_admit_23 rfl (lv_at hl 1 rfl) ?_
    refine lv_dup hx hb dX0_admit_24 rfl ?_
    refine va_get (D := D) (ci := 0) (v := .int (nI (s_n S))) (C := RX0) (T := TX0) (N := 9) hx hb hts hin hown hK hP 0 rfl rfl 5 (by decide) f_26 (fun _ h9 => h9) rfl dX0_admit_25 ?_
    refine lv_iconst (v := 1) hx hb dX0_admit_28 (by decide) ?_
    refine xn_add (i := (s_n S)) (j := 1) hx hb dX0_admit_29 ?_
    refine va_put (D := D) (ci := 0) (v := .int (nI ((s_n S) + 1))) (ty := .int) (C := RX0) (T := TX0) (N := 9) hx hb hts hin tyX0 tyX0_ok nmX0 hown hK hP hD hS 0 rfl rfl 5 (by decide) f_26 (fun _ h9 => h9) rfl (by decide +kernel) rfl rfl (Nat.le_of_ble_eq_true rfl) dX0_admit_30 (fun H locs hP hD hS => ?_)
    have hP : va_P D vwCl (wX A K (u_n ((s_n S) + 1) (u_bs (upd (s_bs S) (s_n S) (-1)) S))) H := hP
    have hD : va_D A9 (wX A K (u_n ((s_n S) + 1) (u_bs (upd (s_bs S) (s_n S) (-1)) S))) := hD
    refine lv_iload_n hx hb dX0_admit_33 rfl (lv_at hl 0 rfl) ?_
    exact W.iret (v := (nI (s_n S))) hx hb hr (fun t ht hW => ⟨⟨(nI (s_n S)), (u_n ((s_n S) + 1) (u_bs (upd (s_bs S) (s_n S) (-1)) S)), rfl, by simp [x_admit, c1], by rw [ht]; exact hP, va_K.moved hW.alike hK, hD⟩, hS.F ht⟩) hS.2.2 dX0_admit_34
  · refine lv_iconst (v := (-1)) hx hb dX0_admit_9 (by decide) ?_
    exact W.iret (v := (-1)) hx hb hr (fun t ht hW => ⟨⟨(-1), S, rfl, by simp [x_admit, c1], by rw [ht]; exact hP, va_K.moved hW.alike hK, hD⟩, hS.F ht⟩) hS.2.2 dX0_admit_10
set_option maxHeartbeats 4000000 in
set_option maxRecDepth 100000 in
theorem c_X0_prize (l : Launch) (D : va_G) (A : Nat → Nat) (K : Nat → ClassId) (S : XS) (hI : x_inv S) (sz : Nat) (v : Int32) : Met l yX0_prize wsX0_prize (rmD 2) (va_Pc [.ref (A 0), .int v] (Pw D (wX A K S) (tX K) sz)) (va_Qi (fun r u => (r, u) = x_prize S v) (Bw D (wX A K) (tX K) (va_A (wX A K S) sz)) (va_A (wX A K S) sz)) 0 0 (va_A (wX A K S) sz) := by
  refine Met.ofW (cc := cX0_prize) (maxL := 2) (ret := some .boolean) (by decide) rfl ?_
  intro p e s m args below meth c s₁ B hml hv
  obtain ⟨rfl, hsz, hP, hK, hD0⟩ := hv
  have hx := B.exec
  have hb := B.bytes
  have hr := B.returns
  have hts := atoms_spec (ws := wsX0_prize) B.pre
  have hown : s.vm.findClass RX0 = some m.cls := findClass_of_methodNamed B.named
  have hlocks := B.notSynchronized
  have hn8 := hI.1
  have hin : ∀ w ∈ u_ws RX0 TX0 9, w ∈ wsX0_prize := fun w h => List.mem_cons_of_mem _ (List.mem_append_right _ h)
  have f_30 := hts (.fieldLink RX0 30 "ChronoTrials" "prizeRate" "I") (by decide +kernel)
  subst hsz
  have hD := hD0.self (sz := s.heap.size)
  generalize hAe : va_A (wX A K S) s.heap.size = A9 at hD ⊢
  have hS : va_S A9 s.heap s.heap [] := va_S.rf
  have hl := lv_entry ([.ref (A 0), .int v]) (n := 2) (Nat.le_of_ble_eq_true rfl)
  rw [lg_entry_eq]
  generalize (lg_sl ([.ref (A 0), .int v]) ++ List.replicate (2 - (lg_sl ([.ref (A 0), .int v])).length) Slot.unset).toArray = ls at hl ⊢
  have hl : lv_has ls 2 [(0, .ref (A 0)), (1, .int v)] := hl
  refine lv_iload_n hx hb dX0_prize_0 rfl (lv_at hl 1 rfl) ?_
  refine rc_S (v := (zi (x_rate v))) ⟨hx, hb, hml, hown, hts⟩ [.int v] [] (c_X0_isRate l v) (va_cwS 1 hts gX0_prize_X0_isRate rfl rfl rfl (by decide +kernel) ⟨Nat.le_of_ble_eq_true rfl, Nat.le_of_ble_eq_true rfl⟩) rfl hl.1 rfl (Nat.le_of_ble_eq_true rfl) ⟨Nat.zero_le _, Nat.zero_le _⟩ dX0_prize_1 ?_
  refine xz_ne (b := (x_rate v)) (tgt := 9) hx hb dX0_prize_4 (by decide) (fun c1 => ?_) (fun c1 => ?_)
  · refine lv_aload_n hx hb dX0_prize_9 rfl (lv_at hl 0 rfl) ?_
    refine lv_iload_n hx hb dX0_prize_10 rfl (lv_at hl 1 rfl) ?_
    refine va_put (D := D) (ci := 0) (v := .int v) (ty := .int) (C := RX0) (T := TX0) (N := 9) hx hb hts hin tyX0 tyX0_ok nmX0 hown hK hP hD hS 0 rfl rfl 6 (by decide) f_30 (fun _ h9 => h9) rfl (by decide +kernel) rfl rfl (Nat.le_of_ble_eq_true rfl) dX0_prize_11 (fun H locs hP hD hS => ?_)
    have hP : va_P D vwCl (wX A K (u_pz v S)) H := hP
    have hD : va_D A9 (wX A K (u_pz v S)) := hD
    refine lv_iconst (v := 1) hx hb dX0_prize_14 (by decide) ?_
    exact W.zret (v := zi true) hx hb hr (zi_n _) (fun t ht hW => ⟨⟨zi true, (u_pz v S), rfl, by simp [x_prize, c1], by rw [ht]; exact hP, va_K.moved hW.alike hK, hD⟩, hS.F ht⟩) hS.2.2 dX0_prize_15
  · refine lv_iconst (v := 0) hx hb dX0_prize_7 (by decide) ?_
    exact W.zret (v := zi false) hx hb hr (zi_n _) (fun t ht hW => ⟨⟨zi false, S, rfl, by simp [x_prize, c1], by rw [ht]; exact hP, va_K.moved hW.alike hK, hD⟩, hS.F ht⟩) hS.2.2 dX0_prize_8
set_option maxHeartbeats 4000000 in
set_option maxRecDepth 100000 in
theorem c_X0_frost (l : Launch) (D : va_G) (A : Nat → Nat) (K : Nat → ClassId) (S : XS) (hI : x_inv S) (sz : Nat) (v : Int32) : Met l yX0_frost wsX0_frost (rmD 2) (va_Pc [.ref (A 0), .int v] (Pw D (wX A K S) (tX K) sz)) (va_Qi (fun r u => (r, u) = x_frost S v) (Bw D (wX A K) (tX K) (va_A (wX A K S) sz)) (va_A (wX A K S) sz)) 0 0 (va_A (wX A K S) sz) := by
  refine Met.ofW (cc := cX0_frost) (maxL := 2) (ret := some .boolean) (by decide) rfl ?_
  intro p e s m args below meth c s₁ B hml hv
  obtain ⟨rfl, hsz, hP, hK, hD0⟩ := hv
  have hx := B.exec
  have hb := B.bytes
  have hr := B.returns
  have hts := atoms_spec (ws := wsX0_frost) B.pre
  have hown : s.vm.findClass RX0 = some m.cls := findClass_of_methodNamed B.named
  have hlocks := B.notSynchronized
  have hn8 := hI.1
  have hin : ∀ w ∈ u_ws RX0 TX0 9, w ∈ wsX0_frost := fun w h => List.mem_cons_of_mem _ (List.mem_append_right _ h)
  have f_36 := hts (.fieldLink RX0 36 "ChronoTrials" "frostChill" "I") (by decide +kernel)
  subst hsz
  have hD := hD0.self (sz := s.heap.size)
  generalize hAe : va_A (wX A K S) s.heap.size = A9 at hD ⊢
  have hS : va_S A9 s.heap s.heap [] := va_S.rf
  have hl := lv_entry ([.ref (A 0), .int v]) (n := 2) (Nat.le_of_ble_eq_true rfl)
  rw [lg_entry_eq]
  generalize (lg_sl ([.ref (A 0), .int v]) ++ List.replicate (2 - (lg_sl ([.ref (A 0), .int v])).length) Slot.unset).toArray = ls at hl ⊢
  have hl : lv_has ls 2 [(0, .ref (A 0)), (1, .int v)] := hl
  refine lv_iload_n hx hb dX0_frost_0 rfl (lv_at hl 1 rfl) ?_
  refine rc_S (v := (zi (x_chill v))) ⟨hx, hb, hml, hown, hts⟩ [.int v] [] (c_X0_isChill l v) (va_cwS 1 hts gX0_frost_X0_isChill rfl rfl rfl (by decide +kernel) ⟨Nat.le_of_ble_eq_true rfl, Nat.le_of_ble_eq_true rfl⟩) rfl hl.1 rfl (Nat.le_of_ble_eq_true rfl) ⟨Nat.zero_le _, Nat.zero_le _⟩ dX0_frost_1 ?_
  refine xz_ne (b := (x_chill v)) (tgt := 9) hx hb dX0_frost_4 (by decide) (fun c1 => ?_) (fun c1 => ?_)
  · refine lv_aload_n hx hb dX0_frost_9 rfl (lv_at hl 0 rfl) ?_
    refine lv_iload_n hx hb dX0_frost_10 rfl (lv_at hl 1 rfl) ?_
    refine va_put (D := D) (ci := 0) (v := .int v) (ty := .int) (C := RX0) (T := TX0) (N := 9) hx hb hts hin tyX0 tyX0_ok nmX0 hown hK hP hD hS 0 rfl rfl 8 (by decide) f_36 (fun _ h9 => h9) rfl (by decide +kernel) rfl rfl (Nat.le_of_ble_eq_true rfl) dX0_frost_11 (fun H locs hP hD hS => ?_)
    have hP : va_P D vwCl (wX A K (u_fr v S)) H := hP
    have hD : va_D A9 (wX A K (u_fr v S)) := hD
    refine lv_iconst (v := 1) hx hb dX0_frost_14 (by decide) ?_
    exact W.zret (v := zi true) hx hb hr (zi_n _) (fun t ht hW => ⟨⟨zi true, (u_fr v S), rfl, by simp [x_frost, c1], by rw [ht]; exact hP, va_K.moved hW.alike hK, hD⟩, hS.F ht⟩) hS.2.2 dX0_frost_15
  · refine lv_iconst (v := 0) hx hb dX0_frost_7 (by decide) ?_
    exact W.zret (v := zi false) hx hb hr (zi_n _) (fun t ht hW => ⟨⟨zi false, S, rfl, by simp [x_frost, c1], by rw [ht]; exact hP, va_K.moved hW.alike hK, hD⟩, hS.F ht⟩) hS.2.2 dX0_frost_8
set_option maxHeartbeats 4000000 in
set_option maxRecDepth 100000 in
theorem c_X0_trial (l : Launch) (D : va_G) (A : Nat → Nat) (K : Nat → ClassId) (S : XS) (hI : x_inv S) (sz : Nat) (v : Int32) (hd : Int32) (te : Int32) : Met l yX0_trial wsX0_trial (rmD 4) (va_Pc [.ref (A 0), .int v, .int hd, .int te] (Pw D (wX A K S) (tX K) sz)) (va_Qi (fun r u => (r, u) = x_trial S v hd te) (Bw D (wX A K) (tX K) (va_A (wX A K S) sz)) (va_A (wX A K S) sz)) 0 0 (va_A (wX A K S) sz) := by
  refine Met.ofW (cc := cX0_trial) (maxL := 6) (ret := some .int) (by decide) rfl ?_
  intro p e s m args below meth c s₁ B hml hv
  obtain ⟨rfl, hsz, hP, hK, hD0⟩ := hv
  have hx := B.exec
  have hb := B.bytes
  have hr := B.returns
  have hts := atoms_spec (ws := wsX0_trial) B.pre
  have hown : s.vm.findClass RX0 = some m.cls := findClass_of_methodNamed B.named
  have hlocks := B.notSynchronized
  have hn8 := hI.1
  have hin : ∀ w ∈ u_ws RX0 TX0 9, w ∈ wsX0_trial := fun w h => List.mem_cons_of_mem _ (List.mem_append_right _ h)
  have f_9 := hts (.fieldLink RX0 9 "ChronoTrials" "rates" "[I") (by decide +kernel)
  have f_13 := hts (.fieldLink RX0 13 "ChronoTrials" "chills" "[I") (by decide +kernel)
  have f_16 := hts (.fieldLink RX0 16 "ChronoTrials" "trialsOf" "[I") (by decide +kernel)
  have f_19 := hts (.fieldLink RX0 19 "ChronoTrials" "bests" "[I") (by decide +kernel)
  have f_33 := hts (.fieldLink RX0 33 "ChronoTrials" "recordRate" "I") (by decide +kernel)
  subst hsz
  have hD := hD0.self (sz := s.heap.size)
  generalize hAe : va_A (wX A K S) s.heap.size = A9 at hD ⊢
  have hS : va_S A9 s.heap s.heap [] := va_S.rf
  have hl := lv_entry ([.ref (A 0), .int v, .int hd, .int te]) (n := 6) (Nat.le_of_ble_eq_true rfl)
  rw [lg_entry_eq]
  generalize (lg_sl ([.ref (A 0), .int v, .int hd, .int te]) ++ List.replicate (6 - (lg_sl ([.ref (A 0), .int v, .int hd, .int te])).length) Slot.unset).toArray = ls at hl ⊢
  have hl : lv_has ls 6 [(0, .ref (A 0)), (1, .int v), (2, .int hd), (3, .int te)] := hl
  refine lv_aload_n hx hb dX0_trial_0 rfl (lv_at hl 0 rfl) ?_
  refine lv_iload_n hx hb dX0_trial_1 rfl (lv_at hl 1 rfl) ?_
  refine rc_V (v := (zi (isClk S v))) ⟨hx, hb, hml, hown, hts⟩ [.int v] [] (c_X0_isClock l D A K S hI v) (cwV 1 hts gX0_trial_X0_isClock rfl rfl rfl (by decide +kernel) ⟨Nat.le_of_ble_eq_true rfl, Nat.le_of_ble_eq_true rfl⟩) hK hP (va_recv hK hP (ci := 0) (q0 := 0) rfl rfl) rfl hl.1 rfl (Nat.le_of_ble_eq_true rfl) ⟨Nat.zero_le _, Nat.zero_le _⟩ dX0_trial_2 ?_
  refine xz_eq (b := (isClk S v)) (tgt := 22) hx hb dX0_trial_5 (by decide) (fun c1 => ?_) (fun c1 => ?_)
  · refine lv_iconst (v := (-1)) hx hb dX0_trial_22 (by decide) ?_
    exact W.iret (v := (-1)) hx hb hr (fun t ht hW => ⟨⟨(-1), S, rfl, by simp [x_trial, trX, tr3, c1], by rw [ht]; exact hP, va_K.moved hW.alike hK, hD⟩, hS.F ht⟩) hS.2.2 dX0_trial_23
  · obtain ⟨a, ha, rfl⟩ := isClk_ex c1 hn8
    have ea : (nI a).toNatClampNeg = a := nI_clamp (by omega)
    have ht6 := hI.2 a
    refine lv_iload_n hx hb dX0_trial_8 rfl (lv_at hl 2 rfl) ?_
    refine rc_S (v := (zi (x_rate hd))) ⟨hx, hb, hml, hown, hts⟩ [.int hd] [] (c_X0_isRate l hd) (va_cwS 1 hts gX0_trial_X0_isRate rfl rfl rfl (by decide +kernel) ⟨Nat.le_of_ble_eq_true rfl, Nat.le_of_ble_eq_true rfl⟩) rfl hl.1 rfl (Nat.le_of_ble_eq_true rfl) ⟨Nat.zero_le _, Nat.zero_le _⟩ dX0_trial_9 ?_
    refine xz_eq (b := (x_rate hd)) (tgt := 22) hx hb dX0_trial_12 (by decide) (fun c2 => ?_) (fun c2 => ?_)
    · refine lv_iconst (v := (-1)) hx hb dX0_trial_22 (by decide) ?_
      exact W.iret (v := (-1)) hx hb hr (fun t ht hW => ⟨⟨(-1), S, rfl, by simp [x_trial, trX, tr3, c1, ea, c2], by rw [ht]; exact hP, va_K.moved hW.alike hK, hD⟩, hS.F ht⟩) hS.2.2 dX0_trial_23
    · refine lv_iload_n hx hb dX0_trial_15 rfl (lv_at hl 3 rfl) ?_
      refine rc_S (v := (zi (x_chill te))) ⟨hx, hb, hml, hown, hts⟩ [.int te] [] (c_X0_isChill l te) (va_cwS 1 hts gX0_trial_X0_isChill rfl rfl rfl (by decide +kernel) ⟨Nat.le_of_ble_eq_true rfl, Nat.le_of_ble_eq_true rfl⟩) rfl hl.1 rfl (Nat.le_of_ble_eq_true rfl) ⟨Nat.zero_le _, Nat.zero_le _⟩ dX0_trial_16 ?_
      refine xz_ne (b := (x_chill te)) (tgt := 24) hx hb dX0_trial_19 (by decide) (fun c3 => ?_) (fun c3 => ?_)
      · refine lv_aload_n hx hb dX0_trial_24 rfl (lv_at hl 0 rfl) ?_
        refine va_get (D := D) (ci := 0) (v := .ref (A 3)) (C := RX0) (T := TX0) (N := 9) hx hb hts hin hown hK hP 0 rfl rfl 2 (by decide) f_16 (fun _ h9 => h9) rfl dX0_trial_25 ?_
        refine lv_iload_n hx hb dX0_trial_28 rfl (lv_at hl 1 rfl) ?_
        refine xa_ld (i := a) (v := (nI ((s_tr S) a))) hx hb hK hP 3 2 rfl rfl (by omega) (by decide) (rfl) dX0_trial_29 ?_
        refine lv_bipush (v := 6) hx hb dX0_trial_30 (by decide) ?_
        refine xn_lt (i := ((s_tr S) a)) (j := 6) (tgt := 37) hx hb (by omega) (by omega) dX0_trial_32 (by decide) (fun c4 => ?_) (fun c4 => ?_)
        · refine lv_aload_n hx hb dX0_trial_37 rfl (lv_at hl 0 rfl) ?_
          refine lv_iload_n hx hb dX0_trial_38 rfl (lv_at hl 1 rfl) ?_
          refine lv_iload_n hx hb dX0_trial_39 rfl (lv_at hl 2 rfl) ?_
          refine lv_iload_n hx hb dX0_trial_40 rfl (lv_at hl 3 rfl) ?_
          refine rc_V (v := (nI (x_marks S a hd te))) ⟨hx, hb, hml, hown, hts⟩ [.int (nI a), .int hd, .int te] [] (c_X0_marksOf l D A K S hI a hd te (by omega)) (cwV 3 hts gX0_trial_X0_marksOf rfl rfl rfl (by decide +kernel) ⟨Nat.le_of_ble_eq_true rfl, Nat.le_of_ble_eq_true rfl⟩) hK hP (va_recv hK hP (ci := 0) (q0 := 0) rfl rfl) rfl hl.1 rfl (Nat.le_of_ble_eq_true rfl) ⟨Nat.zero_le _, Nat.zero_le _⟩ dX0_trial_41 ?_
          refine lv_istore (lv' := [(4, .int (nI (x_marks S a hd te))), (0, .ref (A 0)), (1, .int (nI a)), (2, .int hd), (3, .int te)]) hx hb dX0_trial_44 hl (by decide) rfl (fun ls hl => ?_)
          refine lv_iload_n hx hb dX0_trial_46 rfl (lv_at hl 2 rfl) ?_
          refine lv_aload_n hx hb dX0_trial_47 rfl (lv_at hl 1 rfl) ?_
          refine va_get (D := D) (ci := 0) (v := .ref (A 3)) (C := RX0) (T := TX0) (N := 9) hx hb hts hin hown hK hP 0 rfl rfl 2 (by decide) f_16 (fun _ h9 => h9) rfl dX0_trial_48 ?_
          refine lv_iload_n hx hb dX0_trial_51 rfl (lv_at hl 2 rfl) ?_
          refine xa_ld (i := a) (v := (nI ((s_tr S) a))) hx hb hK hP 3 2 rfl rfl (by omega) (by decide) (rfl) dX0_trial_52 ?_
          refine rc_S (v := (nI (a * 6 + ((s_tr S) a)))) ⟨hx, hb, hml, hown, hts⟩ [.int (nI a), .int (nI ((s_tr S) a))] [] (c_X0_slot l a ((s_tr S) a)) (va_cwS 2 hts gX0_trial_X0_slot rfl rfl rfl (by decide +kernel) ⟨Nat.le_of_ble_eq_true rfl, Nat.le_of_ble_eq_true rfl⟩) rfl hl.1 rfl (Nat.le_of_ble_eq_true rfl) ⟨Nat.zero_le _, Nat.zero_le _⟩ dX0_trial_53 ?_
          refine lv_istore (lv' := [(5, .int (nI (a * 6 + ((s_tr S) a)))), (4, .int (nI (x_marks S a hd te))), (0, .ref (A 0)), (1, .int (nI a)), (2, .int hd), (3, .int te)]) hx hb dX0_trial_56 hl (by decide) rfl (fun ls hl => ?_)
          refine lv_aload_n hx hb dX0_trial_58 rfl (lv_at hl 2 rfl) ?_
          refine va_get (D := D) (ci := 0) (v := .ref (A 1)) (C := RX0) (T := TX0) (N := 9) hx hb hts hin hown hK hP 0 rfl rfl 0 (by decide) f_9 (fun _ h9 => h9) rfl dX0_trial_59 ?_
          refine lv_iload hx hb dX0_trial_62 (lv_at hl 0 rfl) ?_
          refine lv_iload_n hx hb dX0_trial_64 rfl (lv_at hl 4 rfl) ?_
          refine xa_st (i := (a * 6 + ((s_tr S) a))) (x := hd) (ws' := wX A K (u_rt (upd (s_rt S) (a * 6 + ((s_tr S) a)) hd) S)) hx hb hK hP hD hS 1 0 rfl rfl (by omega) (by decide) (rfl) rfl dX0_trial_65 (fun H locs hP hD hS => ?_)
          refine lv_aload_n hx hb dX0_trial_66 rfl (lv_at hl 2 rfl) ?_
          refine va_get (D := D) (ci := 0) (v := .ref (A 2)) (C := RX0) (T := TX0) (N := 9) hx hb hts hin hown hK hP 0 rfl rfl 1 (by decide) f_13 (fun _ h9 => h9) rfl dX0_trial_67 ?_
          refine lv_iload hx hb dX0_trial_70 (lv_at hl 0 rfl) ?_
          refine lv_iload_n hx hb dX0_trial_72 rfl (lv_at hl 5 rfl) ?_
          refine xa_st (i := (a * 6 + ((s_tr S) a))) (x := te) (ws' := wX A K (u_ch (upd (s_ch S) (a * 6 + ((s_tr S) a)) te) (u_rt (upd (s_rt S) (a * 6 + ((s_tr S) a)) hd) S))) hx hb hK hP hD hS 2 1 rfl rfl (by omega) (by decide) (rfl) rfl dX0_trial_73 (fun H locs hP hD hS => ?_)
          refine lv_aload_n hx hb dX0_trial_74 rfl (lv_at hl 2 rfl) ?_
          refine va_get (D := D) (ci := 0) (v := .ref (A 3)) (C := RX0) (T := TX0) (N := 9) hx hb hts hin hown hK hP 0 rfl rfl 2 (by decide) f_16 (fun _ h9 => h9) rfl dX0_trial_75 ?_
          refine lv_iload_n hx hb dX0_trial_78 rfl (lv_at hl 3 rfl) ?_
          refine lv_dup2_11 hx hb dX0_trial_79 rfl rfl ?_
          refine xa_ld (i := a) (v := (nI ((s_tr S) a))) hx hb hK hP 3 2 rfl rfl (by omega) (by decide) (rfl) dX0_trial_80 ?_
          refine lv_iconst (v := 1) hx hb dX0_trial_81 (by decide) ?_
          refine xn_add (i := ((s_tr S) a)) (j := 1) hx hb dX0_trial_82 ?_
          refine xa_st (i := a) (x := nI (((s_tr S) a) + 1)) (ws' := wX A K (u_tr (upN (s_tr S) a (((s_tr S) a) + 1)) (u_ch (upd (s_ch S) (a * 6 + ((s_tr S) a)) te) (u_rt (upd (s_rt S) (a * 6 + ((s_tr S) a)) hd) S)))) hx hb hK hP hD hS 3 2 rfl rfl (by omega) (by decide) (upN_e _ _ _) rfl dX0_trial_83 (fun H locs hP hD hS => ?_)
          refine lv_iload hx hb dX0_trial_84 (lv_at hl 1 rfl) ?_
          refine lv_iconst (v := 4) hx hb dX0_trial_86 (by decide) ?_
          refine lv_iand hx hb dX0_trial_87 ?_
          refine lv_if_eq (tgt := 98) hx hb dX0_trial_88 (by decide) (fun c5 => ?_) (fun c5 => ?_)
          · have c5 := (mk4_4 _ _ _ _).mp c5
            refine lv_iload hx hb dX0_trial_98 (lv_at hl 1 rfl) ?_
            refine lv_bipush (v := 8) hx hb dX0_trial_100 (by decide) ?_
            refine lv_iand hx hb dX0_trial_102 ?_
            refine lv_if_eq (tgt := 111) hx hb dX0_trial_103 (by decide) (fun c6 => ?_) (fun c6 => ?_)
            · have c6 := (mk4_8 _ _ _ _).mp c6
              refine lv_iload hx hb dX0_trial_111 (lv_at hl 1 rfl) ?_
              exact W.iret (v := (nI (x_marks S a hd te))) hx hb hr (fun t ht hW => ⟨⟨(nI (x_marks S a hd te)), (u_tr (upN (s_tr S) a (((s_tr S) a) + 1)) (u_ch (upd (s_ch S) (a * 6 + ((s_tr S) a)) te) (u_rt (upd (s_rt S) (a * 6 + ((s_tr S) a)) hd) S))), rfl, by simp [x_trial, trX, tr3, c1, ea, c2, c3, c4, c5, c6], by rw [ht]; exact hP, va_K.moved hW.alike hK, hD⟩, hS.F ht⟩) hS.2.2 dX0_trial_113
            · have c6 := b_t (fun q => c6 ((mk4_8 _ _ _ _).mpr q))
              refine lv_aload_n hx hb dX0_trial_106 rfl (lv_at hl 2 rfl) ?_
              refine lv_iload_n hx hb dX0_trial_107 rfl (lv_at hl 4 rfl) ?_
              refine va_put (D := D) (ci := 0) (v := .int hd) (ty := .int) (C := RX0) (T := TX0) (N := 9) hx hb hts hin tyX0 tyX0_ok nmX0 hown hK hP hD hS 0 rfl rfl 7 (by decide) f_33 (fun _ h9 => h9) rfl (by decide +kernel) rfl rfl (Nat.le_of_ble_eq_true rfl) dX0_trial_108 (fun H locs hP hD hS => ?_)
              have hP : va_P D vwCl (wX A K (u_rc hd (u_tr (upN (s_tr S) a (((s_tr S) a) + 1)) (u_ch (upd (s_ch S) (a * 6 + ((s_tr S) a)) te) (u_rt (upd (s_rt S) (a * 6 + ((s_tr S) a)) hd) S))))) H := hP
              have hD : va_D A9 (wX A K (u_rc hd (u_tr (upN (s_tr S) a (((s_tr S) a) + 1)) (u_ch (upd (s_ch S) (a * 6 + ((s_tr S) a)) te) (u_rt (upd (s_rt S) (a * 6 + ((s_tr S) a)) hd) S))))) := hD
              refine lv_iload hx hb dX0_trial_111 (lv_at hl 1 rfl) ?_
              exact W.iret (v := (nI (x_marks S a hd te))) hx hb hr (fun t ht hW => ⟨⟨(nI (x_marks S a hd te)), (u_rc hd (u_tr (upN (s_tr S) a (((s_tr S) a) + 1)) (u_ch (upd (s_ch S) (a * 6 + ((s_tr S) a)) te) (u_rt (upd (s_rt S) (a * 6 + ((s_tr S) a)) hd) S)))), rfl, by simp [x_trial, trX, tr3, c1, ea, c2, c3, c4, c5, c6], by rw [ht]; exact hP, va_K.moved hW.alike hK, hD⟩, hS.F ht⟩) hS.2.2 dX0_trial_113
          · have c5 := b_t (fun q => c5 ((mk4_4 _ _ _ _).mpr q))
            refine lv_aload_n hx hb dX0_trial_91 rfl (lv_at hl 2 rfl) ?_
            refine va_get (D := D) (ci := 0) (v := .ref (A 4)) (C := RX0) (T := TX0) (N := 9) hx hb hts hin hown hK hP 0 rfl rfl 3 (by decide) f_19 (fun _ h9 => h9) rfl dX0_trial_92 ?_
            refine lv_iload_n hx hb dX0_trial_95 rfl (lv_at hl 3 rfl) ?_
            refine lv_iload_n hx hb dX0_trial_96 rfl (lv_at hl 4 rfl) ?_
            refine xa_st (i := a) (x := hd) (ws' := wX A K (u_bs (upd (s_bs S) a hd) (u_tr (upN (s_tr S) a (((s_tr S) a) + 1)) (u_ch (upd (s_ch S) (a * 6 + ((s_tr S) a)) te) (u_rt (upd (s_rt S) (a * 6 + ((s_tr S) a)) hd) S))))) hx hb hK hP hD hS 4 3 rfl rfl (by omega) (by decide) (rfl) rfl dX0_trial_97 (fun H locs hP hD hS => ?_)
            refine lv_iload hx hb dX0_trial_98 (lv_at hl 1 rfl) ?_
            refine lv_bipush (v := 8) hx hb dX0_trial_100 (by decide) ?_
            refine lv_iand hx hb dX0_trial_102 ?_
            refine lv_if_eq (tgt := 111) hx hb dX0_trial_103 (by decide) (fun c7 => ?_) (fun c7 => ?_)
            · have c7 := (mk4_8 _ _ _ _).mp c7
              refine lv_iload hx hb dX0_trial_111 (lv_at hl 1 rfl) ?_
              exact W.iret (v := (nI (x_marks S a hd te))) hx hb hr (fun t ht hW => ⟨⟨(nI (x_marks S a hd te)), (u_bs (upd (s_bs S) a hd) (u_tr (upN (s_tr S) a (((s_tr S) a) + 1)) (u_ch (upd (s_ch S) (a * 6 + ((s_tr S) a)) te) (u_rt (upd (s_rt S) (a * 6 + ((s_tr S) a)) hd) S)))), rfl, by simp [x_trial, trX, tr3, c1, ea, c2, c3, c4, c5, c7], by rw [ht]; exact hP, va_K.moved hW.alike hK, hD⟩, hS.F ht⟩) hS.2.2 dX0_trial_113
            · have c7 := b_t (fun q => c7 ((mk4_8 _ _ _ _).mpr q))
              refine lv_aload_n hx hb dX0_trial_106 rfl (lv_at hl 2 rfl) ?_
              refine lv_iload_n hx hb dX0_trial_107 rfl (lv_at hl 4 rfl) ?_
              refine va_put (D := D) (ci := 0) (v := .int hd) (ty := .int) (C := RX0) (T := TX0) (N := 9) hx hb hts hin tyX0 tyX0_ok nmX0 hown hK hP hD hS 0 rfl rfl 7 (by decide) f_33 (fun _ h9 => h9) rfl (by decide +kernel) rfl rfl (Nat.le_of_ble_eq_true rfl) dX0_trial_108 (fun H locs hP hD hS => ?_)
              have hP : va_P D vwCl (wX A K (u_rc hd (u_bs (upd (s_bs S) a hd) (u_tr (upN (s_tr S) a (((s_tr S) a) + 1)) (u_ch (upd (s_ch S) (a * 6 + ((s_tr S) a)) te) (u_rt (upd (s_rt S) (a * 6 + ((s_tr S) a)) hd) S)))))) H := hP
              have hD : va_D A9 (wX A K (u_rc hd (u_bs (upd (s_bs S) a hd) (u_tr (upN (s_tr S) a (((s_tr S) a) + 1)) (u_ch (upd (s_ch S) (a * 6 + ((s_tr S) a)) te) (u_rt (upd (s_rt S) (a * 6 + ((s_tr S) a)) hd) S)))))) := hD
              refine lv_iload hx hb dX0_trial_111 (lv_at hl 1 rfl) ?_
              exact W.iret (v := (nI (x_marks S a hd te))) hx hb hr (fun t ht hW => ⟨⟨(nI (x_marks S a hd te)), (u_rc hd (u_bs (upd (s_bs S) a hd) (u_tr (upN (s_tr S) a (((s_tr S) a) + 1)) (u_ch (upd (s_ch S) (a * 6 + ((s_tr S) a)) te) (u_rt (upd (s_rt S) (a * 6 + ((s_tr S) a)) hd) S))))), rfl, by simp [x_trial, trX, tr3, c1, ea, c2, c3, c4, c5, c7], by rw [ht]; exact hP, va_K.moved hW.alike hK, hD⟩, hS.F ht⟩) hS.2.2 dX0_trial_113
        · refine lv_iconst (v := (-1)) hx hb dX0_trial_35 (by decide) ?_
          exact W.iret (v := (-1)) hx hb hr (fun t ht hW => ⟨⟨(-1), S, rfl, by simp [x_trial, trX, tr3, c1, ea, c2, c3, c4], by rw [ht]; exact hP, va_K.moved hW.alike hK, hD⟩, hS.F ht⟩) hS.2.2 dX0_trial_36
      · refine lv_iconst (v := (-1)) hx hb dX0_trial_22 (by decide) ?_
        exact W.iret (v := (-1)) hx hb hr (fun t ht hW => ⟨⟨(-1), S, rfl, by simp [x_trial, trX, tr3, c1, ea, c2, c3], by rw [ht]; exact hP, va_K.moved hW.alike hK, hD⟩, hS.F ht⟩) hS.2.2 dX0_trial_23
set_option maxHeartbeats 4000000 in
set_option maxRecDepth 100000 in
theorem c_X0_annul (l : Launch) (D : va_G) (A : Nat → Nat) (K : Nat → ClassId) (S : XS) (hI : x_inv S) (sz : Nat) (v : Int32) : Met l yX0_annul wsX0_annul (rmD 4) (va_Pc [.ref (A 0), .int v] (Pw D (wX A K S) (tX K) sz)) (va_Qi (fun r u => (r, u) = x_annul S v) (Bw D (wX A K) (tX K) (va_A (wX A K S) sz)) (va_A (wX A K S) sz)) 0 0 (va_A (wX A K S) sz) := by
  refine Met.ofW (cc := cX0_annul) (maxL := 2) (ret := some .int) (by decide) rfl ?_
  intro p e s m args below meth c s₁ B hml hv
  obtain ⟨rfl, hsz, hP, hK, hD0⟩ := hv
  have hx := B.exec
  have hb := B.bytes
  have hr := B.returns
  have hts := atoms_spec (ws := wsX0_annul) B.pre
  have hown : s.vm.findClass RX0 = some m.cls := findClass_of_methodNamed B.named
  have hlocks := B.notSynchronized
  have hn8 := hI.1
  have hin : ∀ w ∈ u_ws RX0 TX0 9, w ∈ wsX0_annul := fun w h => List.mem_cons_of_mem _ (List.mem_append_right _ h)
  have f_16 := hts (.fieldLink RX0 16 "ChronoTrials" "trialsOf" "[I") (by decide +kernel)
  have f_19 := hts (.fieldLink RX0 19 "ChronoTrials" "bests" "[I") (by decide +kernel)
  subst hsz
  have hD := hD0.self (sz := s.heap.size)
  generalize hAe : va_A (wX A K S) s.heap.size = A9 at hD ⊢
  have hS : va_S A9 s.heap s.heap [] := va_S.rf
  have hl := lv_entry ([.ref (A 0), .int v]) (n := 2) (Nat.le_of_ble_eq_true rfl)
  rw [lg_entry_eq]
  generalize (lg_sl ([.ref (A 0), .int v]) ++ List.replicate (2 - (lg_sl ([.ref (A 0), .int v])).length) Slot.unset).toArray = ls at hl ⊢
  have hl : lv_has ls 2 [(0, .ref (A 0)), (1, .int v)] := hl
  refine lv_aload_n hx hb dX0_annul_0 rfl (lv_at hl 0 rfl) ?_
  refine lv_iload_n hx hb dX0_annul_1 rfl (lv_at hl 1 rfl) ?_
  refine rc_V (v := (zi (isClk S v))) ⟨hx, hb, hml, hown, hts⟩ [.int v] [] (c_X0_isClock l D A K S hI v) (cwV 1 hts gX0_annul_X0_isClock rfl rfl rfl (by decide +kernel) ⟨Nat.le_of_ble_eq_true rfl, Nat.le_of_ble_eq_true rfl⟩) hK hP (va_recv hK hP (ci := 0) (q0 := 0) rfl rfl) rfl hl.1 rfl (Nat.le_of_ble_eq_true rfl) ⟨Nat.zero_le _, Nat.zero_le _⟩ dX0_annul_2 ?_
  refine xz_eq (b := (isClk S v)) (tgt := 17) hx hb dX0_annul_5 (by decide) (fun c1 => ?_) (fun c1 => ?_)
  · refine lv_iconst (v := (-1)) hx hb dX0_annul_17 (by decide) ?_
    exact W.iret (v := (-1)) hx hb hr (fun t ht hW => ⟨⟨(-1), S, rfl, by simp [x_annul, an2, an1, upN_s, c1], by rw [ht]; exact hP, va_K.moved hW.alike hK, hD⟩, hS.F ht⟩) hS.2.2 dX0_annul_18
  · obtain ⟨a, ha, rfl⟩ := isClk_ex c1 hn8
    have ea : (nI a).toNatClampNeg = a := nI_clamp (by omega)
    have ht6 := hI.2 a
    refine lv_aload_n hx hb dX0_annul_8 rfl (lv_at hl 0 rfl) ?_
    refine va_get (D := D) (ci := 0) (v := .ref (A 3)) (C := RX0) (T := TX0) (N := 9) hx hb hts hin hown hK hP 0 rfl rfl 2 (by decide) f_16 (fun _ h9 => h9) rfl dX0_annul_9 ?_
    refine lv_iload_n hx hb dX0_annul_12 rfl (lv_at hl 1 rfl) ?_
    refine xa_ld (i := a) (v := (nI ((s_tr S) a))) hx hb hK hP 3 2 rfl rfl (by omega) (by decide) (rfl) dX0_annul_13 ?_
    refine xn_ifgt (i := ((s_tr S) a)) (tgt := 19) hx hb (by omega) dX0_annul_14 (by decide) (fun c2 => ?_) (fun c2 => ?_)
    · refine lv_aload_n hx hb dX0_annul_19 rfl (lv_at hl 0 rfl) ?_
      refine va_get (D := D) (ci := 0) (v := .ref (A 3)) (C := RX0) (T := TX0) (N := 9) hx hb hts hin hown hK hP 0 rfl rfl 2 (by decide) f_16 (fun _ h9 => h9) rfl dX0_annul_20 ?_
      refine lv_iload_n hx hb dX0_annul_23 rfl (lv_at hl 1 rfl) ?_
      refine lv_dup2_11 hx hb dX0_annul_24 rfl rfl ?_
      refine xa_ld (i := a) (v := (nI ((s_tr S) a))) hx hb hK hP 3 2 rfl rfl (by omega) (by decide) (rfl) dX0_annul_25 ?_
      refine lv_iconst (v := 1) hx hb dX0_annul_26 (by decide) ?_
      refine xn_sub (i := ((s_tr S) a)) (j := 1) hx hb (by omega) dX0_annul_27 ?_
      refine xa_st (i := a) (x := nI (((s_tr S) a) - 1)) (ws' := wX A K (an1 S a)) hx hb hK hP hD hS 3 2 rfl rfl (by omega) (by decide) (upN_e _ _ _) rfl dX0_annul_28 (fun H locs hP hD hS => ?_)
      have hI1 : x_inv (an1 S a) := ⟨hI.1, fun k => by show upN (s_tr S) a (s_tr S a - 1) k ≤ 6; unfold upN; have h6 := hI.2 k; split <;> omega⟩
      refine lv_aload_n hx hb dX0_annul_29 rfl (lv_at hl 0 rfl) ?_
      refine va_get (D := D) (ci := 0) (v := .ref (A 4)) (C := RX0) (T := TX0) (N := 9) hx hb hts hin hown hK hP 0 rfl rfl 3 (by decide) f_19 (fun _ h9 => h9) rfl dX0_annul_30 ?_
      refine lv_iload_n hx hb dX0_annul_33 rfl (lv_at hl 1 rfl) ?_
      refine lv_aload_n hx hb dX0_annul_34 rfl (lv_at hl 0 rfl) ?_
      refine lv_iload_n hx hb dX0_annul_35 rfl (lv_at hl 1 rfl) ?_
      refine rc_V (v := (x_least (an1 S a) a)) ⟨hx, hb, hml, hown, hts⟩ [.int (nI a)] [.int (nI a), .ref (A 4)] (c_X0_leastRate l D A K (an1 S a) hI1 a (by omega)) (cwV 1 hts gX0_annul_X0_leastRate rfl rfl rfl (by decide +kernel) ⟨Nat.le_of_ble_eq_true rfl, Nat.le_of_ble_eq_true rfl⟩) hK hP (va_recv hK hP (ci := 0) (q0 := 0) rfl rfl) rfl hl.1 rfl (Nat.le_of_ble_eq_true rfl) ⟨Nat.zero_le _, Nat.zero_le _⟩ dX0_annul_36 ?_
      refine xa_st (i := a) (x := (x_least (an1 S a) a)) (ws' := wX A K (an2 S a (x_least (an1 S a) a))) hx hb hK hP hD hS 4 3 rfl rfl (by omega) (by decide) (rfl) rfl dX0_annul_39 (fun H locs hP hD hS => ?_)
      refine lv_aload_n hx hb dX0_annul_40 rfl (lv_at hl 0 rfl) ?_
      refine va_get (D := D) (ci := 0) (v := .ref (A 3)) (C := RX0) (T := TX0) (N := 9) hx hb hts hin hown hK hP 0 rfl rfl 2 (by decide) f_16 (fun _ h9 => h9) rfl dX0_annul_41 ?_
      refine lv_iload_n hx hb dX0_annul_44 rfl (lv_at hl 1 rfl) ?_
      refine xa_ld (i := a) (v := (nI (s_tr S a - 1))) hx hb hK hP 3 2 rfl rfl (by omega) (by decide) (congrArg nI (upN_s _ _ _)) dX0_annul_45 ?_
      exact W.iret (v := (nI (s_tr S a - 1))) hx hb hr (fun t ht hW => ⟨⟨(nI (s_tr S a - 1)), an2 S a (x_least (an1 S a) a), rfl, by simp [x_annul, an2, an1, upN_s, c1, ea, c2], by rw [ht]; exact hP, va_K.moved hW.alike hK, hD⟩, hS.F ht⟩) hS.2.2 dX0_annul_46
    · refine lv_iconst (v := (-1)) hx hb dX0_annul_17 (by decide) ?_
      exact W.iret (v := (-1)) hx hb hr (fun t ht hW => ⟨⟨(-1), S, rfl, by simp [x_annul, an2, an1, upN_s, c1, ea, c2], by rw [ht]; exact hP, va_K.moved hW.alike hK, hD⟩, hS.F ht⟩) hS.2.2 dX0_annul_18
set_option maxHeartbeats 4000000 in
set_option maxRecDepth 100000 in
theorem c_X0_ask (l : Launch) (D : va_G) (A : Nat → Nat) (K : Nat → ClassId) (S : XS) (hI : x_inv S) (sz : Nat) (w : Int32) (sg : Int32) (hw : Int32) (v : Int32) (z : Int32) : Met l yX0_ask wsX0_ask (rmD 4) (va_Pc [.ref (A 0), .int w, .int sg, .int hw, .int v, .int z] (Pw D (wX A K S) (tX K) sz)) (va_Qi (fun r u => (r, u) = x_ask S w sg hw v z) (Bw D (wX A K) (tX K) (va_A (wX A K S) sz)) (va_A (wX A K S) sz)) 0 0 (va_A (wX A K S) sz) := by
  refine Met.ofW (cc := cX0_ask) (maxL := 7) (ret := some .int) (by decide) rfl ?_
  intro p e s m args below meth c s₁ B hml hv
  obtain ⟨rfl, hsz, hP, hK, hD0⟩ := hv
  have hx := B.exec
  have hb := B.bytes
  have hr := B.returns
  have hts := atoms_spec (ws := wsX0_ask) B.pre
  have hown : s.vm.findClass RX0 = some m.cls := findClass_of_methodNamed B.named
  have hlocks := B.notSynchronized
  have hn8 := hI.1
  have hin : ∀ w ∈ u_ws RX0 TX0 9, w ∈ wsX0_ask := fun w h => List.mem_cons_of_mem _ (List.mem_append_right _ h)
  have f_22 := hts (.fieldLink RX0 22 "ChronoTrials" "seals" "[Z") (by decide +kernel)
  subst hsz
  have hD := hD0.self (sz := s.heap.size)
  generalize hAe : va_A (wX A K S) s.heap.size = A9 at hD ⊢
  have hS : va_S A9 s.heap s.heap [] := va_S.rf
  have hl := lv_entry ([.ref (A 0), .int w, .int sg, .int hw, .int v, .int z]) (n := 7) (Nat.le_of_ble_eq_true rfl)
  rw [lg_entry_eq]
  generalize (lg_sl ([.ref (A 0), .int w, .int sg, .int hw, .int v, .int z]) ++ List.replicate (7 - (lg_sl ([.ref (A 0), .int w, .int sg, .int hw, .int v, .int z])).length) Slot.unset).toArray = ls at hl ⊢
  have hl : lv_has ls 7 [(0, .ref (A 0)), (1, .int w), (2, .int sg), (3, .int hw), (4, .int v), (5, .int z)] := hl
  refine lv_iload_n hx hb dX0_ask_0 rfl (lv_at hl 1 rfl) ?_
  refine lv_iconst (v := 0) hx hb dX0_ask_1 (by decide) ?_
  refine lv_iconst (v := 1) hx hb dX0_ask_2 (by decide) ?_
  refine rc_S (v := (zi (h_in w 0 1))) ⟨hx, hb, hml, hown, hts⟩ [.int w, .int 0, .int 1] [] (c_X0_isWithin l w 0 1) (va_cwS 3 hts gX0_ask_X0_isWithin rfl rfl rfl (by decide +kernel) ⟨Nat.le_of_ble_eq_true rfl, Nat.le_of_ble_eq_true rfl⟩) rfl hl.1 rfl (Nat.le_of_ble_eq_true rfl) ⟨Nat.zero_le _, Nat.zero_le _⟩ dX0_ask_3 ?_
  refine xz_eq (b := (h_in w 0 1)) (tgt := 18) hx hb dX0_ask_6 (by decide) (fun c1 => ?_) (fun c1 => ?_)
  · refine lv_iconst (v := (-1)) hx hb dX0_ask_18 (by decide) ?_
    exact W.iret (v := (-1)) hx hb hr (fun t ht hW => ⟨⟨(-1), S, rfl, by simp [x_ask, askN, a_sl, hi_0, hi_1, hi_2, hi_3, hi_4, c1], by rw [ht]; exact hP, va_K.moved hW.alike hK, hD⟩, hS.F ht⟩) hS.2.2 dX0_ask_19
  · refine lv_iload_n hx hb dX0_ask_9 rfl (lv_at hl 2 rfl) ?_
    refine lv_iconst (v := 0) hx hb dX0_ask_10 (by decide) ?_
    refine lv_iconst (v := 5) hx hb dX0_ask_11 (by decide) ?_
    refine rc_S (v := (zi (h_in sg 0 5))) ⟨hx, hb, hml, hown, hts⟩ [.int sg, .int 0, .int 5] [] (c_X0_isWithin l sg 0 5) (va_cwS 3 hts gX0_ask_X0_isWithin rfl rfl rfl (by decide +kernel) ⟨Nat.le_of_ble_eq_true rfl, Nat.le_of_ble_eq_true rfl⟩) rfl hl.1 rfl (Nat.le_of_ble_eq_true rfl) ⟨Nat.zero_le _, Nat.zero_le _⟩ dX0_ask_12 ?_
    refine xz_ne (b := (h_in sg 0 5)) (tgt := 20) hx hb dX0_ask_15 (by decide) (fun c2 => ?_) (fun c2 => ?_)
    · refine lv_iload_n hx hb dX0_ask_20 rfl (lv_at hl 3 rfl) ?_
      refine lv_iconst (v := 0) hx hb dX0_ask_21 (by decide) ?_
      refine lv_iconst (v := 5) hx hb dX0_ask_22 (by decide) ?_
      refine rc_S (v := (zi (h_in hw 0 5))) ⟨hx, hb, hml, hown, hts⟩ [.int hw, .int 0, .int 5] [] (c_X0_isWithin l hw 0 5) (va_cwS 3 hts gX0_ask_X0_isWithin rfl rfl rfl (by decide +kernel) ⟨Nat.le_of_ble_eq_true rfl, Nat.le_of_ble_eq_true rfl⟩) rfl hl.1 rfl (Nat.le_of_ble_eq_true rfl) ⟨Nat.zero_le _, Nat.zero_le _⟩ dX0_ask_23 ?_
      refine xz_eq (b := (h_in hw 0 5)) (tgt := 47) hx hb dX0_ask_26 (by decide) (fun c3 => ?_) (fun c3 => ?_)
      · refine lv_iconst (v := (-1)) hx hb dX0_ask_47 (by decide) ?_
        exact W.iret (v := (-1)) hx hb hr (fun t ht hW => ⟨⟨(-1), S, rfl, by simp [x_ask, askN, a_sl, hi_0, hi_1, hi_2, hi_3, hi_4, c1, c2, c3], by rw [ht]; exact hP, va_K.moved hW.alike hK, hD⟩, hS.F ht⟩) hS.2.2 dX0_ask_48
      · refine lv_aload_n hx hb dX0_ask_29 rfl (lv_at hl 0 rfl) ?_
        refine lv_iload hx hb dX0_ask_30 (lv_at hl 4 rfl) ?_
        refine rc_V (v := (zi (isClk S v))) ⟨hx, hb, hml, hown, hts⟩ [.int v] [] (c_X0_isClock l D A K S hI v) (cwV 1 hts gX0_ask_X0_isClock rfl rfl rfl (by decide +kernel) ⟨Nat.le_of_ble_eq_true rfl, Nat.le_of_ble_eq_true rfl⟩) hK hP (va_recv hK hP (ci := 0) (q0 := 0) rfl rfl) rfl hl.1 rfl (Nat.le_of_ble_eq_true rfl) ⟨Nat.zero_le _, Nat.zero_le _⟩ dX0_ask_32 ?_
        refine xz_eq (b := (isClk S v)) (tgt := 47) hx hb dX0_ask_35 (by decide) (fun c4 => ?_) (fun c4 => ?_)
        · refine lv_iconst (v := (-1)) hx hb dX0_ask_47 (by decide) ?_
          exact W.iret (v := (-1)) hx hb hr (fun t ht hW => ⟨⟨(-1), S, rfl, by simp [x_ask, askN, a_sl, hi_0, hi_1, hi_2, hi_3, hi_4, c1, c2, c3, c4], by rw [ht]; exact hP, va_K.moved hW.alike hK, hD⟩, hS.F ht⟩) hS.2.2 dX0_ask_48
        · obtain ⟨a, ha, rfl⟩ := isClk_ex c4 hn8
          have ea : (nI a).toNatClampNeg = a := nI_clamp (by omega)
          refine lv_aload_n hx hb dX0_ask_38 rfl (lv_at hl 0 rfl) ?_
          refine lv_iload hx hb dX0_ask_39 (lv_at hl 5 rfl) ?_
          refine rc_V (v := (zi (isClk S z))) ⟨hx, hb, hml, hown, hts⟩ [.int z] [] (c_X0_isClock l D A K S hI z) (cwV 1 hts gX0_ask_X0_isClock rfl rfl rfl (by decide +kernel) ⟨Nat.le_of_ble_eq_true rfl, Nat.le_of_ble_eq_true rfl⟩) hK hP (va_recv hK hP (ci := 0) (q0 := 0) rfl rfl) rfl hl.1 rfl (Nat.le_of_ble_eq_true rfl) ⟨Nat.zero_le _, Nat.zero_le _⟩ dX0_ask_41 ?_
          refine xz_ne (b := (isClk S z)) (tgt := 49) hx hb dX0_ask_44 (by decide) (fun c5 => ?_) (fun c5 => ?_)
          · obtain ⟨b, hb8, rfl⟩ := isClk_ex c5 hn8
            have eb : (nI b).toNatClampNeg = b := nI_clamp (by omega)
            refine lv_aload_n hx hb dX0_ask_49 rfl (lv_at hl 0 rfl) ?_
            refine lv_iload_n hx hb dX0_ask_50 rfl (lv_at hl 1 rfl) ?_
            refine lv_iload_n hx hb dX0_ask_51 rfl (lv_at hl 2 rfl) ?_
            refine lv_iload hx hb dX0_ask_52 (lv_at hl 4 rfl) ?_
            refine lv_iload hx hb dX0_ask_54 (lv_at hl 5 rfl) ?_
            refine rc_V (v := (zi (hc S w sg a b))) ⟨hx, hb, hml, hown, hts⟩ [.int w, .int sg, .int (nI a), .int (nI b)] [] (c_X0_holdsOfClocks l D A K S hI w sg a b (by omega) (by omega)) (cwV 4 hts gX0_ask_X0_holdsOfClocks rfl rfl rfl (by decide +kernel) ⟨Nat.le_of_ble_eq_true rfl, Nat.le_of_ble_eq_true rfl⟩) hK hP (va_recv hK hP (ci := 0) (q0 := 0) rfl rfl) rfl hl.1 rfl (Nat.le_of_ble_eq_true rfl) ⟨Nat.zero_le _, Nat.zero_le _⟩ dX0_ask_56 ?_
            refine lv_istore (lv' := [(6, .int (zi (hc S w sg a b))), (0, .ref (A 0)), (1, .int w), (2, .int sg), (3, .int hw), (4, .int (nI a)), (5, .int (nI b))]) hx hb dX0_ask_59 hl (by decide) rfl (fun ls hl => ?_)
            refine lv_iload_n hx hb dX0_ask_61 rfl (lv_at hl 4 rfl) ?_
            by_cases w6 : hw = 0
            · refine lv_tableIn (tgt := 96) hx hb dX0_ask_62 (by rw [w6]; decide) (by rw [w6]; decide) (by rw [w6]; rfl) (by decide) ?_
              refine lv_iload hx hb dX0_ask_96 (lv_at hl 0 rfl) ?_
              refine rc_S (v := (zi (hc S w sg a b))) ⟨hx, hb, hml, hown, hts⟩ [.int (zi (hc S w sg a b))] [] (c_X0_oneIf l (hc S w sg a b)) (va_cwS 1 hts gX0_ask_X0_oneIf rfl rfl rfl (by decide +kernel) ⟨Nat.le_of_ble_eq_true rfl, Nat.le_of_ble_eq_true rfl⟩) rfl hl.1 rfl (Nat.le_of_ble_eq_true rfl) ⟨Nat.zero_le _, Nat.zero_le _⟩ dX0_ask_98 ?_
              exact W.iret (v := (zi (hc S w sg a b))) hx hb hr (fun t ht hW => ⟨⟨(zi (hc S w sg a b)), S, rfl, by simp [x_ask, askN, a_sl, hi_0, hi_1, hi_2, hi_3, hi_4, c1, c2, c3, c4, ea, c5, eb, w6], by rw [ht]; exact hP, va_K.moved hW.alike hK, hD⟩, hS.F ht⟩) hS.2.2 dX0_ask_101
            by_cases w7 : hw = 1
            · refine lv_tableIn (tgt := 102) hx hb dX0_ask_62 (by rw [w7]; decide) (by rw [w7]; decide) (by rw [w7]; rfl) (by decide) ?_
              refine lv_iload hx hb dX0_ask_102 (lv_at hl 0 rfl) ?_
              refine xz_ne (b := (hc S w sg a b)) (tgt := 111) hx hb dX0_ask_104 (by decide) (fun c8 => ?_) (fun c8 => ?_)
              · refine lv_iconst (v := 0) hx hb dX0_ask_111 (by decide) ?_
                refine rc_S (v := (zi false)) ⟨hx, hb, hml, hown, hts⟩ [.int (zi false)] [] (c_X0_oneIf l false) (va_cwS 1 hts gX0_ask_X0_oneIf rfl rfl rfl (by decide +kernel) ⟨Nat.le_of_ble_eq_true rfl, Nat.le_of_ble_eq_true rfl⟩) rfl hl.1 rfl (Nat.le_of_ble_eq_true rfl) ⟨Nat.zero_le _, Nat.zero_le _⟩ dX0_ask_112 ?_
                exact W.iret (v := (zi false)) hx hb hr (fun t ht hW => ⟨⟨(zi false), S, rfl, by simp [x_ask, askN, a_sl, hi_0, hi_1, hi_2, hi_3, hi_4, c1, c2, c3, c4, ea, c5, eb, w6, w7, c8], by rw [ht]; exact hP, va_K.moved hW.alike hK, hD⟩, hS.F ht⟩) hS.2.2 dX0_ask_115
              · refine lv_iconst (v := 1) hx hb dX0_ask_107 (by decide) ?_
                refine lv_goto (tgt := 112) hx hb dX0_ask_108 (by decide) ?_
                refine rc_S (v := (zi true)) ⟨hx, hb, hml, hown, hts⟩ [.int (zi true)] [] (c_X0_oneIf l true) (va_cwS 1 hts gX0_ask_X0_oneIf rfl rfl rfl (by decide +kernel) ⟨Nat.le_of_ble_eq_true rfl, Nat.le_of_ble_eq_true rfl⟩) rfl hl.1 rfl (Nat.le_of_ble_eq_true rfl) ⟨Nat.zero_le _, Nat.zero_le _⟩ dX0_ask_112 ?_
                exact W.iret (v := (zi true)) hx hb hr (fun t ht hW => ⟨⟨(zi true), S, rfl, by simp [x_ask, askN, a_sl, hi_0, hi_1, hi_2, hi_3, hi_4, c1, c2, c3, c4, ea, c5, eb, w6, w7, c8], by rw [ht]; exact hP, va_K.moved hW.alike hK, hD⟩, hS.F ht⟩) hS.2.2 dX0_ask_115
            by_cases w9 : hw = 2
            · refine lv_tableIn (tgt := 116) hx hb dX0_ask_62 (by rw [w9]; decide) (by rw [w9]; decide) (by rw [w9]; rfl) (by decide) ?_
              refine lv_aload_n hx hb dX0_ask_116 rfl (lv_at hl 1 rfl) ?_
              refine lv_iload_n hx hb dX0_ask_117 rfl (lv_at hl 2 rfl) ?_
              refine lv_iload_n hx hb dX0_ask_118 rfl (lv_at hl 3 rfl) ?_
              refine lv_iload hx hb dX0_ask_119 (lv_at hl 5 rfl) ?_
              refine lv_iload hx hb dX0_ask_121 (lv_at hl 6 rfl) ?_
              refine rc_V (v := (nI (x_row S w sg a b - a))) ⟨hx, hb, hml, hown, hts⟩ [.int w, .int sg, .int (nI a), .int (nI b)] [] (c_X0_clocksInARow l D A K S hI w sg a b (by omega) (by omega)) (cwV 4 hts gX0_ask_X0_clocksInARow rfl rfl rfl (by decide +kernel) ⟨Nat.le_of_ble_eq_true rfl, Nat.le_of_ble_eq_true rfl⟩) hK hP (va_recv hK hP (ci := 0) (q0 := 0) rfl rfl) rfl hl.1 rfl (Nat.le_of_ble_eq_true rfl) ⟨Nat.zero_le _, Nat.zero_le _⟩ dX0_ask_123 ?_
              exact W.iret (v := (nI (x_row S w sg a b - a))) hx hb hr (fun t ht hW => ⟨⟨(nI (x_row S w sg a b - a)), S, rfl, by simp [x_ask, askN, a_sl, hi_0, hi_1, hi_2, hi_3, hi_4, c1, c2, c3, c4, ea, c5, eb, w6, w7, w9], by rw [ht]; exact hP, va_K.moved hW.alike hK, hD⟩, hS.F ht⟩) hS.2.2 dX0_ask_126
            by_cases w10 : hw = 3
            · refine lv_tableIn (tgt := 127) hx hb dX0_ask_62 (by rw [w10]; decide) (by rw [w10]; decide) (by rw [w10]; rfl) (by decide) ?_
              refine lv_iload hx hb dX0_ask_127 (lv_at hl 0 rfl) ?_
              refine xz_eq (b := (hc S w sg a b)) (tgt := 137) hx hb dX0_ask_129 (by decide) (fun c11 => ?_) (fun c11 => ?_)
              · refine lv_iload hx hb dX0_ask_137 (lv_at hl 6 rfl) ?_
                exact W.iret (v := (nI b)) hx hb hr (fun t ht hW => ⟨⟨(nI b), S, rfl, by simp [x_ask, askN, a_sl, hi_0, hi_1, hi_2, hi_3, hi_4, c1, c2, c3, c4, ea, c5, eb, w6, w7, w9, w10, c11], by rw [ht]; exact hP, va_K.moved hW.alike hK, hD⟩, hS.F ht⟩) hS.2.2 dX0_ask_139
              · refine lv_iload hx hb dX0_ask_132 (lv_at hl 5 rfl) ?_
                refine lv_goto (tgt := 139) hx hb dX0_ask_134 (by decide) ?_
                exact W.iret (v := (nI a)) hx hb hr (fun t ht hW => ⟨⟨(nI a), S, rfl, by simp [x_ask, askN, a_sl, hi_0, hi_1, hi_2, hi_3, hi_4, c1, c2, c3, c4, ea, c5, eb, w6, w7, w9, w10, c11], by rw [ht]; exact hP, va_K.moved hW.alike hK, hD⟩, hS.F ht⟩) hS.2.2 dX0_ask_139
            by_cases w12 : hw = 4
            · refine lv_tableIn (tgt := 140) hx hb dX0_ask_62 (by rw [w12]; decide) (by rw [w12]; decide) (by rw [w12]; rfl) (by decide) ?_
              refine lv_aload_n hx hb dX0_ask_140 rfl (lv_at hl 1 rfl) ?_
              refine va_get (D := D) (ci := 0) (v := .ref (A 5)) (C := RX0) (T := TX0) (N := 9) hx hb hts hin hown hK hP 0 rfl rfl 4 (by decide) f_22 (fun _ h9 => h9) rfl dX0_ask_141 ?_
              refine lv_iload hx hb dX0_ask_144 (lv_at hl 5 rfl) ?_
              refine lv_iload hx hb dX0_ask_146 (lv_at hl 0 rfl) ?_
              refine xa_zst (i := a) (b := (hc S w sg a b)) (ws' := wX A K (a_sl S a (hc S w sg a b))) hx hb hK hP hD hS 5 4 rfl rfl (by omega) (by decide) (upB_e _ _ _) rfl dX0_ask_148 (fun H locs hP hD hS => ?_)
              have hI2 : x_inv (a_sl S a (hc S w sg a b)) := hI
              refine lv_aload_n hx hb dX0_ask_149 rfl (lv_at hl 1 rfl) ?_
              refine rc_V (v := (nI (cn (s_sl (a_sl S a (hc S w sg a b))) (s_n S)))) ⟨hx, hb, hml, hown, hts⟩ [] [] (c_X0_sealsOn l D A K (a_sl S a (hc S w sg a b)) hI2) (cwV 0 hts gX0_ask_X0_sealsOn rfl rfl rfl (by decide +kernel) ⟨Nat.le_of_ble_eq_true rfl, Nat.le_of_ble_eq_true rfl⟩) hK hP (va_recv hK hP (ci := 0) (q0 := 0) rfl rfl) rfl hl.1 rfl (Nat.le_of_ble_eq_true rfl) ⟨Nat.zero_le _, Nat.zero_le _⟩ dX0_ask_150 ?_
              exact W.iret (v := (nI (cn (s_sl (a_sl S a (hc S w sg a b))) (s_n S)))) hx hb hr (fun t ht hW => ⟨⟨(nI (cn (s_sl (a_sl S a (hc S w sg a b))) (s_n S))), a_sl S a (hc S w sg a b), rfl, by simp [x_ask, askN, a_sl, hi_0, hi_1, hi_2, hi_3, hi_4, c1, c2, c3, c4, ea, c5, eb, w6, w7, w9, w10, w12], by rw [ht]; exact hP, va_K.moved hW.alike hK, hD⟩, hS.F ht⟩) hS.2.2 dX0_ask_153
            refine lv_tableOut (tgt := 154) hx hb dX0_ask_62 (by have tw6 := lv_neT (a := 0) w6 rfl; have tw7 := lv_neT (a := 1) w7 rfl; have tw9 := lv_neT (a := 2) w9 rfl; have tw10 := lv_neT (a := 3) w10 rfl; have tw12 := lv_neT (a := 4) w12 rfl; omega) (by decide) ?_
            refine lv_iload hx hb dX0_ask_154 (lv_at hl 0 rfl) ?_
            refine lv_aload_n hx hb dX0_ask_156 rfl (lv_at hl 1 rfl) ?_
            refine lv_iload_n hx hb dX0_ask_157 rfl (lv_at hl 2 rfl) ?_
            refine lv_iload_n hx hb dX0_ask_158 rfl (lv_at hl 3 rfl) ?_
            refine lv_iload hx hb dX0_ask_159 (lv_at hl 6 rfl) ?_
            refine lv_iload hx hb dX0_ask_161 (lv_at hl 5 rfl) ?_
            refine rc_V (v := (zi (hc S w sg b a))) ⟨hx, hb, hml, hown, hts⟩ [.int w, .int sg, .int (nI b), .int (nI a)] [.int (zi (hc S w sg a b))] (c_X0_holdsOfClocks l D A K S hI w sg b a (by omega) (by omega)) (cwV 4 hts gX0_ask_X0_holdsOfClocks rfl rfl rfl (by decide +kernel) ⟨Nat.le_of_ble_eq_true rfl, Nat.le_of_ble_eq_true rfl⟩) hK hP (va_recv hK hP (ci := 0) (q0 := 0) rfl rfl) rfl hl.1 rfl (Nat.le_of_ble_eq_true rfl) ⟨Nat.zero_le _, Nat.zero_le _⟩ dX0_ask_163 ?_
            refine rc_S (v := (both (hc S w sg a b) (hc S w sg b a))) ⟨hx, hb, hml, hown, hts⟩ [.int (zi (hc S w sg a b)), .int (zi (hc S w sg b a))] [] (c_X0_bothWays l (hc S w sg a b) (hc S w sg b a)) (va_cwS 2 hts gX0_ask_X0_bothWays rfl rfl rfl (by decide +kernel) ⟨Nat.le_of_ble_eq_true rfl, Nat.le_of_ble_eq_true rfl⟩) rfl hl.1 rfl (Nat.le_of_ble_eq_true rfl) ⟨Nat.zero_le _, Nat.zero_le _⟩ dX0_ask_166 ?_
            exact W.iret (v := (both (hc S w sg a b) (hc S w sg b a))) hx hb hr (fun t ht hW => ⟨⟨(both (hc S w sg a b) (hc S w sg b a)), S, rfl, by simp [x_ask, askN, a_sl, hi_0, hi_1, hi_2, hi_3, hi_4, c1, c2, c3, c4, ea, c5, eb, w6, w7, w9, w10, w12], by rw [ht]; exact hP, va_K.moved hW.alike hK, hD⟩, hS.F ht⟩) hS.2.2 dX0_ask_169
          · refine lv_iconst (v := (-1)) hx hb dX0_ask_47 (by decide) ?_
            exact W.iret (v := (-1)) hx hb hr (fun t ht hW => ⟨⟨(-1), S, rfl, by simp [x_ask, askN, a_sl, hi_0, hi_1, hi_2, hi_3, hi_4, c1, c2, c3, c4, ea, c5], by rw [ht]; exact hP, va_K.moved hW.alike hK, hD⟩, hS.F ht⟩) hS.2.2 dX0_ask_48
    · refine lv_iconst (v := (-1)) hx hb dX0_ask_18 (by decide) ?_
      exact W.iret (v := (-1)) hx hb hr (fun t ht hW => ⟨⟨(-1), S, rfl, by simp [x_ask, askN, a_sl, hi_0, hi_1, hi_2, hi_3, hi_4, c1, c2], by rw [ht]; exact hP, va_K.moved hW.alike hK, hD⟩, hS.F ht⟩) hS.2.2 dX0_ask_19
