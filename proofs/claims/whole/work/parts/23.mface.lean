set_option maxHeartbeats 4000000 in
set_option maxRecDepth 100000 in
theorem c_X1_tell (l : Launch) (D : va_G) (A : Nat → Nat) (K : Nat → ClassId) (S : XS) (hI : x_inv S) (v : Int32) (w : Int32) : Met l yX1_tell wsX1_tell (rmD 3) (va_Pc [.ref (A 0), .int v, .int w] (i_w D vwCl (wM A K S) (tM K))) (vp_Si (fun r => r = (m_tell S v w))) 0 0 (fun _ => False) := by
  refine Met.ofW (cc := cX1_tell) (maxL := 3) (ret := some .int) (by decide) rfl ?_
  intro p e s m args below meth c s₁ B hml hv
  obtain ⟨rfl, hP, hK⟩ := hv
  have hx := B.exec
  have hb := B.bytes
  have hr := B.returns
  have hts := atoms_spec (ws := wsX1_tell) B.pre
  have hown : s.vm.findClass RX1 = some m.cls := findClass_of_methodNamed B.named
  have hlocks := B.notSynchronized
  have hn8 := hI.1
  have hin : ∀ w ∈ u_ws RX1 TX1 9, w ∈ wsX1_tell := fun w h => List.mem_cons_of_mem _ (List.mem_append_right _ h)
  have f_19 := hts (.fieldLink RX1 19 "ChronoTrialsModel" "many" "[I") (by decide +kernel)
  have f_23 := hts (.fieldLink RX1 23 "ChronoTrialsModel" "best" "[I") (by decide +kernel)
  have f_26 := hts (.fieldLink RX1 26 "ChronoTrialsModel" "seal" "[I") (by decide +kernel)
  have hl := lv_entry ([.ref (A 0), .int v, .int w]) (n := 3) (Nat.le_of_ble_eq_true rfl)
  rw [lg_entry_eq]
  generalize (lg_sl ([.ref (A 0), .int v, .int w]) ++ List.replicate (3 - (lg_sl ([.ref (A 0), .int v, .int w])).length) Slot.unset).toArray = ls at hl ⊢
  have hl : lv_has ls 3 [(0, .ref (A 0)), (1, .int v), (2, .int w)] := hl
  refine lv_aload_n hx hb dX1_tell_0 rfl (lv_at hl 0 rfl) ?_
  refine lv_iload_n hx hb dX1_tell_1 rfl (lv_at hl 1 rfl) ?_
  refine rc_V (v := (zi (isClk S v))) ⟨hx, hb, hml, hown, hts⟩ [.int v] [] (c_X1_isClock l D A K S hI v) (cwV 1 hts gX1_tell_X1_isClock rfl rfl rfl (by decide +kernel) ⟨Nat.le_of_ble_eq_true rfl, Nat.le_of_ble_eq_true rfl⟩) hK hP (va_recv hK hP (ci := 1) (q0 := 0) rfl rfl) rfl hl.1 rfl (Nat.le_of_ble_eq_true rfl) ⟨Nat.zero_le _, Nat.zero_le _⟩ dX1_tell_2 ?_
  refine xz_ne (b := (isClk S v)) (tgt := 10) hx hb dX1_tell_5 (by decide) (fun c1 => ?_) (fun c1 => ?_)
  · obtain ⟨a, ha, rfl⟩ := isClk_ex c1 hn8
    have ea : (nI a).toNatClampNeg = a := nI_clamp (by omega)
    have ht6 := hI.2 a
    refine lv_iload_n hx hb dX1_tell_10 rfl (lv_at hl 2 rfl) ?_
    by_cases w2 : w = 0
    · refine lv_tableIn (tgt := 52) hx hb dX1_tell_11 (by rw [w2]; decide) (by rw [w2]; decide) (by rw [w2]; rfl) (by decide) ?_
      refine lv_aload_n hx hb dX1_tell_52 rfl (lv_at hl 0 rfl) ?_
      refine va_get (D := D) (ci := 1) (v := .ref (A 1)) (C := RX1) (T := TX1) (N := 9) hx hb hts hin hown hK hP 0 rfl rfl 4 (by decide) f_19 (fun _ h9 => h9) rfl dX1_tell_53 ?_
      refine lv_iload_n hx hb dX1_tell_56 rfl (lv_at hl 1 rfl) ?_
      refine xa_ld (i := a) (v := (nI ((s_tr S) a))) hx hb hK hP 1 0 rfl rfl (by omega) (by decide) (rfl) dX1_tell_57 ?_
      exact W.iret (v := (nI ((s_tr S) a))) hx hb hr (fun t ht hW => ⟨_, rfl, by simp [m_tell, tl, c1, ea, w2], ht⟩) (fun q h => by cases h) dX1_tell_58
    by_cases w3 : w = 1
    · refine lv_tableIn (tgt := 59) hx hb dX1_tell_11 (by rw [w3]; decide) (by rw [w3]; decide) (by rw [w3]; rfl) (by decide) ?_
      refine lv_aload_n hx hb dX1_tell_59 rfl (lv_at hl 0 rfl) ?_
      refine va_get (D := D) (ci := 1) (v := .ref (A 2)) (C := RX1) (T := TX1) (N := 9) hx hb hts hin hown hK hP 0 rfl rfl 5 (by decide) f_23 (fun _ h9 => h9) rfl dX1_tell_60 ?_
      refine lv_iload_n hx hb dX1_tell_63 rfl (lv_at hl 1 rfl) ?_
      refine xa_ld (i := a) (v := ((s_bs S) a)) hx hb hK hP 2 1 rfl rfl (by omega) (by decide) (rfl) dX1_tell_64 ?_
      exact W.iret (v := ((s_bs S) a)) hx hb hr (fun t ht hW => ⟨_, rfl, by simp [m_tell, tl, c1, ea, w2, w3], ht⟩) (fun q h => by cases h) dX1_tell_65
    by_cases w4 : w = 2
    · refine lv_tableIn (tgt := 66) hx hb dX1_tell_11 (by rw [w4]; decide) (by rw [w4]; decide) (by rw [w4]; rfl) (by decide) ?_
      refine lv_aload_n hx hb dX1_tell_66 rfl (lv_at hl 0 rfl) ?_
      refine lv_iload_n hx hb dX1_tell_67 rfl (lv_at hl 1 rfl) ?_
      refine rc_V (v := (nI (m_rank S a))) ⟨hx, hb, hml, hown, hts⟩ [.int (nI a)] [] (c_X1_rank l D A K S hI a (by omega)) (cwV 1 hts gX1_tell_X1_rank rfl rfl rfl (by decide +kernel) ⟨Nat.le_of_ble_eq_true rfl, Nat.le_of_ble_eq_true rfl⟩) hK hP (va_recv hK hP (ci := 1) (q0 := 0) rfl rfl) rfl hl.1 rfl (Nat.le_of_ble_eq_true rfl) ⟨Nat.zero_le _, Nat.zero_le _⟩ dX1_tell_68 ?_
      exact W.iret (v := (nI (m_rank S a))) hx hb hr (fun t ht hW => ⟨_, rfl, by simp [m_tell, tl, c1, ea, w2, w3, w4], ht⟩) (fun q h => by cases h) dX1_tell_71
    by_cases w5 : w = 3
    · refine lv_tableIn (tgt := 72) hx hb dX1_tell_11 (by rw [w5]; decide) (by rw [w5]; decide) (by rw [w5]; rfl) (by decide) ?_
      refine lv_aload_n hx hb dX1_tell_72 rfl (lv_at hl 0 rfl) ?_
      refine va_get (D := D) (ci := 1) (v := .ref (A 3)) (C := RX1) (T := TX1) (N := 9) hx hb hts hin hown hK hP 0 rfl rfl 6 (by decide) f_26 (fun _ h9 => h9) rfl dX1_tell_73 ?_
      refine lv_iload_n hx hb dX1_tell_76 rfl (lv_at hl 1 rfl) ?_
      refine xa_ld (i := a) (v := (zi ((s_sl S) a))) hx hb hK hP 3 2 rfl rfl (by omega) (by decide) (rfl) dX1_tell_77 ?_
      exact W.iret (v := (zi ((s_sl S) a))) hx hb hr (fun t ht hW => ⟨_, rfl, by simp [m_tell, tl, c1, ea, w2, w3, w4, w5], ht⟩) (fun q h => by cases h) dX1_tell_78
    by_cases w6 : w = 4
    · refine lv_tableIn (tgt := 79) hx hb dX1_tell_11 (by rw [w6]; decide) (by rw [w6]; decide) (by rw [w6]; rfl) (by decide) ?_
      refine lv_aload_n hx hb dX1_tell_79 rfl (lv_at hl 0 rfl) ?_
      refine lv_iload_n hx hb dX1_tell_80 rfl (lv_at hl 1 rfl) ?_
      refine rc_V (v := (nI (x_cold S a))) ⟨hx, hb, hml, hown, hts⟩ [.int (nI a)] [] (c_X1_cold l D A K S hI a (by omega)) (cwV 1 hts gX1_tell_X1_cold rfl rfl rfl (by decide +kernel) ⟨Nat.le_of_ble_eq_true rfl, Nat.le_of_ble_eq_true rfl⟩) hK hP (va_recv hK hP (ci := 1) (q0 := 0) rfl rfl) rfl hl.1 rfl (Nat.le_of_ble_eq_true rfl) ⟨Nat.zero_le _, Nat.zero_le _⟩ dX1_tell_81 ?_
      exact W.iret (v := (nI (x_cold S a))) hx hb hr (fun t ht hW => ⟨_, rfl, by simp [m_tell, tl, c1, ea, w2, w3, w4, w5, w6], ht⟩) (fun q h => by cases h) dX1_tell_84
    by_cases w7 : w = 5
    · refine lv_tableIn (tgt := 85) hx hb dX1_tell_11 (by rw [w7]; decide) (by rw [w7]; decide) (by rw [w7]; rfl) (by decide) ?_
      refine lv_aload_n hx hb dX1_tell_85 rfl (lv_at hl 0 rfl) ?_
      refine lv_iload_n hx hb dX1_tell_86 rfl (lv_at hl 1 rfl) ?_
      refine rc_V (v := (nI (x_more S a))) ⟨hx, hb, hml, hown, hts⟩ [.int (nI a)] [] (c_X1_more l D A K S hI a (by omega)) (cwV 1 hts gX1_tell_X1_more rfl rfl rfl (by decide +kernel) ⟨Nat.le_of_ble_eq_true rfl, Nat.le_of_ble_eq_true rfl⟩) hK hP (va_recv hK hP (ci := 1) (q0 := 0) rfl rfl) rfl hl.1 rfl (Nat.le_of_ble_eq_true rfl) ⟨Nat.zero_le _, Nat.zero_le _⟩ dX1_tell_87 ?_
      exact W.iret (v := (nI (x_more S a))) hx hb hr (fun t ht hW => ⟨_, rfl, by simp [m_tell, tl, c1, ea, w2, w3, w4, w5, w6, w7], ht⟩) (fun q h => by cases h) dX1_tell_90
    by_cases w8 : w = 6
    · refine lv_tableIn (tgt := 91) hx hb dX1_tell_11 (by rw [w8]; decide) (by rw [w8]; decide) (by rw [w8]; rfl) (by decide) ?_
      refine lv_aload_n hx hb dX1_tell_91 rfl (lv_at hl 0 rfl) ?_
      refine lv_iload_n hx hb dX1_tell_92 rfl (lv_at hl 1 rfl) ?_
      refine rc_V (v := (lc S a)) ⟨hx, hb, hml, hown, hts⟩ [.int (nI a)] [] (c_X1_chill l D A K S hI a (by omega)) (cwV 1 hts gX1_tell_X1_chill rfl rfl rfl (by decide +kernel) ⟨Nat.le_of_ble_eq_true rfl, Nat.le_of_ble_eq_true rfl⟩) hK hP (va_recv hK hP (ci := 1) (q0 := 0) rfl rfl) rfl hl.1 rfl (Nat.le_of_ble_eq_true rfl) ⟨Nat.zero_le _, Nat.zero_le _⟩ dX1_tell_93 ?_
      exact W.iret (v := (lc S a)) hx hb hr (fun t ht hW => ⟨_, rfl, by simp [m_tell, tl, c1, ea, w2, w3, w4, w5, w6, w7, w8], ht⟩) (fun q h => by cases h) dX1_tell_96
    refine lv_tableOut (tgt := 97) hx hb dX1_tell_11 (by have tw2 := lv_neT (a := 0) w2 rfl; have tw3 := lv_neT (a := 1) w3 rfl; have tw4 := lv_neT (a := 2) w4 rfl; have tw5 := lv_neT (a := 3) w5 rfl; have tw6 := lv_neT (a := 4) w6 rfl; have tw7 := lv_neT (a := 5) w7 rfl; have tw8 := lv_neT (a := 6) w8 rfl; omega) (by decide) ?_
    refine lv_iconst (v := (-1)) hx hb dX1_tell_97 (by decide) ?_
    exact W.iret (v := (-1)) hx hb hr (fun t ht hW => ⟨_, rfl, by simp [m_tell, tl, c1, ea, w2, w3, w4, w5, w6, w7, w8], ht⟩) (fun q h => by cases h) dX1_tell_98
  · refine lv_iconst (v := (-1)) hx hb dX1_tell_8 (by decide) ?_
    exact W.iret (v := (-1)) hx hb hr (fun t ht hW => ⟨_, rfl, by simp [m_tell, tl, c1], ht⟩) (fun q h => by cases h) dX1_tell_9
set_option maxHeartbeats 4000000 in
set_option maxRecDepth 100000 in
theorem c_X1_count (l : Launch) (D : va_G) (A : Nat → Nat) (K : Nat → ClassId) (S : XS) (hI : x_inv S) (w : Int32) : Met l yX1_count wsX1_count (rmD 6) (va_Pc [.ref (A 0), .int w] (i_w D vwCl (wM A K S) (tM K))) (vp_Si (fun r => r = (ct (m_first S) S w))) 0 0 (fun _ => False) := by
  refine Met.ofW (cc := cX1_count) (maxL := 2) (ret := some .int) (by decide) rfl ?_
  intro p e s m args below meth c s₁ B hml hv
  obtain ⟨rfl, hP, hK⟩ := hv
  have hx := B.exec
  have hb := B.bytes
  have hr := B.returns
  have hts := atoms_spec (ws := wsX1_count) B.pre
  have hown : s.vm.findClass RX1 = some m.cls := findClass_of_methodNamed B.named
  have hlocks := B.notSynchronized
  have hn8 := hI.1
  have hin : ∀ w ∈ u_ws RX1 TX1 9, w ∈ wsX1_count := fun w h => List.mem_cons_of_mem _ (List.mem_append_right _ h)
  have f_9 := hts (.fieldLink RX1 9 "ChronoTrialsModel" "prize" "I") (by decide +kernel)
  have f_13 := hts (.fieldLink RX1 13 "ChronoTrialsModel" "frost" "I") (by decide +kernel)
  have f_16 := hts (.fieldLink RX1 16 "ChronoTrialsModel" "record" "I") (by decide +kernel)
  have f_35 := hts (.fieldLink RX1 35 "ChronoTrialsModel" "clocks" "I") (by decide +kernel)
  have hl := lv_entry ([.ref (A 0), .int w]) (n := 2) (Nat.le_of_ble_eq_true rfl)
  rw [lg_entry_eq]
  generalize (lg_sl ([.ref (A 0), .int w]) ++ List.replicate (2 - (lg_sl ([.ref (A 0), .int w])).length) Slot.unset).toArray = ls at hl ⊢
  have hl : lv_has ls 2 [(0, .ref (A 0)), (1, .int w)] := hl
  refine lv_iload_n hx hb dX1_count_0 rfl (lv_at hl 1 rfl) ?_
  by_cases w1 : w = 0
  · refine lv_tableIn (tgt := 44) hx hb dX1_count_1 (by rw [w1]; decide) (by rw [w1]; decide) (by rw [w1]; rfl) (by decide) ?_
    refine lv_aload_n hx hb dX1_count_44 rfl (lv_at hl 0 rfl) ?_
    refine va_get (D := D) (ci := 1) (v := .int (nI (s_n S))) (C := RX1) (T := TX1) (N := 9) hx hb hts hin hown hK hP 0 rfl rfl 0 (by decide) f_35 (fun _ h9 => h9) rfl dX1_count_45 ?_
    exact W.iret (v := (nI (s_n S))) hx hb hr (fun t ht hW => ⟨_, rfl, by simp [ct, w1], ht⟩) (fun q h => by cases h) dX1_count_48
  by_cases w2 : w = 1
  · refine lv_tableIn (tgt := 49) hx hb dX1_count_1 (by rw [w2]; decide) (by rw [w2]; decide) (by rw [w2]; rfl) (by decide) ?_
    refine lv_aload_n hx hb dX1_count_49 rfl (lv_at hl 0 rfl) ?_
    refine va_get (D := D) (ci := 1) (v := .int (s_rc S)) (C := RX1) (T := TX1) (N := 9) hx hb hts hin hown hK hP 0 rfl rfl 3 (by decide) f_16 (fun _ h9 => h9) rfl dX1_count_50 ?_
    exact W.iret (v := (s_rc S)) hx hb hr (fun t ht hW => ⟨_, rfl, by simp [ct, w1, w2], ht⟩) (fun q h => by cases h) dX1_count_53
  by_cases w3 : w = 2
  · refine lv_tableIn (tgt := 54) hx hb dX1_count_1 (by rw [w3]; decide) (by rw [w3]; decide) (by rw [w3]; rfl) (by decide) ?_
    refine lv_aload_n hx hb dX1_count_54 rfl (lv_at hl 0 rfl) ?_
    refine va_get (D := D) (ci := 1) (v := .int (s_pz S)) (C := RX1) (T := TX1) (N := 9) hx hb hts hin hown hK hP 0 rfl rfl 1 (by decide) f_9 (fun _ h9 => h9) rfl dX1_count_55 ?_
    exact W.iret (v := (s_pz S)) hx hb hr (fun t ht hW => ⟨_, rfl, by simp [ct, w1, w2, w3], ht⟩) (fun q h => by cases h) dX1_count_58
  by_cases w4 : w = 3
  · refine lv_tableIn (tgt := 59) hx hb dX1_count_1 (by rw [w4]; decide) (by rw [w4]; decide) (by rw [w4]; rfl) (by decide) ?_
    refine lv_aload_n hx hb dX1_count_59 rfl (lv_at hl 0 rfl) ?_
    refine va_get (D := D) (ci := 1) (v := .int (s_fr S)) (C := RX1) (T := TX1) (N := 9) hx hb hts hin hown hK hP 0 rfl rfl 2 (by decide) f_13 (fun _ h9 => h9) rfl dX1_count_60 ?_
    exact W.iret (v := (s_fr S)) hx hb hr (fun t ht hW => ⟨_, rfl, by simp [ct, w1, w2, w3, w4], ht⟩) (fun q h => by cases h) dX1_count_63
  by_cases w5 : w = 4
  · refine lv_tableIn (tgt := 64) hx hb dX1_count_1 (by rw [w5]; decide) (by rw [w5]; decide) (by rw [w5]; rfl) (by decide) ?_
    refine lv_aload_n hx hb dX1_count_64 rfl (lv_at hl 0 rfl) ?_
    refine rc_V (v := (nI (sm (s_tr S) (s_n S)))) ⟨hx, hb, hml, hown, hts⟩ [] [] (c_X1_trials l D A K S hI) (cwV 0 hts gX1_count_X1_trials rfl rfl rfl (by decide +kernel) ⟨Nat.le_of_ble_eq_true rfl, Nat.le_of_ble_eq_true rfl⟩) hK hP (va_recv hK hP (ci := 1) (q0 := 0) rfl rfl) rfl hl.1 rfl (Nat.le_of_ble_eq_true rfl) ⟨Nat.zero_le _, Nat.zero_le _⟩ dX1_count_65 ?_
    exact W.iret (v := (nI (sm (s_tr S) (s_n S)))) hx hb hr (fun t ht hW => ⟨_, rfl, by simp [ct, w1, w2, w3, w4, w5], ht⟩) (fun q h => by cases h) dX1_count_68
  by_cases w6 : w = 5
  · refine lv_tableIn (tgt := 69) hx hb dX1_count_1 (by rw [w6]; decide) (by rw [w6]; decide) (by rw [w6]; rfl) (by decide) ?_
    refine lv_aload_n hx hb dX1_count_69 rfl (lv_at hl 0 rfl) ?_
    refine rc_V (v := (nI (cn (s_sl S) (s_n S)))) ⟨hx, hb, hml, hown, hts⟩ [] [] (c_X1_seals l D A K S hI) (cwV 0 hts gX1_count_X1_seals rfl rfl rfl (by decide +kernel) ⟨Nat.le_of_ble_eq_true rfl, Nat.le_of_ble_eq_true rfl⟩) hK hP (va_recv hK hP (ci := 1) (q0 := 0) rfl rfl) rfl hl.1 rfl (Nat.le_of_ble_eq_true rfl) ⟨Nat.zero_le _, Nat.zero_le _⟩ dX1_count_70 ?_
    exact W.iret (v := (nI (cn (s_sl S) (s_n S)))) hx hb hr (fun t ht hW => ⟨_, rfl, by simp [ct, w1, w2, w3, w4, w5, w6], ht⟩) (fun q h => by cases h) dX1_count_73
  by_cases w7 : w = 6
  · refine lv_tableIn (tgt := 74) hx hb dX1_count_1 (by rw [w7]; decide) (by rw [w7]; decide) (by rw [w7]; rfl) (by decide) ?_
    refine lv_aload_n hx hb dX1_count_74 rfl (lv_at hl 0 rfl) ?_
    refine rc_V (v := (m_first S)) ⟨hx, hb, hml, hown, hts⟩ [] [] (c_X1_first l D A K S hI) (cwV 0 hts gX1_count_X1_first rfl rfl rfl (by decide +kernel) ⟨Nat.le_of_ble_eq_true rfl, Nat.le_of_ble_eq_true rfl⟩) hK hP (va_recv hK hP (ci := 1) (q0 := 0) rfl rfl) rfl hl.1 rfl (Nat.le_of_ble_eq_true rfl) ⟨Nat.zero_le _, Nat.zero_le _⟩ dX1_count_75 ?_
    exact W.iret (v := (m_first S)) hx hb hr (fun t ht hW => ⟨_, rfl, by simp [ct, w1, w2, w3, w4, w5, w6, w7], ht⟩) (fun q h => by cases h) dX1_count_78
  refine lv_tableOut (tgt := 79) hx hb dX1_count_1 (by have tw1 := lv_neT (a := 0) w1 rfl; have tw2 := lv_neT (a := 1) w2 rfl; have tw3 := lv_neT (a := 2) w3 rfl; have tw4 := lv_neT (a := 3) w4 rfl; have tw5 := lv_neT (a := 4) w5 rfl; have tw6 := lv_neT (a := 5) w6 rfl; have tw7 := lv_neT (a := 6) w7 rfl; omega) (by decide) ?_
  refine lv_iconst (v := (-1)) hx hb dX1_count_79 (by decide) ?_
  exact W.iret (v := (-1)) hx hb hr (fun t ht hW => ⟨_, rfl, by simp [ct, w1, w2, w3, w4, w5, w6, w7], ht⟩) (fun q h => by cases h) dX1_count_80
