set_option maxHeartbeats 4000000 in
set_option maxRecDepth 100000 in
theorem c_X0_place (l : Launch) (D : va_G) (A : Nat → Nat) (K : Nat → ClassId) (S : XS) (hI : x_inv S) (v : Int32) : Met l yX0_place wsX0_place (rmD 5) (va_Pc [.ref (A 0), .int v] (i_w D vwCl (wX A K S) (tX K))) (vp_Si (fun r => r = (x_place S v))) 0 0 (fun _ => False) := by
  refine Met.ofW (cc := cX0_place) (maxL := 3) (ret := some .int) (by decide) rfl ?_
  intro p e s m args below meth c s₁ B hml hv
  obtain ⟨rfl, hP, hK⟩ := hv
  have hx := B.exec
  have hb := B.bytes
  have hr := B.returns
  have hts := atoms_spec (ws := wsX0_place) B.pre
  have hown : s.vm.findClass RX0 = some m.cls := findClass_of_methodNamed B.named
  have hlocks := B.notSynchronized
  have hn8 := hI.1
  have hin : ∀ w ∈ u_ws RX0 TX0 9, w ∈ wsX0_place := fun w h => List.mem_cons_of_mem _ (List.mem_append_right _ h)
  have f_26 := hts (.fieldLink RX0 26 "ChronoTrials" "clocks" "I") (by decide +kernel)
  have hl := lv_entry ([.ref (A 0), .int v]) (n := 3) (Nat.le_of_ble_eq_true rfl)
  rw [lg_entry_eq]
  generalize (lg_sl ([.ref (A 0), .int v]) ++ List.replicate (3 - (lg_sl ([.ref (A 0), .int v])).length) Slot.unset).toArray = ls at hl ⊢
  have hl : lv_has ls 3 [(0, .ref (A 0)), (1, .int v)] := hl
  refine lv_iconst (v := 0) hx hb dX0_place_0 (by decide) ?_
  refine lv_istore_n (lv' := [(2, .int 0), (0, .ref (A 0)), (1, .int v)]) hx hb dX0_place_1 rfl hl (by decide) rfl (fun ls hl => ?_)
  have L2 : ∀ (m1 i1 : Nat), i1 + m1 = s_n S → x_place S v = ff (fun c => decide (nI (x_ahead S c) = v)) m1 i1 → ∀ (ls : Array Slot), lv_has ls 3 [(0, .ref (A 0)), (1, .int v), (2, .int (nI i1))] → W p l e (headSpec wsX0_place (rmD 5)).room s m ([.ref (A 0), .int v] : List Value).toArray below meth c s.heap [] 0 0 (MQ below (vp_Si (fun r => r = (x_place S v))) ([.ref (A 0), .int v] : List Value).toArray s 0 0 (fun _ => False)) (F0 m 2 ls []) := by
    intro m1
    induction m1 with
    | zero =>
      intro i1 hm1 hinv ls hl
      refine lv_iload_n hx hb dX0_place_2 rfl (lv_at hl 2 rfl) ?_
      refine lv_aload_n hx hb dX0_place_3 rfl (lv_at hl 0 rfl) ?_
      refine va_get (D := D) (ci := 0) (v := .int (nI (s_n S))) (C := RX0) (T := TX0) (N := 9) hx hb hts hin hown hK hP 0 rfl rfl 5 (by decide) f_26 (fun _ h9 => h9) rfl dX0_place_4 ?_
      refine xn_ge (i := i1) (j := (s_n S)) (tgt := 27) hx hb (by omega) (by omega) dX0_place_7 (by decide) (fun c1 => ?_) (fun c1 => ?_)
      · refine lv_iconst (v := (-1)) hx hb dX0_place_27 (by decide) ?_
        exact W.iret (v := (-1)) hx hb hr (fun t ht hW => ⟨_, rfl, by rw [hinv]; simp [ff, hinv, c1], ht⟩) (fun q h => by cases h) dX0_place_28
      · exfalso; omega
    | succ m1 ih =>
      intro i1 hm1 hinv ls hl
      refine lv_iload_n hx hb dX0_place_2 rfl (lv_at hl 2 rfl) ?_
      refine lv_aload_n hx hb dX0_place_3 rfl (lv_at hl 0 rfl) ?_
      refine va_get (D := D) (ci := 0) (v := .int (nI (s_n S))) (C := RX0) (T := TX0) (N := 9) hx hb hts hin hown hK hP 0 rfl rfl 5 (by decide) f_26 (fun _ h9 => h9) rfl dX0_place_4 ?_
      refine xn_ge (i := i1) (j := (s_n S)) (tgt := 27) hx hb (by omega) (by omega) dX0_place_7 (by decide) (fun c2 => ?_) (fun c2 => ?_)
      · exfalso; omega
      · refine lv_aload_n hx hb dX0_place_10 rfl (lv_at hl 0 rfl) ?_
        refine lv_iload_n hx hb dX0_place_11 rfl (lv_at hl 2 rfl) ?_
        refine rc_V (v := (nI (x_ahead S i1))) ⟨hx, hb, hml, hown, hts⟩ [.int (nI i1)] [] (c_X0_clocksAhead l D A K S hI i1 (by omega)) (cwV 1 hts gX0_place_X0_clocksAhead rfl rfl rfl (by decide +kernel) ⟨Nat.le_of_ble_eq_true rfl, Nat.le_of_ble_eq_true rfl⟩) hK hP (va_recv hK hP (ci := 0) (q0 := 0) rfl rfl) rfl hl.1 rfl (Nat.le_of_ble_eq_true rfl) ⟨Nat.zero_le _, Nat.zero_le _⟩ dX0_place_12 ?_
        refine lv_iload_n hx hb dX0_place_15 rfl (lv_at hl 1 rfl) ?_
        refine lv_icmp_ne (tgt := 21) hx hb dX0_place_16 (by decide) (fun c3 => ?_) (fun c3 => ?_)
        · refine lv_iinc (v := (nI (i1 + 1))) (lv' := [(2, .int (nI (i1 + 1))), (0, .ref (A 0)), (1, .int v)]) hx hb dX0_place_21 hl (k := 2) rfl (nI_add i1 1) (by decide) rfl (fun ls hl => ?_)
          refine lv_goto (tgt := 2) hx hb dX0_place_24 (by decide) ?_
          exact ih (i1 + 1) (by omega) (by rw [hinv, ff]; simp [hinv, c2, c3]) ls (lv_sub hl [1, 2, 0] rfl)
        · refine lv_iload_n hx hb dX0_place_19 rfl (lv_at hl 2 rfl) ?_
          exact W.iret (v := (nI i1)) hx hb hr (fun t ht hW => ⟨_, rfl, by rw [hinv]; simp [ff, hinv, c2, c3], ht⟩) (fun q h => by cases h) dX0_place_20
  exact L2 (s_n S) 0 (by omega) (rfl) ls (lv_sub hl [1, 2, 0] rfl)
set_option maxHeartbeats 4000000 in
set_option maxRecDepth 100000 in
theorem c_X0_tell (l : Launch) (D : va_G) (A : Nat → Nat) (K : Nat → ClassId) (S : XS) (hI : x_inv S) (v : Int32) (w : Int32) : Met l yX0_tell wsX0_tell (rmD 4) (va_Pc [.ref (A 0), .int v, .int w] (i_w D vwCl (wX A K S) (tX K))) (vp_Si (fun r => r = (x_tell S v w))) 0 0 (fun _ => False) := by
  refine Met.ofW (cc := cX0_tell) (maxL := 3) (ret := some .int) (by decide) rfl ?_
  intro p e s m args below meth c s₁ B hml hv
  obtain ⟨rfl, hP, hK⟩ := hv
  have hx := B.exec
  have hb := B.bytes
  have hr := B.returns
  have hts := atoms_spec (ws := wsX0_tell) B.pre
  have hown : s.vm.findClass RX0 = some m.cls := findClass_of_methodNamed B.named
  have hlocks := B.notSynchronized
  have hn8 := hI.1
  have hin : ∀ w ∈ u_ws RX0 TX0 9, w ∈ wsX0_tell := fun w h => List.mem_cons_of_mem _ (List.mem_append_right _ h)
  have f_16 := hts (.fieldLink RX0 16 "ChronoTrials" "trialsOf" "[I") (by decide +kernel)
  have f_19 := hts (.fieldLink RX0 19 "ChronoTrials" "bests" "[I") (by decide +kernel)
  have f_22 := hts (.fieldLink RX0 22 "ChronoTrials" "seals" "[Z") (by decide +kernel)
  have hl := lv_entry ([.ref (A 0), .int v, .int w]) (n := 3) (Nat.le_of_ble_eq_true rfl)
  rw [lg_entry_eq]
  generalize (lg_sl ([.ref (A 0), .int v, .int w]) ++ List.replicate (3 - (lg_sl ([.ref (A 0), .int v, .int w])).length) Slot.unset).toArray = ls at hl ⊢
  have hl : lv_has ls 3 [(0, .ref (A 0)), (1, .int v), (2, .int w)] := hl
  refine lv_aload_n hx hb dX0_tell_0 rfl (lv_at hl 0 rfl) ?_
  refine lv_iload_n hx hb dX0_tell_1 rfl (lv_at hl 1 rfl) ?_
  refine rc_V (v := (zi (isClk S v))) ⟨hx, hb, hml, hown, hts⟩ [.int v] [] (c_X0_isClock l D A K S hI v) (cwV 1 hts gX0_tell_X0_isClock rfl rfl rfl (by decide +kernel) ⟨Nat.le_of_ble_eq_true rfl, Nat.le_of_ble_eq_true rfl⟩) hK hP (va_recv hK hP (ci := 0) (q0 := 0) rfl rfl) rfl hl.1 rfl (Nat.le_of_ble_eq_true rfl) ⟨Nat.zero_le _, Nat.zero_le _⟩ dX0_tell_2 ?_
  refine xz_ne (b := (isClk S v)) (tgt := 10) hx hb dX0_tell_5 (by decide) (fun c1 => ?_) (fun c1 => ?_)
  · obtain ⟨a, ha, rfl⟩ := isClk_ex c1 hn8
    have ea : (nI a).toNatClampNeg = a := nI_clamp (by omega)
    have ht6 := hI.2 a
    refine lv_iload_n hx hb dX0_tell_10 rfl (lv_at hl 2 rfl) ?_
    by_cases w2 : w = 0
    · refine lv_tableIn (tgt := 52) hx hb dX0_tell_11 (by rw [w2]; decide) (by rw [w2]; decide) (by rw [w2]; rfl) (by decide) ?_
      refine lv_aload_n hx hb dX0_tell_52 rfl (lv_at hl 0 rfl) ?_
      refine va_get (D := D) (ci := 0) (v := .ref (A 3)) (C := RX0) (T := TX0) (N := 9) hx hb hts hin hown hK hP 0 rfl rfl 2 (by decide) f_16 (fun _ h9 => h9) rfl dX0_tell_53 ?_
      refine lv_iload_n hx hb dX0_tell_56 rfl (lv_at hl 1 rfl) ?_
      refine xa_ld (i := a) (v := (nI ((s_tr S) a))) hx hb hK hP 3 2 rfl rfl (by omega) (by decide) (rfl) dX0_tell_57 ?_
      exact W.iret (v := (nI ((s_tr S) a))) hx hb hr (fun t ht hW => ⟨_, rfl, by simp [x_tell, tl, c1, ea, w2], ht⟩) (fun q h => by cases h) dX0_tell_58
    by_cases w3 : w = 1
    · refine lv_tableIn (tgt := 59) hx hb dX0_tell_11 (by rw [w3]; decide) (by rw [w3]; decide) (by rw [w3]; rfl) (by decide) ?_
      refine lv_aload_n hx hb dX0_tell_59 rfl (lv_at hl 0 rfl) ?_
      refine va_get (D := D) (ci := 0) (v := .ref (A 4)) (C := RX0) (T := TX0) (N := 9) hx hb hts hin hown hK hP 0 rfl rfl 3 (by decide) f_19 (fun _ h9 => h9) rfl dX0_tell_60 ?_
      refine lv_iload_n hx hb dX0_tell_63 rfl (lv_at hl 1 rfl) ?_
      refine xa_ld (i := a) (v := ((s_bs S) a)) hx hb hK hP 4 3 rfl rfl (by omega) (by decide) (rfl) dX0_tell_64 ?_
      exact W.iret (v := ((s_bs S) a)) hx hb hr (fun t ht hW => ⟨_, rfl, by simp [x_tell, tl, c1, ea, w2, w3], ht⟩) (fun q h => by cases h) dX0_tell_65
    by_cases w4 : w = 2
    · refine lv_tableIn (tgt := 66) hx hb dX0_tell_11 (by rw [w4]; decide) (by rw [w4]; decide) (by rw [w4]; rfl) (by decide) ?_
      refine lv_aload_n hx hb dX0_tell_66 rfl (lv_at hl 0 rfl) ?_
      refine lv_iload_n hx hb dX0_tell_67 rfl (lv_at hl 1 rfl) ?_
      refine rc_V (v := (nI (x_rank S a))) ⟨hx, hb, hml, hown, hts⟩ [.int (nI a)] [] (c_X0_rank l D A K S hI a (by omega)) (cwV 1 hts gX0_tell_X0_rank rfl rfl rfl (by decide +kernel) ⟨Nat.le_of_ble_eq_true rfl, Nat.le_of_ble_eq_true rfl⟩) hK hP (va_recv hK hP (ci := 0) (q0 := 0) rfl rfl) rfl hl.1 rfl (Nat.le_of_ble_eq_true rfl) ⟨Nat.zero_le _, Nat.zero_le _⟩ dX0_tell_68 ?_
      exact W.iret (v := (nI (x_rank S a))) hx hb hr (fun t ht hW => ⟨_, rfl, by simp [x_tell, tl, c1, ea, w2, w3, w4], ht⟩) (fun q h => by cases h) dX0_tell_71
    by_cases w5 : w = 3
    · refine lv_tableIn (tgt := 72) hx hb dX0_tell_11 (by rw [w5]; decide) (by rw [w5]; decide) (by rw [w5]; rfl) (by decide) ?_
      refine lv_aload_n hx hb dX0_tell_72 rfl (lv_at hl 0 rfl) ?_
      refine va_get (D := D) (ci := 0) (v := .ref (A 5)) (C := RX0) (T := TX0) (N := 9) hx hb hts hin hown hK hP 0 rfl rfl 4 (by decide) f_22 (fun _ h9 => h9) rfl dX0_tell_73 ?_
      refine lv_iload_n hx hb dX0_tell_76 rfl (lv_at hl 1 rfl) ?_
      refine xa_zld (i := a) (v := (zi ((s_sl S) a))) hx hb hK hP 5 4 rfl rfl (by omega) (by decide) (rfl) dX0_tell_77 ?_
      refine rc_S (v := (zi ((s_sl S) a))) ⟨hx, hb, hml, hown, hts⟩ [.int (zi ((s_sl S) a))] [] (c_X0_oneIf l ((s_sl S) a)) (va_cwS 1 hts gX0_tell_X0_oneIf rfl rfl rfl (by decide +kernel) ⟨Nat.le_of_ble_eq_true rfl, Nat.le_of_ble_eq_true rfl⟩) rfl hl.1 rfl (Nat.le_of_ble_eq_true rfl) ⟨Nat.zero_le _, Nat.zero_le _⟩ dX0_tell_78 ?_
      exact W.iret (v := (zi ((s_sl S) a))) hx hb hr (fun t ht hW => ⟨_, rfl, by simp [x_tell, tl, c1, ea, w2, w3, w4, w5], ht⟩) (fun q h => by cases h) dX0_tell_81
    by_cases w6 : w = 4
    · refine lv_tableIn (tgt := 82) hx hb dX0_tell_11 (by rw [w6]; decide) (by rw [w6]; decide) (by rw [w6]; rfl) (by decide) ?_
      refine lv_aload_n hx hb dX0_tell_82 rfl (lv_at hl 0 rfl) ?_
      refine lv_iload_n hx hb dX0_tell_83 rfl (lv_at hl 1 rfl) ?_
      refine rc_V (v := (nI (x_cold S a))) ⟨hx, hb, hml, hown, hts⟩ [.int (nI a)] [] (c_X0_coldTrials l D A K S hI a (by omega)) (cwV 1 hts gX0_tell_X0_coldTrials rfl rfl rfl (by decide +kernel) ⟨Nat.le_of_ble_eq_true rfl, Nat.le_of_ble_eq_true rfl⟩) hK hP (va_recv hK hP (ci := 0) (q0 := 0) rfl rfl) rfl hl.1 rfl (Nat.le_of_ble_eq_true rfl) ⟨Nat.zero_le _, Nat.zero_le _⟩ dX0_tell_84 ?_
      exact W.iret (v := (nI (x_cold S a))) hx hb hr (fun t ht hW => ⟨_, rfl, by simp [x_tell, tl, c1, ea, w2, w3, w4, w5, w6], ht⟩) (fun q h => by cases h) dX0_tell_87
    by_cases w7 : w = 5
    · refine lv_tableIn (tgt := 88) hx hb dX0_tell_11 (by rw [w7]; decide) (by rw [w7]; decide) (by rw [w7]; rfl) (by decide) ?_
      refine lv_aload_n hx hb dX0_tell_88 rfl (lv_at hl 0 rfl) ?_
      refine lv_iload_n hx hb dX0_tell_89 rfl (lv_at hl 1 rfl) ?_
      refine rc_V (v := (nI (x_more S a))) ⟨hx, hb, hml, hown, hts⟩ [.int (nI a)] [] (c_X0_trialsAheadOfBest l D A K S hI a (by omega)) (cwV 1 hts gX0_tell_X0_trialsAheadOfBest rfl rfl rfl (by decide +kernel) ⟨Nat.le_of_ble_eq_true rfl, Nat.le_of_ble_eq_true rfl⟩) hK hP (va_recv hK hP (ci := 0) (q0 := 0) rfl rfl) rfl hl.1 rfl (Nat.le_of_ble_eq_true rfl) ⟨Nat.zero_le _, Nat.zero_le _⟩ dX0_tell_90 ?_
      exact W.iret (v := (nI (x_more S a))) hx hb hr (fun t ht hW => ⟨_, rfl, by simp [x_tell, tl, c1, ea, w2, w3, w4, w5, w6, w7], ht⟩) (fun q h => by cases h) dX0_tell_93
    by_cases w8 : w = 6
    · refine lv_tableIn (tgt := 94) hx hb dX0_tell_11 (by rw [w8]; decide) (by rw [w8]; decide) (by rw [w8]; rfl) (by decide) ?_
      refine lv_aload_n hx hb dX0_tell_94 rfl (lv_at hl 0 rfl) ?_
      refine lv_iload_n hx hb dX0_tell_95 rfl (lv_at hl 1 rfl) ?_
      refine rc_V (v := (lc S a)) ⟨hx, hb, hml, hown, hts⟩ [.int (nI a)] [] (c_X0_latestChill l D A K S hI a (by omega)) (cwV 1 hts gX0_tell_X0_latestChill rfl rfl rfl (by decide +kernel) ⟨Nat.le_of_ble_eq_true rfl, Nat.le_of_ble_eq_true rfl⟩) hK hP (va_recv hK hP (ci := 0) (q0 := 0) rfl rfl) rfl hl.1 rfl (Nat.le_of_ble_eq_true rfl) ⟨Nat.zero_le _, Nat.zero_le _⟩ dX0_tell_96 ?_
      exact W.iret (v := (lc S a)) hx hb hr (fun t ht hW => ⟨_, rfl, by simp [x_tell, tl, c1, ea, w2, w3, w4, w5, w6, w7, w8], ht⟩) (fun q h => by cases h) dX0_tell_99
    refine lv_tableOut (tgt := 100) hx hb dX0_tell_11 (by have tw2 := lv_neT (a := 0) w2 rfl; have tw3 := lv_neT (a := 1) w3 rfl; have tw4 := lv_neT (a := 2) w4 rfl; have tw5 := lv_neT (a := 3) w5 rfl; have tw6 := lv_neT (a := 4) w6 rfl; have tw7 := lv_neT (a := 5) w7 rfl; have tw8 := lv_neT (a := 6) w8 rfl; omega) (by decide) ?_
    refine lv_iconst (v := (-1)) hx hb dX0_tell_100 (by decide) ?_
    exact W.iret (v := (-1)) hx hb hr (fun t ht hW => ⟨_, rfl, by simp [x_tell, tl, c1, ea, w2, w3, w4, w5, w6, w7, w8], ht⟩) (fun q h => by cases h) dX0_tell_101
  · refine lv_iconst (v := (-1)) hx hb dX0_tell_8 (by decide) ?_
    exact W.iret (v := (-1)) hx hb hr (fun t ht hW => ⟨_, rfl, by simp [x_tell, tl, c1], ht⟩) (fun q h => by cases h) dX0_tell_9
set_option maxHeartbeats 4000000 in
set_option maxRecDepth 100000 in
theorem c_X0_count (l : Launch) (D : va_G) (A : Nat → Nat) (K : Nat → ClassId) (S : XS) (hI : x_inv S) (w : Int32) : Met l yX0_count wsX0_count (rmD 4) (va_Pc [.ref (A 0), .int w] (i_w D vwCl (wX A K S) (tX K))) (vp_Si (fun r => r = (ct (x_first S) S w))) 0 0 (fun _ => False) := by
  refine Met.ofW (cc := cX0_count) (maxL := 2) (ret := some .int) (by decide) rfl ?_
  intro p e s m args below meth c s₁ B hml hv
  obtain ⟨rfl, hP, hK⟩ := hv
  have hx := B.exec
  have hb := B.bytes
  have hr := B.returns
  have hts := atoms_spec (ws := wsX0_count) B.pre
  have hown : s.vm.findClass RX0 = some m.cls := findClass_of_methodNamed B.named
  have hlocks := B.notSynchronized
  have hn8 := hI.1
  have hin : ∀ w ∈ u_ws RX0 TX0 9, w ∈ wsX0_count := fun w h => List.mem_cons_of_mem _ (List.mem_append_right _ h)
  have f_26 := hts (.fieldLink RX0 26 "ChronoTrials" "clocks" "I") (by decide +kernel)
  have f_30 := hts (.fieldLink RX0 30 "ChronoTrials" "prizeRate" "I") (by decide +kernel)
  have f_33 := hts (.fieldLink RX0 33 "ChronoTrials" "recordRate" "I") (by decide +kernel)
  have f_36 := hts (.fieldLink RX0 36 "ChronoTrials" "frostChill" "I") (by decide +kernel)
  have hl := lv_entry ([.ref (A 0), .int w]) (n := 2) (Nat.le_of_ble_eq_true rfl)
  rw [lg_entry_eq]
  generalize (lg_sl ([.ref (A 0), .int w]) ++ List.replicate (2 - (lg_sl ([.ref (A 0), .int w])).length) Slot.unset).toArray = ls at hl ⊢
  have hl : lv_has ls 2 [(0, .ref (A 0)), (1, .int w)] := hl
  refine lv_iload_n hx hb dX0_count_0 rfl (lv_at hl 1 rfl) ?_
  by_cases w1 : w = 0
  · refine lv_tableIn (tgt := 44) hx hb dX0_count_1 (by rw [w1]; decide) (by rw [w1]; decide) (by rw [w1]; rfl) (by decide) ?_
    refine lv_aload_n hx hb dX0_count_44 rfl (lv_at hl 0 rfl) ?_
    refine va_get (D := D) (ci := 0) (v := .int (nI (s_n S))) (C := RX0) (T := TX0) (N := 9) hx hb hts hin hown hK hP 0 rfl rfl 5 (by decide) f_26 (fun _ h9 => h9) rfl dX0_count_45 ?_
    exact W.iret (v := (nI (s_n S))) hx hb hr (fun t ht hW => ⟨_, rfl, by simp [ct, w1], ht⟩) (fun q h => by cases h) dX0_count_48
  by_cases w2 : w = 1
  · refine lv_tableIn (tgt := 49) hx hb dX0_count_1 (by rw [w2]; decide) (by rw [w2]; decide) (by rw [w2]; rfl) (by decide) ?_
    refine lv_aload_n hx hb dX0_count_49 rfl (lv_at hl 0 rfl) ?_
    refine va_get (D := D) (ci := 0) (v := .int (s_rc S)) (C := RX0) (T := TX0) (N := 9) hx hb hts hin hown hK hP 0 rfl rfl 7 (by decide) f_33 (fun _ h9 => h9) rfl dX0_count_50 ?_
    exact W.iret (v := (s_rc S)) hx hb hr (fun t ht hW => ⟨_, rfl, by simp [ct, w1, w2], ht⟩) (fun q h => by cases h) dX0_count_53
  by_cases w3 : w = 2
  · refine lv_tableIn (tgt := 54) hx hb dX0_count_1 (by rw [w3]; decide) (by rw [w3]; decide) (by rw [w3]; rfl) (by decide) ?_
    refine lv_aload_n hx hb dX0_count_54 rfl (lv_at hl 0 rfl) ?_
    refine va_get (D := D) (ci := 0) (v := .int (s_pz S)) (C := RX0) (T := TX0) (N := 9) hx hb hts hin hown hK hP 0 rfl rfl 6 (by decide) f_30 (fun _ h9 => h9) rfl dX0_count_55 ?_
    exact W.iret (v := (s_pz S)) hx hb hr (fun t ht hW => ⟨_, rfl, by simp [ct, w1, w2, w3], ht⟩) (fun q h => by cases h) dX0_count_58
  by_cases w4 : w = 3
  · refine lv_tableIn (tgt := 59) hx hb dX0_count_1 (by rw [w4]; decide) (by rw [w4]; decide) (by rw [w4]; rfl) (by decide) ?_
    refine lv_aload_n hx hb dX0_count_59 rfl (lv_at hl 0 rfl) ?_
    refine va_get (D := D) (ci := 0) (v := .int (s_fr S)) (C := RX0) (T := TX0) (N := 9) hx hb hts hin hown hK hP 0 rfl rfl 8 (by decide) f_36 (fun _ h9 => h9) rfl dX0_count_60 ?_
    exact W.iret (v := (s_fr S)) hx hb hr (fun t ht hW => ⟨_, rfl, by simp [ct, w1, w2, w3, w4], ht⟩) (fun q h => by cases h) dX0_count_63
  by_cases w5 : w = 4
  · refine lv_tableIn (tgt := 64) hx hb dX0_count_1 (by rw [w5]; decide) (by rw [w5]; decide) (by rw [w5]; rfl) (by decide) ?_
    refine lv_aload_n hx hb dX0_count_64 rfl (lv_at hl 0 rfl) ?_
    refine rc_V (v := (nI (sm (s_tr S) (s_n S)))) ⟨hx, hb, hml, hown, hts⟩ [] [] (c_X0_trialsOfAll l D A K S hI) (cwV 0 hts gX0_count_X0_trialsOfAll rfl rfl rfl (by decide +kernel) ⟨Nat.le_of_ble_eq_true rfl, Nat.le_of_ble_eq_true rfl⟩) hK hP (va_recv hK hP (ci := 0) (q0 := 0) rfl rfl) rfl hl.1 rfl (Nat.le_of_ble_eq_true rfl) ⟨Nat.zero_le _, Nat.zero_le _⟩ dX0_count_65 ?_
    exact W.iret (v := (nI (sm (s_tr S) (s_n S)))) hx hb hr (fun t ht hW => ⟨_, rfl, by simp [ct, w1, w2, w3, w4, w5], ht⟩) (fun q h => by cases h) dX0_count_68
  by_cases w6 : w = 5
  · refine lv_tableIn (tgt := 69) hx hb dX0_count_1 (by rw [w6]; decide) (by rw [w6]; decide) (by rw [w6]; rfl) (by decide) ?_
    refine lv_aload_n hx hb dX0_count_69 rfl (lv_at hl 0 rfl) ?_
    refine rc_V (v := (nI (cn (s_sl S) (s_n S)))) ⟨hx, hb, hml, hown, hts⟩ [] [] (c_X0_sealsOn l D A K S hI) (cwV 0 hts gX0_count_X0_sealsOn rfl rfl rfl (by decide +kernel) ⟨Nat.le_of_ble_eq_true rfl, Nat.le_of_ble_eq_true rfl⟩) hK hP (va_recv hK hP (ci := 0) (q0 := 0) rfl rfl) rfl hl.1 rfl (Nat.le_of_ble_eq_true rfl) ⟨Nat.zero_le _, Nat.zero_le _⟩ dX0_count_70 ?_
    exact W.iret (v := (nI (cn (s_sl S) (s_n S)))) hx hb hr (fun t ht hW => ⟨_, rfl, by simp [ct, w1, w2, w3, w4, w5, w6], ht⟩) (fun q h => by cases h) dX0_count_73
  by_cases w7 : w = 6
  · refine lv_tableIn (tgt := 74) hx hb dX0_count_1 (by rw [w7]; decide) (by rw [w7]; decide) (by rw [w7]; rfl) (by decide) ?_
    refine lv_aload_n hx hb dX0_count_74 rfl (lv_at hl 0 rfl) ?_
    refine rc_V (v := (x_first S)) ⟨hx, hb, hml, hown, hts⟩ [] [] (c_X0_firstOfTheBest l D A K S hI) (cwV 0 hts gX0_count_X0_firstOfTheBest rfl rfl rfl (by decide +kernel) ⟨Nat.le_of_ble_eq_true rfl, Nat.le_of_ble_eq_true rfl⟩) hK hP (va_recv hK hP (ci := 0) (q0 := 0) rfl rfl) rfl hl.1 rfl (Nat.le_of_ble_eq_true rfl) ⟨Nat.zero_le _, Nat.zero_le _⟩ dX0_count_75 ?_
    exact W.iret (v := (x_first S)) hx hb hr (fun t ht hW => ⟨_, rfl, by simp [ct, w1, w2, w3, w4, w5, w6, w7], ht⟩) (fun q h => by cases h) dX0_count_78
  refine lv_tableOut (tgt := 79) hx hb dX0_count_1 (by have tw1 := lv_neT (a := 0) w1 rfl; have tw2 := lv_neT (a := 1) w2 rfl; have tw3 := lv_neT (a := 2) w3 rfl; have tw4 := lv_neT (a := 3) w4 rfl; have tw5 := lv_neT (a := 4) w5 rfl; have tw6 := lv_neT (a := 5) w6 rfl; have tw7 := lv_neT (a := 6) w7 rfl; omega) (by decide) ?_
  refine lv_iconst (v := (-1)) hx hb dX0_count_79 (by decide) ?_
  exact W.iret (v := (-1)) hx hb hr (fun t ht hW => ⟨_, rfl, by simp [ct, w1, w2, w3, w4, w5, w6, w7], ht⟩) (fun q h => by cases h) dX0_count_80
