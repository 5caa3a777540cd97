set_option maxHeartbeats 4000000 in
set_option maxRecDepth 100000 in
theorem c_X0_leastRate (l : Launch) (D : va_G) (A : Nat → Nat) (K : Nat → ClassId) (S : XS) (hI : x_inv S) (a : Nat) (ha : a < 8) : Met l yX0_leastRate wsX0_leastRate (rmD 3) (va_Pc [.ref (A 0), .int (nI a)] (i_w D vwCl (wX A K S) (tX K))) (vp_Si (fun r => r = (x_least S a))) 0 0 (fun _ => False) := by
  refine Met.ofW (cc := cX0_leastRate) (maxL := 5) (ret := some .int) (by decide) rfl ?_
  intro p e s m args below meth c s₁ B hml hv
  obtain ⟨rfl, hP, hK⟩ := hv
  have hx := B.exec
  have hb := B.bytes
  have hr := B.returns
  have hts := atoms_spec (ws := wsX0_leastRate) B.pre
  have hown : s.vm.findClass RX0 = some m.cls := findClass_of_methodNamed B.named
  have hlocks := B.notSynchronized
  have hn8 := hI.1
  have hin : ∀ w ∈ u_ws RX0 TX0 9, w ∈ wsX0_leastRate := fun w h => List.mem_cons_of_mem _ (List.mem_append_right _ h)
  have f_9 := hts (.fieldLink RX0 9 "ChronoTrials" "rates" "[I") (by decide +kernel)
  have f_16 := hts (.fieldLink RX0 16 "ChronoTrials" "trialsOf" "[I") (by decide +kernel)
  have ht6 := hI.2 a
  have hl := lv_entry ([.ref (A 0), .int (nI a)]) (n := 5) (Nat.le_of_ble_eq_true rfl)
  rw [lg_entry_eq]
  generalize (lg_sl ([.ref (A 0), .int (nI a)]) ++ List.replicate (5 - (lg_sl ([.ref (A 0), .int (nI a)])).length) Slot.unset).toArray = ls at hl ⊢
  have hl : lv_has ls 5 [(0, .ref (A 0)), (1, .int (nI a))] := hl
  refine lv_iconst (v := (-1)) hx hb dX0_leastRate_0 (by decide) ?_
  refine lv_istore_n (lv' := [(2, .int (-1)), (0, .ref (A 0)), (1, .int (nI a))]) hx hb dX0_leastRate_1 rfl hl (by decide) rfl (fun ls hl => ?_)
  refine lv_iconst (v := 0) hx hb dX0_leastRate_2 (by decide) ?_
  refine lv_istore_n (lv' := [(3, .int 0), (2, .int (-1)), (0, .ref (A 0)), (1, .int (nI a))]) hx hb dX0_leastRate_3 rfl hl (by decide) rfl (fun ls hl => ?_)
  have L4 : ∀ (m1 i1 : Nat) (acc : Int32), i1 + m1 = s_tr S a → acc = lr (fun t => s_rt S (a * 6 + t)) i1 → ∀ (ls : Array Slot), lv_has ls 5 [(0, .ref (A 0)), (1, .int (nI a)), (2, .int acc), (3, .int (nI i1))] → W p l e (headSpec wsX0_leastRate (rmD 3)).room s m ([.ref (A 0), .int (nI a)] : List Value).toArray below meth c s.heap [] 0 0 (MQ below (vp_Si (fun r => r = (x_least S a))) ([.ref (A 0), .int (nI a)] : List Value).toArray s 0 0 (fun _ => False)) (F0 m 4 ls []) := by
    intro m1
    induction m1 with
    | zero =>
      intro i1 acc hm1 hacc ls hl
      refine lv_iload_n hx hb dX0_leastRate_4 rfl (lv_at hl 3 rfl) ?_
      refine lv_aload_n hx hb dX0_leastRate_5 rfl (lv_at hl 0 rfl) ?_
      refine va_get (D := D) (ci := 0) (v := .ref (A 3)) (C := RX0) (T := TX0) (N := 9) hx hb hts hin hown hK hP 0 rfl rfl 2 (by decide) f_16 (fun _ h9 => h9) rfl dX0_leastRate_6 ?_
      refine lv_iload_n hx hb dX0_leastRate_9 rfl (lv_at hl 1 rfl) ?_
      refine xa_ld (i := a) (v := (nI ((s_tr S) a))) hx hb hK hP 3 2 rfl rfl (by omega) (by decide) (rfl) dX0_leastRate_10 ?_
      refine xn_ge (i := i1) (j := ((s_tr S) a)) (tgt := 44) hx hb (by omega) (by omega) dX0_leastRate_11 (by decide) (fun c1 => ?_) (fun c1 => ?_)
      · refine lv_iload_n hx hb dX0_leastRate_44 rfl (lv_at hl 2 rfl) ?_
        exact W.iret (v := acc) hx hb hr (fun t ht hW => ⟨_, rfl, by rw [hacc, show i1 = s_tr S a by omega]; try rfl, ht⟩) (fun q h => by cases h) dX0_leastRate_45
      · exfalso; omega
    | succ m1 ih =>
      intro i1 acc hm1 hacc ls hl
      refine lv_iload_n hx hb dX0_leastRate_4 rfl (lv_at hl 3 rfl) ?_
      refine lv_aload_n hx hb dX0_leastRate_5 rfl (lv_at hl 0 rfl) ?_
      refine va_get (D := D) (ci := 0) (v := .ref (A 3)) (C := RX0) (T := TX0) (N := 9) hx hb hts hin hown hK hP 0 rfl rfl 2 (by decide) f_16 (fun _ h9 => h9) rfl dX0_leastRate_6 ?_
      refine lv_iload_n hx hb dX0_leastRate_9 rfl (lv_at hl 1 rfl) ?_
      refine xa_ld (i := a) (v := (nI ((s_tr S) a))) hx hb hK hP 3 2 rfl rfl (by omega) (by decide) (rfl) dX0_leastRate_10 ?_
      refine xn_ge (i := i1) (j := ((s_tr S) a)) (tgt := 44) hx hb (by omega) (by omega) dX0_leastRate_11 (by decide) (fun c2 => ?_) (fun c2 => ?_)
      · exfalso; omega
      · refine lv_aload_n hx hb dX0_leastRate_14 rfl (lv_at hl 0 rfl) ?_
        refine va_get (D := D) (ci := 0) (v := .ref (A 1)) (C := RX0) (T := TX0) (N := 9) hx hb hts hin hown hK hP 0 rfl rfl 0 (by decide) f_9 (fun _ h9 => h9) rfl dX0_leastRate_15 ?_
        refine lv_iload_n hx hb dX0_leastRate_18 rfl (lv_at hl 1 rfl) ?_
        refine lv_iload_n hx hb dX0_leastRate_19 rfl (lv_at hl 3 rfl) ?_
        refine rc_S (v := (nI (a * 6 + i1))) ⟨hx, hb, hml, hown, hts⟩ [.int (nI a), .int (nI i1)] [.ref (A 1)] (c_X0_slot l a i1) (va_cwS 2 hts gX0_leastRate_X0_slot rfl rfl rfl (by decide +kernel) ⟨Nat.le_of_ble_eq_true rfl, Nat.le_of_ble_eq_true rfl⟩) rfl hl.1 rfl (Nat.le_of_ble_eq_true rfl) ⟨Nat.zero_le _, Nat.zero_le _⟩ dX0_leastRate_20 ?_
        refine xa_ld (i := (a * 6 + i1)) (v := ((s_rt S) (a * 6 + i1))) hx hb hK hP 1 0 rfl rfl (by omega) (by decide) (rfl) dX0_leastRate_23 ?_
        refine lv_istore (lv' := [(4, .int ((s_rt S) (a * 6 + i1))), (0, .ref (A 0)), (1, .int (nI a)), (2, .int acc), (3, .int (nI i1))]) hx hb dX0_leastRate_24 hl (by decide) rfl (fun ls hl => ?_)
        refine lv_iload hx hb dX0_leastRate_26 (lv_at hl 0 rfl) ?_
        refine lv_iload_n hx hb dX0_leastRate_28 rfl (lv_at hl 3 rfl) ?_
        refine rc_S (v := (zi (be ((s_rt S) (a * 6 + i1)) acc))) ⟨hx, hb, hml, hown, hts⟩ [.int ((s_rt S) (a * 6 + i1)), .int acc] [] (c_X0_betters l ((s_rt S) (a * 6 + i1)) acc) (va_cwS 2 hts gX0_leastRate_X0_betters rfl rfl rfl (by decide +kernel) ⟨Nat.le_of_ble_eq_true rfl, Nat.le_of_ble_eq_true rfl⟩) rfl hl.1 rfl (Nat.le_of_ble_eq_true rfl) ⟨Nat.zero_le _, Nat.zero_le _⟩ dX0_leastRate_29 ?_
        refine xz_eq (b := (be ((s_rt S) (a * 6 + i1)) acc)) (tgt := 38) hx hb dX0_leastRate_32 (by decide) (fun c3 => ?_) (fun c3 => ?_)
        · refine lv_iinc (v := (nI (i1 + 1))) (lv' := [(3, .int (nI (i1 + 1))), (4, .int ((s_rt S) (a * 6 + i1))), (0, .ref (A 0)), (1, .int (nI a)), (2, .int acc)]) hx hb dX0_leastRate_38 hl (k := 4) rfl (nI_add i1 1) (by decide) rfl (fun ls hl => ?_)
          refine lv_goto (tgt := 4) hx hb dX0_leastRate_41 (by decide) ?_
          exact ih (i1 + 1) acc (by omega) (by rw [lr, ← hacc]; simp [c2, c3]) ls (lv_sub hl [2, 3, 4, 0] rfl)
        · refine lv_iload hx hb dX0_leastRate_35 (lv_at hl 0 rfl) ?_
          refine lv_istore_n (lv' := [(2, .int ((s_rt S) (a * 6 + i1))), (4, .int ((s_rt S) (a * 6 + i1))), (0, .ref (A 0)), (1, .int (nI a)), (3, .int (nI i1))]) hx hb dX0_leastRate_37 rfl hl (by decide) rfl (fun ls hl => ?_)
          refine lv_iinc (v := (nI (i1 + 1))) (lv' := [(3, .int (nI (i1 + 1))), (2, .int ((s_rt S) (a * 6 + i1))), (4, .int ((s_rt S) (a * 6 + i1))), (0, .ref (A 0)), (1, .int (nI a))]) hx hb dX0_leastRate_38 hl (k := 4) rfl (nI_add i1 1) (by decide) rfl (fun ls hl => ?_)
          refine lv_goto (tgt := 4) hx hb dX0_leastRate_41 (by decide) ?_
          exact ih (i1 + 1) ((s_rt S) (a * 6 + i1)) (by omega) (by rw [lr, ← hacc]; simp [c2, c3]) ls (lv_sub hl [3, 4, 1, 0] rfl)
  exact L4 (s_tr S a) 0 (-1) (by omega) (rfl) ls (lv_sub hl [2, 3, 1, 0] rfl)
set_option maxHeartbeats 4000000 in
set_option maxRecDepth 100000 in
theorem c_X0_clocksAhead (l : Launch) (D : va_G) (A : Nat → Nat) (K : Nat → ClassId) (S : XS) (hI : x_inv S) (a : Nat) (ha : a < 8) : Met l yX0_clocksAhead wsX0_clocksAhead (rmD 4) (va_Pc [.ref (A 0), .int (nI a)] (i_w D vwCl (wX A K S) (tX K))) (vp_Si (fun r => r = (nI (x_ahead S a)))) 0 0 (fun _ => False) := by
  refine Met.ofW (cc := cX0_clocksAhead) (maxL := 4) (ret := some .int) (by decide) rfl ?_
  intro p e s m args below meth c s₁ B hml hv
  obtain ⟨rfl, hP, hK⟩ := hv
  have hx := B.exec
  have hb := B.bytes
  have hr := B.returns
  have hts := atoms_spec (ws := wsX0_clocksAhead) B.pre
  have hown : s.vm.findClass RX0 = some m.cls := findClass_of_methodNamed B.named
  have hlocks := B.notSynchronized
  have hn8 := hI.1
  have hin : ∀ w ∈ u_ws RX0 TX0 9, w ∈ wsX0_clocksAhead := fun w h => List.mem_cons_of_mem _ (List.mem_append_right _ h)
  have f_26 := hts (.fieldLink RX0 26 "ChronoTrials" "clocks" "I") (by decide +kernel)
  have hl := lv_entry ([.ref (A 0), .int (nI a)]) (n := 4) (Nat.le_of_ble_eq_true rfl)
  rw [lg_entry_eq]
  generalize (lg_sl ([.ref (A 0), .int (nI a)]) ++ List.replicate (4 - (lg_sl ([.ref (A 0), .int (nI a)])).length) Slot.unset).toArray = ls at hl ⊢
  have hl : lv_has ls 4 [(0, .ref (A 0)), (1, .int (nI a))] := hl
  refine lv_iconst (v := 0) hx hb dX0_clocksAhead_0 (by decide) ?_
  refine lv_istore_n (lv' := [(2, .int 0), (0, .ref (A 0)), (1, .int (nI a))]) hx hb dX0_clocksAhead_1 rfl hl (by decide) rfl (fun ls hl => ?_)
  refine lv_iconst (v := 0) hx hb dX0_clocksAhead_2 (by decide) ?_
  refine lv_istore_n (lv' := [(3, .int 0), (2, .int 0), (0, .ref (A 0)), (1, .int (nI a))]) hx hb dX0_clocksAhead_3 rfl hl (by decide) rfl (fun ls hl => ?_)
  have L4 : ∀ (m1 i1 : Nat) (acc : Nat), i1 + m1 = s_n S → acc = cn (fun k => ga S k a) i1 → ∀ (ls : Array Slot), lv_has ls 4 [(0, .ref (A 0)), (1, .int (nI a)), (2, .int (nI acc)), (3, .int (nI i1))] → W p l e (headSpec wsX0_clocksAhead (rmD 4)).room s m ([.ref (A 0), .int (nI a)] : List Value).toArray below meth c s.heap [] 0 0 (MQ below (vp_Si (fun r => r = (nI (x_ahead S a)))) ([.ref (A 0), .int (nI a)] : List Value).toArray s 0 0 (fun _ => False)) (F0 m 4 ls []) := by
    intro m1
    induction m1 with
    | zero =>
      intro i1 acc hm1 hacc ls hl
      refine lv_iload_n hx hb dX0_clocksAhead_4 rfl (lv_at hl 3 rfl) ?_
      refine lv_aload_n hx hb dX0_clocksAhead_5 rfl (lv_at hl 0 rfl) ?_
      refine va_get (D := D) (ci := 0) (v := .int (nI (s_n S))) (C := RX0) (T := TX0) (N := 9) hx hb hts hin hown hK hP 0 rfl rfl 5 (by decide) f_26 (fun _ h9 => h9) rfl dX0_clocksAhead_6 ?_
      refine xn_ge (i := i1) (j := (s_n S)) (tgt := 30) hx hb (by omega) (by omega) dX0_clocksAhead_9 (by decide) (fun c1 => ?_) (fun c1 => ?_)
      · refine lv_iload_n hx hb dX0_clocksAhead_30 rfl (lv_at hl 2 rfl) ?_
        exact W.iret (v := (nI acc)) hx hb hr (fun t ht hW => ⟨_, rfl, by rw [hacc, show i1 = s_n S by omega]; try rfl, ht⟩) (fun q h => by cases h) dX0_clocksAhead_31
      · exfalso; omega
    | succ m1 ih =>
      intro i1 acc hm1 hacc ls hl
      refine lv_iload_n hx hb dX0_clocksAhead_4 rfl (lv_at hl 3 rfl) ?_
      refine lv_aload_n hx hb dX0_clocksAhead_5 rfl (lv_at hl 0 rfl) ?_
      refine va_get (D := D) (ci := 0) (v := .int (nI (s_n S))) (C := RX0) (T := TX0) (N := 9) hx hb hts hin hown hK hP 0 rfl rfl 5 (by decide) f_26 (fun _ h9 => h9) rfl dX0_clocksAhead_6 ?_
      refine xn_ge (i := i1) (j := (s_n S)) (tgt := 30) hx hb (by omega) (by omega) dX0_clocksAhead_9 (by decide) (fun c2 => ?_) (fun c2 => ?_)
      · exfalso; omega
      · refine lv_aload_n hx hb dX0_clocksAhead_12 rfl (lv_at hl 0 rfl) ?_
        refine lv_iload_n hx hb dX0_clocksAhead_13 rfl (lv_at hl 3 rfl) ?_
        refine lv_iload_n hx hb dX0_clocksAhead_14 rfl (lv_at hl 1 rfl) ?_
        refine rc_V (v := (zi (ga S i1 a))) ⟨hx, hb, hml, hown, hts⟩ [.int (nI i1), .int (nI a)] [] (c_X0_goesAhead l D A K S hI i1 a (by omega) (by omega)) (cwV 2 hts gX0_clocksAhead_X0_goesAhead rfl rfl rfl (by decide +kernel) ⟨Nat.le_of_ble_eq_true rfl, Nat.le_of_ble_eq_true rfl⟩) hK hP (va_recv hK hP (ci := 0) (q0 := 0) rfl rfl) rfl hl.1 rfl (Nat.le_of_ble_eq_true rfl) ⟨Nat.zero_le _, Nat.zero_le _⟩ dX0_clocksAhead_15 ?_
        refine xz_eq (b := (ga S i1 a)) (tgt := 24) hx hb dX0_clocksAhead_18 (by decide) (fun c3 => ?_) (fun c3 => ?_)
        · refine lv_iinc (v := (nI (i1 + 1))) (lv' := [(3, .int (nI (i1 + 1))), (0, .ref (A 0)), (1, .int (nI a)), (2, .int (nI acc))]) hx hb dX0_clocksAhead_24 hl (k := 3) rfl (nI_add i1 1) (by decide) rfl (fun ls hl => ?_)
          refine lv_goto (tgt := 4) hx hb dX0_clocksAhead_27 (by decide) ?_
          exact ih (i1 + 1) acc (by omega) (by simp [cn, b2, hacc, c2, c3]) ls (lv_sub hl [1, 2, 3, 0] rfl)
        · refine lv_iinc (v := (nI (acc + 1))) (lv' := [(2, .int (nI (acc + 1))), (0, .ref (A 0)), (1, .int (nI a)), (3, .int (nI i1))]) hx hb dX0_clocksAhead_21 hl (k := 2) rfl (nI_add acc 1) (by decide) rfl (fun ls hl => ?_)
          refine lv_iinc (v := (nI (i1 + 1))) (lv' := [(3, .int (nI (i1 + 1))), (2, .int (nI (acc + 1))), (0, .ref (A 0)), (1, .int (nI a))]) hx hb dX0_clocksAhead_24 hl (k := 3) rfl (nI_add i1 1) (by decide) rfl (fun ls hl => ?_)
          refine lv_goto (tgt := 4) hx hb dX0_clocksAhead_27 (by decide) ?_
          exact ih (i1 + 1) (acc + 1) (by omega) (by simp [cn, b2, hacc, c2, c3]) ls (lv_sub hl [2, 3, 1, 0] rfl)
  exact L4 (s_n S) 0 0 (by omega) (rfl) ls (lv_sub hl [2, 3, 1, 0] rfl)
set_option maxHeartbeats 4000000 in
set_option maxRecDepth 100000 in
theorem c_X0_rank (l : Launch) (D : va_G) (A : Nat → Nat) (K : Nat → ClassId) (S : XS) (hI : x_inv S) (a : Nat) (ha : a < 8) : Met l yX0_rank wsX0_rank (rmD 3) (va_Pc [.ref (A 0), .int (nI a)] (i_w D vwCl (wX A K S) (tX K))) (vp_Si (fun r => r = (nI (x_rank S a)))) 0 0 (fun _ => False) := by
  refine Met.ofW (cc := cX0_rank) (maxL := 4) (ret := some .int) (by decide) rfl ?_
  intro p e s m args below meth c s₁ B hml hv
  obtain ⟨rfl, hP, hK⟩ := hv
  have hx := B.exec
  have hb := B.bytes
  have hr := B.returns
  have hts := atoms_spec (ws := wsX0_rank) B.pre
  have hown : s.vm.findClass RX0 = some m.cls := findClass_of_methodNamed B.named
  have hlocks := B.notSynchronized
  have hn8 := hI.1
  have hin : ∀ w ∈ u_ws RX0 TX0 9, w ∈ wsX0_rank := fun w h => List.mem_cons_of_mem _ (List.mem_append_right _ h)
  have f_19 := hts (.fieldLink RX0 19 "ChronoTrials" "bests" "[I") (by decide +kernel)
  have f_26 := hts (.fieldLink RX0 26 "ChronoTrials" "clocks" "I") (by decide +kernel)
  have hl := lv_entry ([.ref (A 0), .int (nI a)]) (n := 4) (Nat.le_of_ble_eq_true rfl)
  rw [lg_entry_eq]
  generalize (lg_sl ([.ref (A 0), .int (nI a)]) ++ List.replicate (4 - (lg_sl ([.ref (A 0), .int (nI a)])).length) Slot.unset).toArray = ls at hl ⊢
  have hl : lv_has ls 4 [(0, .ref (A 0)), (1, .int (nI a))] := hl
  refine lv_iconst (v := 0) hx hb dX0_rank_0 (by decide) ?_
  refine lv_istore_n (lv' := [(2, .int 0), (0, .ref (A 0)), (1, .int (nI a))]) hx hb dX0_rank_1 rfl hl (by decide) rfl (fun ls hl => ?_)
  refine lv_iconst (v := 0) hx hb dX0_rank_2 (by decide) ?_
  refine lv_istore_n (lv' := [(3, .int 0), (2, .int 0), (0, .ref (A 0)), (1, .int (nI a))]) hx hb dX0_rank_3 rfl hl (by decide) rfl (fun ls hl => ?_)
  have L4 : ∀ (m1 i1 : Nat) (acc : Nat), i1 + m1 = s_n S → acc = cn (fun k => be (s_bs S k) (s_bs S a)) i1 → ∀ (ls : Array Slot), lv_has ls 4 [(0, .ref (A 0)), (1, .int (nI a)), (2, .int (nI acc)), (3, .int (nI i1))] → W p l e (headSpec wsX0_rank (rmD 3)).room s m ([.ref (A 0), .int (nI a)] : List Value).toArray below meth c s.heap [] 0 0 (MQ below (vp_Si (fun r => r = (nI (x_rank S a)))) ([.ref (A 0), .int (nI a)] : List Value).toArray s 0 0 (fun _ => False)) (F0 m 4 ls []) := by
    intro m1
    induction m1 with
    | zero =>
      intro i1 acc hm1 hacc ls hl
      refine lv_iload_n hx hb dX0_rank_4 rfl (lv_at hl 3 rfl) ?_
      refine lv_aload_n hx hb dX0_rank_5 rfl (lv_at hl 0 rfl) ?_
      refine va_get (D := D) (ci := 0) (v := .int (nI (s_n S))) (C := RX0) (T := TX0) (N := 9) hx hb hts hin hown hK hP 0 rfl rfl 5 (by decide) f_26 (fun _ h9 => h9) rfl dX0_rank_6 ?_
      refine xn_ge (i := i1) (j := (s_n S)) (tgt := 39) hx hb (by omega) (by omega) dX0_rank_9 (by decide) (fun c1 => ?_) (fun c1 => ?_)
      · refine lv_iload_n hx hb dX0_rank_39 rfl (lv_at hl 2 rfl) ?_
        exact W.iret (v := (nI acc)) hx hb hr (fun t ht hW => ⟨_, rfl, by rw [hacc, show i1 = s_n S by omega]; try rfl, ht⟩) (fun q h => by cases h) dX0_rank_40
      · exfalso; omega
    | succ m1 ih =>
      intro i1 acc hm1 hacc ls hl
      refine lv_iload_n hx hb dX0_rank_4 rfl (lv_at hl 3 rfl) ?_
      refine lv_aload_n hx hb dX0_rank_5 rfl (lv_at hl 0 rfl) ?_
      refine va_get (D := D) (ci := 0) (v := .int (nI (s_n S))) (C := RX0) (T := TX0) (N := 9) hx hb hts hin hown hK hP 0 rfl rfl 5 (by decide) f_26 (fun _ h9 => h9) rfl dX0_rank_6 ?_
      refine xn_ge (i := i1) (j := (s_n S)) (tgt := 39) hx hb (by omega) (by omega) dX0_rank_9 (by decide) (fun c2 => ?_) (fun c2 => ?_)
      · exfalso; omega
      · refine lv_aload_n hx hb dX0_rank_12 rfl (lv_at hl 0 rfl) ?_
        refine va_get (D := D) (ci := 0) (v := .ref (A 4)) (C := RX0) (T := TX0) (N := 9) hx hb hts hin hown hK hP 0 rfl rfl 3 (by decide) f_19 (fun _ h9 => h9) rfl dX0_rank_13 ?_
        refine lv_iload_n hx hb dX0_rank_16 rfl (lv_at hl 3 rfl) ?_
        refine xa_ld (i := i1) (v := ((s_bs S) i1)) hx hb hK hP 4 3 rfl rfl (by omega) (by decide) (rfl) dX0_rank_17 ?_
        refine lv_aload_n hx hb dX0_rank_18 rfl (lv_at hl 0 rfl) ?_
        refine va_get (D := D) (ci := 0) (v := .ref (A 4)) (C := RX0) (T := TX0) (N := 9) hx hb hts hin hown hK hP 0 rfl rfl 3 (by decide) f_19 (fun _ h9 => h9) rfl dX0_rank_19 ?_
        refine lv_iload_n hx hb dX0_rank_22 rfl (lv_at hl 1 rfl) ?_
        refine xa_ld (i := a) (v := ((s_bs S) a)) hx hb hK hP 4 3 rfl rfl (by omega) (by decide) (rfl) dX0_rank_23 ?_
        refine rc_S (v := (zi (be ((s_bs S) i1) ((s_bs S) a)))) ⟨hx, hb, hml, hown, hts⟩ [.int ((s_bs S) i1), .int ((s_bs S) a)] [] (c_X0_betters l ((s_bs S) i1) ((s_bs S) a)) (va_cwS 2 hts gX0_rank_X0_betters rfl rfl rfl (by decide +kernel) ⟨Nat.le_of_ble_eq_true rfl, Nat.le_of_ble_eq_true rfl⟩) rfl hl.1 rfl (Nat.le_of_ble_eq_true rfl) ⟨Nat.zero_le _, Nat.zero_le _⟩ dX0_rank_24 ?_
        refine xz_eq (b := (be ((s_bs S) i1) ((s_bs S) a))) (tgt := 33) hx hb dX0_rank_27 (by decide) (fun c3 => ?_) (fun c3 => ?_)
        · refine lv_iinc (v := (nI (i1 + 1))) (lv' := [(3, .int (nI (i1 + 1))), (0, .ref (A 0)), (1, .int (nI a)), (2, .int (nI acc))]) hx hb dX0_rank_33 hl (k := 3) rfl (nI_add i1 1) (by decide) rfl (fun ls hl => ?_)
          refine lv_goto (tgt := 4) hx hb dX0_rank_36 (by decide) ?_
          exact ih (i1 + 1) acc (by omega) (by simp [cn, b2, hacc, c2, c3]) ls (lv_sub hl [1, 2, 3, 0] rfl)
        · refine lv_iinc (v := (nI (acc + 1))) (lv' := [(2, .int (nI (acc + 1))), (0, .ref (A 0)), (1, .int (nI a)), (3, .int (nI i1))]) hx hb dX0_rank_30 hl (k := 2) rfl (nI_add acc 1) (by decide) rfl (fun ls hl => ?_)
          refine lv_iinc (v := (nI (i1 + 1))) (lv' := [(3, .int (nI (i1 + 1))), (2, .int (nI (acc + 1))), (0, .ref (A 0)), (1, .int (nI a))]) hx hb dX0_rank_33 hl (k := 3) rfl (nI_add i1 1) (by decide) rfl (fun ls hl => ?_)
          refine lv_goto (tgt := 4) hx hb dX0_rank_36 (by decide) ?_
          exact ih (i1 + 1) (acc + 1) (by omega) (by simp [cn, b2, hacc, c2, c3]) ls (lv_sub hl [2, 3, 1, 0] rfl)
  exact L4 (s_n S) 0 0 (by omega) (rfl) ls (lv_sub hl [2, 3, 1, 0] rfl)
set_option maxHeartbeats 4000000 in
set_option maxRecDepth 100000 in
theorem c_X0_coldTrials (l : Launch) (D : va_G) (A : Nat → Nat) (K : Nat → ClassId) (S : XS) (hI : x_inv S) (a : Nat) (ha : a < 8) : Met l yX0_coldTrials wsX0_coldTrials (rmD 3) (va_Pc [.ref (A 0), .int (nI a)] (i_w D vwCl (wX A K S) (tX K))) (vp_Si (fun r => r = (nI (x_cold S a)))) 0 0 (fun _ => False) := by
  refine Met.ofW (cc := cX0_coldTrials) (maxL := 4) (ret := some .int) (by decide) rfl ?_
  intro p e s m args below meth c s₁ B hml hv
  obtain ⟨rfl, hP, hK⟩ := hv
  have hx := B.exec
  have hb := B.bytes
  have hr := B.returns
  have hts := atoms_spec (ws := wsX0_coldTrials) B.pre
  have hown : s.vm.findClass RX0 = some m.cls := findClass_of_methodNamed B.named
  have hlocks := B.notSynchronized
  have hn8 := hI.1
  have hin : ∀ w ∈ u_ws RX0 TX0 9, w ∈ wsX0_coldTrials := fun w h => List.mem_cons_of_mem _ (List.mem_append_right _ h)
  have f_13 := hts (.fieldLink RX0 13 "ChronoTrials" "chills" "[I") (by decide +kernel)
  have f_16 := hts (.fieldLink RX0 16 "ChronoTrials" "trialsOf" "[I") (by decide +kernel)
  have ht6 := hI.2 a
  have hl := lv_entry ([.ref (A 0), .int (nI a)]) (n := 4) (Nat.le_of_ble_eq_true rfl)
  rw [lg_entry_eq]
  generalize (lg_sl ([.ref (A 0), .int (nI a)]) ++ List.replicate (4 - (lg_sl ([.ref (A 0), .int (nI a)])).length) Slot.unset).toArray = ls at hl ⊢
  have hl : lv_has ls 4 [(0, .ref (A 0)), (1, .int (nI a))] := hl
  refine lv_iconst (v := 0) hx hb dX0_coldTrials_0 (by decide) ?_
  refine lv_istore_n (lv' := [(2, .int 0), (0, .ref (A 0)), (1, .int (nI a))]) hx hb dX0_coldTrials_1 rfl hl (by decide) rfl (fun ls hl => ?_)
  refine lv_iconst (v := 0) hx hb dX0_coldTrials_2 (by decide) ?_
  refine lv_istore_n (lv' := [(3, .int 0), (2, .int 0), (0, .ref (A 0)), (1, .int (nI a))]) hx hb dX0_coldTrials_3 rfl hl (by decide) rfl (fun ls hl => ?_)
  have L4 : ∀ (m1 i1 : Nat) (acc : Nat), i1 + m1 = s_tr S a → acc = cn (fun t => cold S (s_ch S (a * 6 + t))) i1 → ∀ (ls : Array Slot), lv_has ls 4 [(0, .ref (A 0)), (1, .int (nI a)), (2, .int (nI acc)), (3, .int (nI i1))] → W p l e (headSpec wsX0_coldTrials (rmD 3)).room s m ([.ref (A 0), .int (nI a)] : List Value).toArray below meth c s.heap [] 0 0 (MQ below (vp_Si (fun r => r = (nI (x_cold S a)))) ([.ref (A 0), .int (nI a)] : List Value).toArray s 0 0 (fun _ => False)) (F0 m 4 ls []) := by
    intro m1
    induction m1 with
    | zero =>
      intro i1 acc hm1 hacc ls hl
      refine lv_iload_n hx hb dX0_coldTrials_4 rfl (lv_at hl 3 rfl) ?_
      refine lv_aload_n hx hb dX0_coldTrials_5 rfl (lv_at hl 0 rfl) ?_
      refine va_get (D := D) (ci := 0) (v := .ref (A 3)) (C := RX0) (T := TX0) (N := 9) hx hb hts hin hown hK hP 0 rfl rfl 2 (by decide) f_16 (fun _ h9 => h9) rfl dX0_coldTrials_6 ?_
      refine lv_iload_n hx hb dX0_coldTrials_9 rfl (lv_at hl 1 rfl) ?_
      refine xa_ld (i := a) (v := (nI ((s_tr S) a))) hx hb hK hP 3 2 rfl rfl (by omega) (by decide) (rfl) dX0_coldTrials_10 ?_
      refine xn_ge (i := i1) (j := ((s_tr S) a)) (tgt := 40) hx hb (by omega) (by omega) dX0_coldTrials_11 (by decide) (fun c1 => ?_) (fun c1 => ?_)
      · refine lv_iload_n hx hb dX0_coldTrials_40 rfl (lv_at hl 2 rfl) ?_
        exact W.iret (v := (nI acc)) hx hb hr (fun t ht hW => ⟨_, rfl, by rw [hacc, show i1 = s_tr S a by omega]; try rfl, ht⟩) (fun q h => by cases h) dX0_coldTrials_41
      · exfalso; omega
    | succ m1 ih =>
      intro i1 acc hm1 hacc ls hl
      refine lv_iload_n hx hb dX0_coldTrials_4 rfl (lv_at hl 3 rfl) ?_
      refine lv_aload_n hx hb dX0_coldTrials_5 rfl (lv_at hl 0 rfl) ?_
      refine va_get (D := D) (ci := 0) (v := .ref (A 3)) (C := RX0) (T := TX0) (N := 9) hx hb hts hin hown hK hP 0 rfl rfl 2 (by decide) f_16 (fun _ h9 => h9) rfl dX0_coldTrials_6 ?_
      refine lv_iload_n hx hb dX0_coldTrials_9 rfl (lv_at hl 1 rfl) ?_
      refine xa_ld (i := a) (v := (nI ((s_tr S) a))) hx hb hK hP 3 2 rfl rfl (by omega) (by decide) (rfl) dX0_coldTrials_10 ?_
      refine xn_ge (i := i1) (j := ((s_tr S) a)) (tgt := 40) hx hb (by omega) (by omega) dX0_coldTrials_11 (by decide) (fun c2 => ?_) (fun c2 => ?_)
      · exfalso; omega
      · refine lv_aload_n hx hb dX0_coldTrials_14 rfl (lv_at hl 0 rfl) ?_
        refine lv_aload_n hx hb dX0_coldTrials_15 rfl (lv_at hl 0 rfl) ?_
        refine va_get (D := D) (ci := 0) (v := .ref (A 2)) (C := RX0) (T := TX0) (N := 9) hx hb hts hin hown hK hP 0 rfl rfl 1 (by decide) f_13 (fun _ h9 => h9) rfl dX0_coldTrials_16 ?_
        refine lv_iload_n hx hb dX0_coldTrials_19 rfl (lv_at hl 1 rfl) ?_
        refine lv_iload_n hx hb dX0_coldTrials_20 rfl (lv_at hl 3 rfl) ?_
        refine rc_S (v := (nI (a * 6 + i1))) ⟨hx, hb, hml, hown, hts⟩ [.int (nI a), .int (nI i1)] [.ref (A 2), .ref (A 0)] (c_X0_slot l a i1) (va_cwS 2 hts gX0_coldTrials_X0_slot rfl rfl rfl (by decide +kernel) ⟨Nat.le_of_ble_eq_true rfl, Nat.le_of_ble_eq_true rfl⟩) rfl hl.1 rfl (Nat.le_of_ble_eq_true rfl) ⟨Nat.zero_le _, Nat.zero_le _⟩ dX0_coldTrials_21 ?_
        refine xa_ld (i := (a * 6 + i1)) (v := ((s_ch S) (a * 6 + i1))) hx hb hK hP 2 1 rfl rfl (by omega) (by decide) (rfl) dX0_coldTrials_24 ?_
        refine rc_V (v := (zi (cold S ((s_ch S) (a * 6 + i1))))) ⟨hx, hb, hml, hown, hts⟩ [.int ((s_ch S) (a * 6 + i1))] [] (c_X0_isCold l D A K S hI ((s_ch S) (a * 6 + i1))) (cwV 1 hts gX0_coldTrials_X0_isCold rfl rfl rfl (by decide +kernel) ⟨Nat.le_of_ble_eq_true rfl, Nat.le_of_ble_eq_true rfl⟩) hK hP (va_recv hK hP (ci := 0) (q0 := 0) rfl rfl) rfl hl.1 rfl (Nat.le_of_ble_eq_true rfl) ⟨Nat.zero_le _, Nat.zero_le _⟩ dX0_coldTrials_25 ?_
        refine xz_eq (b := (cold S ((s_ch S) (a * 6 + i1)))) (tgt := 34) hx hb dX0_coldTrials_28 (by decide) (fun c3 => ?_) (fun c3 => ?_)
        · refine lv_iinc (v := (nI (i1 + 1))) (lv' := [(3, .int (nI (i1 + 1))), (0, .ref (A 0)), (1, .int (nI a)), (2, .int (nI acc))]) hx hb dX0_coldTrials_34 hl (k := 3) rfl (nI_add i1 1) (by decide) rfl (fun ls hl => ?_)
          refine lv_goto (tgt := 4) hx hb dX0_coldTrials_37 (by decide) ?_
          exact ih (i1 + 1) acc (by omega) (by simp [cn, b2, hacc, c2, c3]) ls (lv_sub hl [1, 2, 3, 0] rfl)
        · refine lv_iinc (v := (nI (acc + 1))) (lv' := [(2, .int (nI (acc + 1))), (0, .ref (A 0)), (1, .int (nI a)), (3, .int (nI i1))]) hx hb dX0_coldTrials_31 hl (k := 2) rfl (nI_add acc 1) (by decide) rfl (fun ls hl => ?_)
          refine lv_iinc (v := (nI (i1 + 1))) (lv' := [(3, .int (nI (i1 + 1))), (2, .int (nI (acc + 1))), (0, .ref (A 0)), (1, .int (nI a))]) hx hb dX0_coldTrials_34 hl (k := 3) rfl (nI_add i1 1) (by decide) rfl (fun ls hl => ?_)
          refine lv_goto (tgt := 4) hx hb dX0_coldTrials_37 (by decide) ?_
          exact ih (i1 + 1) (acc + 1) (by omega) (by simp [cn, b2, hacc, c2, c3]) ls (lv_sub hl [2, 3, 1, 0] rfl)
  exact L4 (s_tr S a) 0 0 (by omega) (rfl) ls (lv_sub hl [2, 3, 1, 0] rfl)
set_option maxHeartbeats 4000000 in
set_option maxRecDepth 100000 in
theorem c_X0_trialsAheadOfBest (l : Launch) (D : va_G) (A : Nat → Nat) (K : Nat → ClassId) (S : XS) (hI : x_inv S) (a : Nat) (ha : a < 8) : Met l yX0_trialsAheadOfBest wsX0_trialsAheadOfBest (rmD 2) (va_Pc [.ref (A 0), .int (nI a)] (i_w D vwCl (wX A K S) (tX K))) (vp_Si (fun r => r = (nI (x_more S a)))) 0 0 (fun _ => False) := by
  refine Met.ofW (cc := cX0_trialsAheadOfBest) (maxL := 3) (ret := some .int) (by decide) rfl ?_
  intro p e s m args below meth c s₁ B hml hv
  obtain ⟨rfl, hP, hK⟩ := hv
  have hx := B.exec
  have hb := B.bytes
  have hr := B.returns
  have hts := atoms_spec (ws := wsX0_trialsAheadOfBest) B.pre
  have hown : s.vm.findClass RX0 = some m.cls := findClass_of_methodNamed B.named
  have hlocks := B.notSynchronized
  have hn8 := hI.1
  have hin : ∀ w ∈ u_ws RX0 TX0 9, w ∈ wsX0_trialsAheadOfBest := fun w h => List.mem_cons_of_mem _ (List.mem_append_right _ h)
  have f_9 := hts (.fieldLink RX0 9 "ChronoTrials" "rates" "[I") (by decide +kernel)
  have f_16 := hts (.fieldLink RX0 16 "ChronoTrials" "trialsOf" "[I") (by decide +kernel)
  have f_19 := hts (.fieldLink RX0 19 "ChronoTrials" "bests" "[I") (by decide +kernel)
  have ht6 := hI.2 a
  have hl := lv_entry ([.ref (A 0), .int (nI a)]) (n := 3) (Nat.le_of_ble_eq_true rfl)
  rw [lg_entry_eq]
  generalize (lg_sl ([.ref (A 0), .int (nI a)]) ++ List.replicate (3 - (lg_sl ([.ref (A 0), .int (nI a)])).length) Slot.unset).toArray = ls at hl ⊢
  have hl : lv_has ls 3 [(0, .ref (A 0)), (1, .int (nI a))] := hl
  refine lv_iconst (v := 0) hx hb dX0_trialsAheadOfBest_0 (by decide) ?_
  refine lv_istore_n (lv' := [(2, .int 0), (0, .ref (A 0)), (1, .int (nI a))]) hx hb dX0_trialsAheadOfBest_1 rfl hl (by decide) rfl (fun ls hl => ?_)
  have L2 : ∀ (m1 i1 : Nat), i1 + m1 = s_tr S a → x_more S a = wh (fun t => h_all (-1) 2 (s_rt S (a * 6 + t)) (s_bs S a)) m1 i1 → ∀ (ls : Array Slot), lv_has ls 3 [(0, .ref (A 0)), (1, .int (nI a)), (2, .int (nI i1))] → W p l e (headSpec wsX0_trialsAheadOfBest (rmD 2)).room s m ([.ref (A 0), .int (nI a)] : List Value).toArray below meth c s.heap [] 0 0 (MQ below (vp_Si (fun r => r = (nI (x_more S a)))) ([.ref (A 0), .int (nI a)] : List Value).toArray s 0 0 (fun _ => False)) (F0 m 2 ls []) := by
    intro m1
    induction m1 with
    | zero =>
      intro i1 hm1 hinv ls hl
      refine lv_iload_n hx hb dX0_trialsAheadOfBest_2 rfl (lv_at hl 2 rfl) ?_
      refine lv_aload_n hx hb dX0_trialsAheadOfBest_3 rfl (lv_at hl 0 rfl) ?_
      refine va_get (D := D) (ci := 0) (v := .ref (A 3)) (C := RX0) (T := TX0) (N := 9) hx hb hts hin hown hK hP 0 rfl rfl 2 (by decide) f_16 (fun _ h9 => h9) rfl dX0_trialsAheadOfBest_4 ?_
      refine lv_iload_n hx hb dX0_trialsAheadOfBest_7 rfl (lv_at hl 1 rfl) ?_
      refine xa_ld (i := a) (v := (nI ((s_tr S) a))) hx hb hK hP 3 2 rfl rfl (by omega) (by decide) (rfl) dX0_trialsAheadOfBest_8 ?_
      refine xn_ge (i := i1) (j := ((s_tr S) a)) (tgt := 41) hx hb (by omega) (by omega) dX0_trialsAheadOfBest_9 (by decide) (fun c1 => ?_) (fun c1 => ?_)
      · refine lv_iload_n hx hb dX0_trialsAheadOfBest_41 rfl (lv_at hl 2 rfl) ?_
        exact W.iret (v := (nI i1)) hx hb hr (fun t ht hW => ⟨_, rfl, by rw [hinv]; simp [wh, hinv, c1], ht⟩) (fun q h => by cases h) dX0_trialsAheadOfBest_42
      · exfalso; omega
    | succ m1 ih =>
      intro i1 hm1 hinv ls hl
      refine lv_iload_n hx hb dX0_trialsAheadOfBest_2 rfl (lv_at hl 2 rfl) ?_
      refine lv_aload_n hx hb dX0_trialsAheadOfBest_3 rfl (lv_at hl 0 rfl) ?_
      refine va_get (D := D) (ci := 0) (v := .ref (A 3)) (C := RX0) (T := TX0) (N := 9) hx hb hts hin hown hK hP 0 rfl rfl 2 (by decide) f_16 (fun _ h9 => h9) rfl dX0_trialsAheadOfBest_4 ?_
      refine lv_iload_n hx hb dX0_trialsAheadOfBest_7 rfl (lv_at hl 1 rfl) ?_
      refine xa_ld (i := a) (v := (nI ((s_tr S) a))) hx hb hK hP 3 2 rfl rfl (by omega) (by decide) (rfl) dX0_trialsAheadOfBest_8 ?_
      refine xn_ge (i := i1) (j := ((s_tr S) a)) (tgt := 41) hx hb (by omega) (by omega) dX0_trialsAheadOfBest_9 (by decide) (fun c2 => ?_) (fun c2 => ?_)
      · exfalso; omega
      · refine lv_iconst (v := 2) hx hb dX0_trialsAheadOfBest_12 (by decide) ?_
        refine lv_aload_n hx hb dX0_trialsAheadOfBest_13 rfl (lv_at hl 0 rfl) ?_
        refine va_get (D := D) (ci := 0) (v := .ref (A 1)) (C := RX0) (T := TX0) (N := 9) hx hb hts hin hown hK hP 0 rfl rfl 0 (by decide) f_9 (fun _ h9 => h9) rfl dX0_trialsAheadOfBest_14 ?_
        refine lv_iload_n hx hb dX0_trialsAheadOfBest_17 rfl (lv_at hl 1 rfl) ?_
        refine lv_iload_n hx hb dX0_trialsAheadOfBest_18 rfl (lv_at hl 2 rfl) ?_
        refine rc_S (v := (nI (a * 6 + i1))) ⟨hx, hb, hml, hown, hts⟩ [.int (nI a), .int (nI i1)] [.ref (A 1), .int 2] (c_X0_slot l a i1) (va_cwS 2 hts gX0_trialsAheadOfBest_X0_slot rfl rfl rfl (by decide +kernel) ⟨Nat.le_of_ble_eq_true rfl, Nat.le_of_ble_eq_true rfl⟩) rfl hl.1 rfl (Nat.le_of_ble_eq_true rfl) ⟨Nat.zero_le _, Nat.zero_le _⟩ dX0_trialsAheadOfBest_19 ?_
        refine xa_ld (i := (a * 6 + i1)) (v := ((s_rt S) (a * 6 + i1))) hx hb hK hP 1 0 rfl rfl (by omega) (by decide) (rfl) dX0_trialsAheadOfBest_22 ?_
        refine lv_aload_n hx hb dX0_trialsAheadOfBest_23 rfl (lv_at hl 0 rfl) ?_
        refine va_get (D := D) (ci := 0) (v := .ref (A 4)) (C := RX0) (T := TX0) (N := 9) hx hb hts hin hown hK hP 0 rfl rfl 3 (by decide) f_19 (fun _ h9 => h9) rfl dX0_trialsAheadOfBest_24 ?_
        refine lv_iload_n hx hb dX0_trialsAheadOfBest_27 rfl (lv_at hl 1 rfl) ?_
        refine xa_ld (i := a) (v := ((s_bs S) a)) hx hb hK hP 4 3 rfl rfl (by omega) (by decide) (rfl) dX0_trialsAheadOfBest_28 ?_
        refine rc_S (v := (zi (h_all (-1) 2 ((s_rt S) (a * 6 + i1)) ((s_bs S) a)))) ⟨hx, hb, hml, hown, hts⟩ [.int 2, .int ((s_rt S) (a * 6 + i1)), .int ((s_bs S) a)] [] (c_X0_holdsOfRates l 2 ((s_rt S) (a * 6 + i1)) ((s_bs S) a)) (va_cwS 3 hts gX0_trialsAheadOfBest_X0_holdsOfRates rfl rfl rfl (by decide +kernel) ⟨Nat.le_of_ble_eq_true rfl, Nat.le_of_ble_eq_true rfl⟩) rfl hl.1 rfl (Nat.le_of_ble_eq_true rfl) ⟨Nat.zero_le _, Nat.zero_le _⟩ dX0_trialsAheadOfBest_29 ?_
        refine xz_eq (b := (h_all (-1) 2 ((s_rt S) (a * 6 + i1)) ((s_bs S) a))) (tgt := 41) hx hb dX0_trialsAheadOfBest_32 (by decide) (fun c3 => ?_) (fun c3 => ?_)
        · refine lv_iload_n hx hb dX0_trialsAheadOfBest_41 rfl (lv_at hl 2 rfl) ?_
          exact W.iret (v := (nI i1)) hx hb hr (fun t ht hW => ⟨_, rfl, by rw [hinv]; simp [wh, hinv, c2, c3], ht⟩) (fun q h => by cases h) dX0_trialsAheadOfBest_42
        · refine lv_iinc (v := (nI (i1 + 1))) (lv' := [(2, .int (nI (i1 + 1))), (0, .ref (A 0)), (1, .int (nI a))]) hx hb dX0_trialsAheadOfBest_35 hl (k := 2) rfl (nI_add i1 1) (by decide) rfl (fun ls hl => ?_)
          refine lv_goto (tgt := 2) hx hb dX0_trialsAheadOfBest_38 (by decide) ?_
          exact ih (i1 + 1) (by omega) (by rw [hinv, wh]; simp [hinv, c2, c3]) ls (lv_sub hl [1, 2, 0] rfl)
  exact L2 (s_tr S a) 0 (by omega) (rfl) ls (lv_sub hl [1, 2, 0] rfl)
set_option maxHeartbeats 4000000 in
set_option maxRecDepth 100000 in
theorem c_X0_clocksInARow (l : Launch) (D : va_G) (A : Nat → Nat) (K : Nat → ClassId) (S : XS) (hI : x_inv S) (w : Int32) (sg : Int32) (a : Nat) (b : Nat) (ha : a < s_n S) (hb8 : b < 8) : Met l yX0_clocksInARow wsX0_clocksInARow (rmD 3) (va_Pc [.ref (A 0), .int w, .int sg, .int (nI a), .int (nI b)] (i_w D vwCl (wX A K S) (tX K))) (vp_Si (fun r => r = (nI (x_row S w sg a b - a)))) 0 0 (fun _ => False) := by
  refine Met.ofW (cc := cX0_clocksInARow) (maxL := 6) (ret := some .int) (by decide) rfl ?_
  intro p e s m args below meth c s₁ B hml hv
  obtain ⟨rfl, hP, hK⟩ := hv
  have hx := B.exec
  have hb := B.bytes
  have hr := B.returns
  have hts := atoms_spec (ws := wsX0_clocksInARow) B.pre
  have hown : s.vm.findClass RX0 = some m.cls := findClass_of_methodNamed B.named
  have hlocks := B.notSynchronized
  have hn8 := hI.1
  have hin : ∀ w ∈ u_ws RX0 TX0 9, w ∈ wsX0_clocksInARow := fun w h => List.mem_cons_of_mem _ (List.mem_append_right _ h)
  have f_26 := hts (.fieldLink RX0 26 "ChronoTrials" "clocks" "I") (by decide +kernel)
  have hl := lv_entry ([.ref (A 0), .int w, .int sg, .int (nI a), .int (nI b)]) (n := 6) (Nat.le_of_ble_eq_true rfl)
  rw [lg_entry_eq]
  generalize (lg_sl ([.ref (A 0), .int w, .int sg, .int (nI a), .int (nI b)]) ++ List.replicate (6 - (lg_sl ([.ref (A 0), .int w, .int sg, .int (nI a), .int (nI b)])).length) Slot.unset).toArray = ls at hl ⊢
  have hl : lv_has ls 6 [(0, .ref (A 0)), (1, .int w), (2, .int sg), (3, .int (nI a)), (4, .int (nI b))] := hl
  refine lv_iload_n hx hb dX0_clocksInARow_0 rfl (lv_at hl 3 rfl) ?_
  refine lv_istore (lv' := [(5, .int (nI a)), (0, .ref (A 0)), (1, .int w), (2, .int sg), (3, .int (nI a)), (4, .int (nI b))]) hx hb dX0_clocksInARow_1 hl (by decide) rfl (fun ls hl => ?_)
  have L3 : ∀ (m1 i1 : Nat), i1 + m1 = s_n S → a ≤ i1 → x_row S w sg a b = wh (fun k => hc S w sg k b) m1 i1 → ∀ (ls : Array Slot), lv_has ls 6 [(0, .ref (A 0)), (1, .int w), (2, .int sg), (3, .int (nI a)), (4, .int (nI b)), (5, .int (nI i1))] → W p l e (headSpec wsX0_clocksInARow (rmD 3)).room s m ([.ref (A 0), .int w, .int sg, .int (nI a), .int (nI b)] : List Value).toArray below meth c s.heap [] 0 0 (MQ below (vp_Si (fun r => r = (nI (x_row S w sg a b - a)))) ([.ref (A 0), .int w, .int sg, .int (nI a), .int (nI b)] : List Value).toArray s 0 0 (fun _ => False)) (F0 m 3 ls []) := by
    intro m1
    induction m1 with
    | zero =>
      intro i1 hm1 hai hinv ls hl
      refine lv_iload hx hb dX0_clocksInARow_3 (lv_at hl 5 rfl) ?_
      refine lv_aload_n hx hb dX0_clocksInARow_5 rfl (lv_at hl 0 rfl) ?_
      refine va_get (D := D) (ci := 0) (v := .int (nI (s_n S))) (C := RX0) (T := TX0) (N := 9) hx hb hts hin hown hK hP 0 rfl rfl 5 (by decide) f_26 (fun _ h9 => h9) rfl dX0_clocksInARow_6 ?_
      refine xn_ge (i := i1) (j := (s_n S)) (tgt := 31) hx hb (by omega) (by omega) dX0_clocksInARow_9 (by decide) (fun c1 => ?_) (fun c1 => ?_)
      · refine lv_iload hx hb dX0_clocksInARow_31 (lv_at hl 5 rfl) ?_
        refine lv_iload_n hx hb dX0_clocksInARow_33 rfl (lv_at hl 3 rfl) ?_
        refine xn_sub (i := i1) (j := a) hx hb (by omega) dX0_clocksInARow_34 ?_
        exact W.iret (v := (nI (i1 - a))) hx hb hr (fun t ht hW => ⟨_, rfl, by rw [hinv]; simp [wh, hai, hinv, c1], ht⟩) (fun q h => by cases h) dX0_clocksInARow_35
      · exfalso; omega
    | succ m1 ih =>
      intro i1 hm1 hai hinv ls hl
      refine lv_iload hx hb dX0_clocksInARow_3 (lv_at hl 5 rfl) ?_
      refine lv_aload_n hx hb dX0_clocksInARow_5 rfl (lv_at hl 0 rfl) ?_
      refine va_get (D := D) (ci := 0) (v := .int (nI (s_n S))) (C := RX0) (T := TX0) (N := 9) hx hb hts hin hown hK hP 0 rfl rfl 5 (by decide) f_26 (fun _ h9 => h9) rfl dX0_clocksInARow_6 ?_
      refine xn_ge (i := i1) (j := (s_n S)) (tgt := 31) hx hb (by omega) (by omega) dX0_clocksInARow_9 (by decide) (fun c2 => ?_) (fun c2 => ?_)
      · exfalso; omega
      · refine lv_aload_n hx hb dX0_clocksInARow_12 rfl (lv_at hl 0 rfl) ?_
        refine lv_iload_n hx hb dX0_clocksInARow_13 rfl (lv_at hl 1 rfl) ?_
        refine lv_iload_n hx hb dX0_clocksInARow_14 rfl (lv_at hl 2 rfl) ?_
        refine lv_iload hx hb dX0_clocksInARow_15 (lv_at hl 5 rfl) ?_
        refine lv_iload hx hb dX0_clocksInARow_17 (lv_at hl 4 rfl) ?_
        refine rc_V (v := (zi (hc S w sg i1 b))) ⟨hx, hb, hml, hown, hts⟩ [.int w, .int sg, .int (nI i1), .int (nI b)] [] (c_X0_holdsOfClocks l D A K S hI w sg i1 b (by omega) (by omega)) (cwV 4 hts gX0_clocksInARow_X0_holdsOfClocks rfl rfl rfl (by decide +kernel) ⟨Nat.le_of_ble_eq_true rfl, Nat.le_of_ble_eq_true rfl⟩) hK hP (va_recv hK hP (ci := 0) (q0 := 0) rfl rfl) rfl hl.1 rfl (Nat.le_of_ble_eq_true rfl) ⟨Nat.zero_le _, Nat.zero_le _⟩ dX0_clocksInARow_19 ?_
        refine xz_eq (b := (hc S w sg i1 b)) (tgt := 31) hx hb dX0_clocksInARow_22 (by decide) (fun c3 => ?_) (fun c3 => ?_)
        · refine lv_iload hx hb dX0_clocksInARow_31 (lv_at hl 5 rfl) ?_
          refine lv_iload_n hx hb dX0_clocksInARow_33 rfl (lv_at hl 3 rfl) ?_
          refine xn_sub (i := i1) (j := a) hx hb (by omega) dX0_clocksInARow_34 ?_
          exact W.iret (v := (nI (i1 - a))) hx hb hr (fun t ht hW => ⟨_, rfl, by rw [hinv]; simp [wh, hai, hinv, c2, c3], ht⟩) (fun q h => by cases h) dX0_clocksInARow_35
        · refine lv_iinc (v := (nI (i1 + 1))) (lv' := [(5, .int (nI (i1 + 1))), (0, .ref (A 0)), (1, .int w), (2, .int sg), (3, .int (nI a)), (4, .int (nI b))]) hx hb dX0_clocksInARow_25 hl (k := 5) rfl (nI_add i1 1) (by decide) rfl (fun ls hl => ?_)
          refine lv_goto (tgt := 3) hx hb dX0_clocksInARow_28 (by decide) ?_
          exact ih (i1 + 1) (by omega) (by omega) (by rw [hinv, wh]; simp [hai, hinv, c2, c3]) ls (lv_sub hl [1, 2, 3, 4, 5, 0] rfl)
  exact L3 (s_n S - a) a (by omega) (Nat.le_refl _) (rfl) ls (lv_sub hl [1, 2, 3, 4, 5, 0] rfl)
set_option maxHeartbeats 4000000 in
set_option maxRecDepth 100000 in
theorem c_X0_sealsOn (l : Launch) (D : va_G) (A : Nat → Nat) (K : Nat → ClassId) (S : XS) (hI : x_inv S) : Met l yX0_sealsOn wsX0_sealsOn (rmD 1) (va_Pc [.ref (A 0)] (i_w D vwCl (wX A K S) (tX K))) (vp_Si (fun r => r = (nI (cn (s_sl S) (s_n S))))) 0 0 (fun _ => False) := by
  refine Met.ofW (cc := cX0_sealsOn) (maxL := 3) (ret := some .int) (by decide) rfl ?_
  intro p e s m args below meth c s₁ B hml hv
  obtain ⟨rfl, hP, hK⟩ := hv
  have hx := B.exec
  have hb := B.bytes
  have hr := B.returns
  have hts := atoms_spec (ws := wsX0_sealsOn) B.pre
  have hown : s.vm.findClass RX0 = some m.cls := findClass_of_methodNamed B.named
  have hlocks := B.notSynchronized
  have hn8 := hI.1
  have hin : ∀ w ∈ u_ws RX0 TX0 9, w ∈ wsX0_sealsOn := fun w h => List.mem_cons_of_mem _ (List.mem_append_right _ h)
  have f_22 := hts (.fieldLink RX0 22 "ChronoTrials" "seals" "[Z") (by decide +kernel)
  have f_26 := hts (.fieldLink RX0 26 "ChronoTrials" "clocks" "I") (by decide +kernel)
  have hl := lv_entry ([.ref (A 0)]) (n := 3) (Nat.le_of_ble_eq_true rfl)
  rw [lg_entry_eq]
  generalize (lg_sl ([.ref (A 0)]) ++ List.replicate (3 - (lg_sl ([.ref (A 0)])).length) Slot.unset).toArray = ls at hl ⊢
  have hl : lv_has ls 3 [(0, .ref (A 0))] := hl
  refine lv_iconst (v := 0) hx hb dX0_sealsOn_0 (by decide) ?_
  refine lv_istore_n (lv' := [(1, .int 0), (0, .ref (A 0))]) hx hb dX0_sealsOn_1 rfl hl (by decide) rfl (fun ls hl => ?_)
  refine lv_iconst (v := 0) hx hb dX0_sealsOn_2 (by decide) ?_
  refine lv_istore_n (lv' := [(2, .int 0), (1, .int 0), (0, .ref (A 0))]) hx hb dX0_sealsOn_3 rfl hl (by decide) rfl (fun ls hl => ?_)
  have L4 : ∀ (m1 i1 : Nat) (acc : Nat), i1 + m1 = s_n S → acc = cn (s_sl S) i1 → ∀ (ls : Array Slot), lv_has ls 3 [(0, .ref (A 0)), (1, .int (nI acc)), (2, .int (nI i1))] → W p l e (headSpec wsX0_sealsOn (rmD 1)).room s m ([.ref (A 0)] : List Value).toArray below meth c s.heap [] 0 0 (MQ below (vp_Si (fun r => r = (nI (cn (s_sl S) (s_n S))))) ([.ref (A 0)] : List Value).toArray s 0 0 (fun _ => False)) (F0 m 4 ls []) := by
    intro m1
    induction m1 with
    | zero =>
      intro i1 acc hm1 hacc ls hl
      refine lv_iload_n hx hb dX0_sealsOn_4 rfl (lv_at hl 2 rfl) ?_
      refine lv_aload_n hx hb dX0_sealsOn_5 rfl (lv_at hl 0 rfl) ?_
      refine va_get (D := D) (ci := 0) (v := .int (nI (s_n S))) (C := RX0) (T := TX0) (N := 9) hx hb hts hin hown hK hP 0 rfl rfl 5 (by decide) f_26 (fun _ h9 => h9) rfl dX0_sealsOn_6 ?_
      refine xn_ge (i := i1) (j := (s_n S)) (tgt := 30) hx hb (by omega) (by omega) dX0_sealsOn_9 (by decide) (fun c1 => ?_) (fun c1 => ?_)
      · refine lv_iload_n hx hb dX0_sealsOn_30 rfl (lv_at hl 1 rfl) ?_
        exact W.iret (v := (nI acc)) hx hb hr (fun t ht hW => ⟨_, rfl, by rw [hacc, show i1 = s_n S by omega]; try rfl, ht⟩) (fun q h => by cases h) dX0_sealsOn_31
      · exfalso; omega
    | succ m1 ih =>
      intro i1 acc hm1 hacc ls hl
      refine lv_iload_n hx hb dX0_sealsOn_4 rfl (lv_at hl 2 rfl) ?_
      refine lv_aload_n hx hb dX0_sealsOn_5 rfl (lv_at hl 0 rfl) ?_
      refine va_get (D := D) (ci := 0) (v := .int (nI (s_n S))) (C := RX0) (T := TX0) (N := 9) hx hb hts hin hown hK hP 0 rfl rfl 5 (by decide) f_26 (fun _ h9 => h9) rfl dX0_sealsOn_6 ?_
      refine xn_ge (i := i1) (j := (s_n S)) (tgt := 30) hx hb (by omega) (by omega) dX0_sealsOn_9 (by decide) (fun c2 => ?_) (fun c2 => ?_)
      · exfalso; omega
      · refine lv_iload_n hx hb dX0_sealsOn_12 rfl (lv_at hl 1 rfl) ?_
        refine lv_aload_n hx hb dX0_sealsOn_13 rfl (lv_at hl 0 rfl) ?_
        refine va_get (D := D) (ci := 0) (v := .ref (A 5)) (C := RX0) (T := TX0) (N := 9) hx hb hts hin hown hK hP 0 rfl rfl 4 (by decide) f_22 (fun _ h9 => h9) rfl dX0_sealsOn_14 ?_
        refine lv_iload_n hx hb dX0_sealsOn_17 rfl (lv_at hl 2 rfl) ?_
        refine xa_zld (i := i1) (v := (zi ((s_sl S) i1))) hx hb hK hP 5 4 rfl rfl (by omega) (by decide) (rfl) dX0_sealsOn_18 ?_
        refine rc_S (v := (zi ((s_sl S) i1))) ⟨hx, hb, hml, hown, hts⟩ [.int (zi ((s_sl S) i1))] [.int (nI acc)] (c_X0_oneIf l ((s_sl S) i1)) (va_cwS 1 hts gX0_sealsOn_X0_oneIf rfl rfl rfl (by decide +kernel) ⟨Nat.le_of_ble_eq_true rfl, Nat.le_of_ble_eq_true rfl⟩) rfl hl.1 rfl (Nat.le_of_ble_eq_true rfl) ⟨Nat.zero_le _, Nat.zero_le _⟩ dX0_sealsOn_19 ?_
        refine xz_add (i := acc) (b := ((s_sl S) i1)) hx hb dX0_sealsOn_22 ?_
        refine lv_istore_n (lv' := [(1, .int (nI (acc + b2 ((s_sl S) i1) 1))), (0, .ref (A 0)), (2, .int (nI i1))]) hx hb dX0_sealsOn_23 rfl hl (by decide) rfl (fun ls hl => ?_)
        refine lv_iinc (v := (nI (i1 + 1))) (lv' := [(2, .int (nI (i1 + 1))), (1, .int (nI (acc + b2 ((s_sl S) i1) 1))), (0, .ref (A 0))]) hx hb dX0_sealsOn_24 hl (k := 2) rfl (nI_add i1 1) (by decide) rfl (fun ls hl => ?_)
        refine lv_goto (tgt := 4) hx hb dX0_sealsOn_27 (by decide) ?_
        exact ih (i1 + 1) (acc + b2 ((s_sl S) i1) 1) (by omega) (by simp [cn, b2, hacc, c2]) ls (lv_sub hl [2, 1, 0] rfl)
  exact L4 (s_n S) 0 0 (by omega) (rfl) ls (lv_sub hl [2, 1, 0] rfl)
set_option maxHeartbeats 4000000 in
set_option maxRecDepth 100000 in
theorem c_X0_trialsOfAll (l : Launch) (D : va_G) (A : Nat → Nat) (K : Nat → ClassId) (S : XS) (hI : x_inv S) : Met l yX0_trialsOfAll wsX0_trialsOfAll (rmD 0) (va_Pc [.ref (A 0)] (i_w D vwCl (wX A K S) (tX K))) (vp_Si (fun r => r = (nI (sm (s_tr S) (s_n S))))) 0 0 (fun _ => False) := by
  refine Met.ofW (cc := cX0_trialsOfAll) (maxL := 3) (ret := some .int) (by decide) rfl ?_
  intro p e s m args below meth c s₁ B hml hv
  obtain ⟨rfl, hP, hK⟩ := hv
  have hx := B.exec
  have hb := B.bytes
  have hr := B.returns
  have hts := atoms_spec (ws := wsX0_trialsOfAll) B.pre
  have hown : s.vm.findClass RX0 = some m.cls := findClass_of_methodNamed B.named
  have hlocks := B.notSynchronized
  have hn8 := hI.1
  have hin : ∀ w ∈ u_ws RX0 TX0 9, w ∈ wsX0_trialsOfAll := fun w h => List.mem_cons_of_mem _ (List.mem_append_right _ h)
  have f_16 := hts (.fieldLink RX0 16 "ChronoTrials" "trialsOf" "[I") (by decide +kernel)
  have f_26 := hts (.fieldLink RX0 26 "ChronoTrials" "clocks" "I") (by decide +kernel)
  have hl := lv_entry ([.ref (A 0)]) (n := 3) (Nat.le_of_ble_eq_true rfl)
  rw [lg_entry_eq]
  generalize (lg_sl ([.ref (A 0)]) ++ List.replicate (3 - (lg_sl ([.ref (A 0)])).length) Slot.unset).toArray = ls at hl ⊢
  have hl : lv_has ls 3 [(0, .ref (A 0))] := hl
  refine lv_iconst (v := 0) hx hb dX0_trialsOfAll_0 (by decide) ?_
  refine lv_istore_n (lv' := [(1, .int 0), (0, .ref (A 0))]) hx hb dX0_trialsOfAll_1 rfl hl (by decide) rfl (fun ls hl => ?_)
  refine lv_iconst (v := 0) hx hb dX0_trialsOfAll_2 (by decide) ?_
  refine lv_istore_n (lv' := [(2, .int 0), (1, .int 0), (0, .ref (A 0))]) hx hb dX0_trialsOfAll_3 rfl hl (by decide) rfl (fun ls hl => ?_)
  have L4 : ∀ (m1 i1 : Nat) (acc : Nat), i1 + m1 = s_n S → acc = sm (s_tr S) i1 → ∀ (ls : Array Slot), lv_has ls 3 [(0, .ref (A 0)), (1, .int (nI acc)), (2, .int (nI i1))] → W p l e (headSpec wsX0_trialsOfAll (rmD 0)).room s m ([.ref (A 0)] : List Value).toArray below meth c s.heap [] 0 0 (MQ below (vp_Si (fun r => r = (nI (sm (s_tr S) (s_n S))))) ([.ref (A 0)] : List Value).toArray s 0 0 (fun _ => False)) (F0 m 4 ls []) := by
    intro m1
    induction m1 with
    | zero =>
      intro i1 acc hm1 hacc ls hl
      refine lv_iload_n hx hb dX0_trialsOfAll_4 rfl (lv_at hl 2 rfl) ?_
      refine lv_aload_n hx hb dX0_trialsOfAll_5 rfl (lv_at hl 0 rfl) ?_
      refine va_get (D := D) (ci := 0) (v := .int (nI (s_n S))) (C := RX0) (T := TX0) (N := 9) hx hb hts hin hown hK hP 0 rfl rfl 5 (by decide) f_26 (fun _ h9 => h9) rfl dX0_trialsOfAll_6 ?_
      refine xn_ge (i := i1) (j := (s_n S)) (tgt := 27) hx hb (by omega) (by omega) dX0_trialsOfAll_9 (by decide) (fun c1 => ?_) (fun c1 => ?_)
      · refine lv_iload_n hx hb dX0_trialsOfAll_27 rfl (lv_at hl 1 rfl) ?_
        exact W.iret (v := (nI acc)) hx hb hr (fun t ht hW => ⟨_, rfl, by rw [hacc, show i1 = s_n S by omega]; try rfl, ht⟩) (fun q h => by cases h) dX0_trialsOfAll_28
      · exfalso; omega
    | succ m1 ih =>
      intro i1 acc hm1 hacc ls hl
      refine lv_iload_n hx hb dX0_trialsOfAll_4 rfl (lv_at hl 2 rfl) ?_
      refine lv_aload_n hx hb dX0_trialsOfAll_5 rfl (lv_at hl 0 rfl) ?_
      refine va_get (D := D) (ci := 0) (v := .int (nI (s_n S))) (C := RX0) (T := TX0) (N := 9) hx hb hts hin hown hK hP 0 rfl rfl 5 (by decide) f_26 (fun _ h9 => h9) rfl dX0_trialsOfAll_6 ?_
      refine xn_ge (i := i1) (j := (s_n S)) (tgt := 27) hx hb (by omega) (by omega) dX0_trialsOfAll_9 (by decide) (fun c2 => ?_) (fun c2 => ?_)
      · exfalso; omega
      · refine lv_iload_n hx hb dX0_trialsOfAll_12 rfl (lv_at hl 1 rfl) ?_
        refine lv_aload_n hx hb dX0_trialsOfAll_13 rfl (lv_at hl 0 rfl) ?_
        refine va_get (D := D) (ci := 0) (v := .ref (A 3)) (C := RX0) (T := TX0) (N := 9) hx hb hts hin hown hK hP 0 rfl rfl 2 (by decide) f_16 (fun _ h9 => h9) rfl dX0_trialsOfAll_14 ?_
        refine lv_iload_n hx hb dX0_trialsOfAll_17 rfl (lv_at hl 2 rfl) ?_
        refine xa_ld (i := i1) (v := (nI ((s_tr S) i1))) hx hb hK hP 3 2 rfl rfl (by omega) (by decide) (rfl) dX0_trialsOfAll_18 ?_
        refine xn_add (i := acc) (j := ((s_tr S) i1)) hx hb dX0_trialsOfAll_19 ?_
        refine lv_istore_n (lv' := [(1, .int (nI (acc + ((s_tr S) i1)))), (0, .ref (A 0)), (2, .int (nI i1))]) hx hb dX0_trialsOfAll_20 rfl hl (by decide) rfl (fun ls hl => ?_)
        refine lv_iinc (v := (nI (i1 + 1))) (lv' := [(2, .int (nI (i1 + 1))), (1, .int (nI (acc + ((s_tr S) i1)))), (0, .ref (A 0))]) hx hb dX0_trialsOfAll_21 hl (k := 2) rfl (nI_add i1 1) (by decide) rfl (fun ls hl => ?_)
        refine lv_goto (tgt := 4) hx hb dX0_trialsOfAll_24 (by decide) ?_
        exact ih (i1 + 1) (acc + ((s_tr S) i1)) (by omega) (by simp [sm, hacc, c2]) ls (lv_sub hl [2, 1, 0] rfl)
  exact L4 (s_n S) 0 0 (by omega) (rfl) ls (lv_sub hl [2, 1, 0] rfl)
set_option maxHeartbeats 4000000 in
set_option maxRecDepth 100000 in
theorem c_X0_firstOfTheBest (l : Launch) (D : va_G) (A : Nat → Nat) (K : Nat → ClassId) (S : XS) (hI : x_inv S) : Met l yX0_firstOfTheBest wsX0_firstOfTheBest (rmD 3) (va_Pc [.ref (A 0)] (i_w D vwCl (wX A K S) (tX K))) (vp_Si (fun r => r = (x_first S))) 0 0 (fun _ => False) := by
  refine Met.ofW (cc := cX0_firstOfTheBest) (maxL := 4) (ret := some .int) (by decide) rfl ?_
  intro p e s m args below meth c s₁ B hml hv
  obtain ⟨rfl, hP, hK⟩ := hv
  have hx := B.exec
  have hb := B.bytes
  have hr := B.returns
  have hts := atoms_spec (ws := wsX0_firstOfTheBest) B.pre
  have hown : s.vm.findClass RX0 = some m.cls := findClass_of_methodNamed B.named
  have hlocks := B.notSynchronized
  have hn8 := hI.1
  have hin : ∀ w ∈ u_ws RX0 TX0 9, w ∈ wsX0_firstOfTheBest := fun w h => List.mem_cons_of_mem _ (List.mem_append_right _ h)
  have f_19 := hts (.fieldLink RX0 19 "ChronoTrials" "bests" "[I") (by decide +kernel)
  have f_26 := hts (.fieldLink RX0 26 "ChronoTrials" "clocks" "I") (by decide +kernel)
  have hl := lv_entry ([.ref (A 0)]) (n := 4) (Nat.le_of_ble_eq_true rfl)
  rw [lg_entry_eq]
  generalize (lg_sl ([.ref (A 0)]) ++ List.replicate (4 - (lg_sl ([.ref (A 0)])).length) Slot.unset).toArray = ls at hl ⊢
  have hl : lv_has ls 4 [(0, .ref (A 0))] := hl
  refine lv_iconst (v := (-1)) hx hb dX0_firstOfTheBest_0 (by decide) ?_
  refine lv_istore_n (lv' := [(1, .int (-1)), (0, .ref (A 0))]) hx hb dX0_firstOfTheBest_1 rfl hl (by decide) rfl (fun ls hl => ?_)
  refine lv_iconst (v := (-1)) hx hb dX0_firstOfTheBest_2 (by decide) ?_
  refine lv_istore_n (lv' := [(2, .int (-1)), (1, .int (-1)), (0, .ref (A 0))]) hx hb dX0_firstOfTheBest_3 rfl hl (by decide) rfl (fun ls hl => ?_)
  refine lv_iconst (v := 0) hx hb dX0_firstOfTheBest_4 (by decide) ?_
  refine lv_istore_n (lv' := [(3, .int 0), (2, .int (-1)), (1, .int (-1)), (0, .ref (A 0))]) hx hb dX0_firstOfTheBest_5 rfl hl (by decide) rfl (fun ls hl => ?_)
  have L6 : ∀ (m1 i1 : Nat) (fi : Int32) (le : Int32), i1 + m1 = s_n S → fbl (s_bs S) i1 = (fi, le) → ∀ (ls : Array Slot), lv_has ls 4 [(0, .ref (A 0)), (1, .int fi), (2, .int le), (3, .int (nI i1))] → W p l e (headSpec wsX0_firstOfTheBest (rmD 3)).room s m ([.ref (A 0)] : List Value).toArray below meth c s.heap [] 0 0 (MQ below (vp_Si (fun r => r = (x_first S))) ([.ref (A 0)] : List Value).toArray s 0 0 (fun _ => False)) (F0 m 6 ls []) := by
    intro m1
    induction m1 with
    | zero =>
      intro i1 fi le hm1 hacc ls hl
      refine lv_iload_n hx hb dX0_firstOfTheBest_6 rfl (lv_at hl 3 rfl) ?_
      refine lv_aload_n hx hb dX0_firstOfTheBest_7 rfl (lv_at hl 0 rfl) ?_
      refine va_get (D := D) (ci := 0) (v := .int (nI (s_n S))) (C := RX0) (T := TX0) (N := 9) hx hb hts hin hown hK hP 0 rfl rfl 5 (by decide) f_26 (fun _ h9 => h9) rfl dX0_firstOfTheBest_8 ?_
      refine xn_ge (i := i1) (j := (s_n S)) (tgt := 42) hx hb (by omega) (by omega) dX0_firstOfTheBest_11 (by decide) (fun c1 => ?_) (fun c1 => ?_)
      · refine lv_iload_n hx hb dX0_firstOfTheBest_42 rfl (lv_at hl 1 rfl) ?_
        exact W.iret (v := fi) hx hb hr (fun t ht hW => ⟨_, rfl, by rw [x_first, show s_n S = i1 by omega, hacc], ht⟩) (fun q h => by cases h) dX0_firstOfTheBest_43
      · exfalso; omega
    | succ m1 ih =>
      intro i1 fi le hm1 hacc ls hl
      refine lv_iload_n hx hb dX0_firstOfTheBest_6 rfl (lv_at hl 3 rfl) ?_
      refine lv_aload_n hx hb dX0_firstOfTheBest_7 rfl (lv_at hl 0 rfl) ?_
      refine va_get (D := D) (ci := 0) (v := .int (nI (s_n S))) (C := RX0) (T := TX0) (N := 9) hx hb hts hin hown hK hP 0 rfl rfl 5 (by decide) f_26 (fun _ h9 => h9) rfl dX0_firstOfTheBest_8 ?_
      refine xn_ge (i := i1) (j := (s_n S)) (tgt := 42) hx hb (by omega) (by omega) dX0_firstOfTheBest_11 (by decide) (fun c2 => ?_) (fun c2 => ?_)
      · exfalso; omega
      · refine lv_aload_n hx hb dX0_firstOfTheBest_14 rfl (lv_at hl 0 rfl) ?_
        refine va_get (D := D) (ci := 0) (v := .ref (A 4)) (C := RX0) (T := TX0) (N := 9) hx hb hts hin hown hK hP 0 rfl rfl 3 (by decide) f_19 (fun _ h9 => h9) rfl dX0_firstOfTheBest_15 ?_
        refine lv_iload_n hx hb dX0_firstOfTheBest_18 rfl (lv_at hl 3 rfl) ?_
        refine xa_ld (i := i1) (v := ((s_bs S) i1)) hx hb hK hP 4 3 rfl rfl (by omega) (by decide) (rfl) dX0_firstOfTheBest_19 ?_
        refine lv_iload_n hx hb dX0_firstOfTheBest_20 rfl (lv_at hl 2 rfl) ?_
        refine rc_S (v := (zi (be ((s_bs S) i1) le))) ⟨hx, hb, hml, hown, hts⟩ [.int ((s_bs S) i1), .int le] [] (c_X0_betters l ((s_bs S) i1) le) (va_cwS 2 hts gX0_firstOfTheBest_X0_betters rfl rfl rfl (by decide +kernel) ⟨Nat.le_of_ble_eq_true rfl, Nat.le_of_ble_eq_true rfl⟩) rfl hl.1 rfl (Nat.le_of_ble_eq_true rfl) ⟨Nat.zero_le _, Nat.zero_le _⟩ dX0_firstOfTheBest_21 ?_
        refine xz_eq (b := (be ((s_bs S) i1) le)) (tgt := 36) hx hb dX0_firstOfTheBest_24 (by decide) (fun c3 => ?_) (fun c3 => ?_)
        · refine lv_iinc (v := (nI (i1 + 1))) (lv' := [(3, .int (nI (i1 + 1))), (0, .ref (A 0)), (1, .int fi), (2, .int le)]) hx hb dX0_firstOfTheBest_36 hl (k := 3) rfl (nI_add i1 1) (by decide) rfl (fun ls hl => ?_)
          refine lv_goto (tgt := 6) hx hb dX0_firstOfTheBest_39 (by decide) ?_
          exact ih (i1 + 1) fi le (by omega) (by rw [fbl, hacc]; simp [hacc, c2, c3]) ls (lv_sub hl [1, 2, 3, 0] rfl)
        · refine lv_iload_n hx hb dX0_firstOfTheBest_27 rfl (lv_at hl 3 rfl) ?_
          refine lv_istore_n (lv' := [(1, .int (nI i1)), (0, .ref (A 0)), (2, .int le), (3, .int (nI i1))]) hx hb dX0_firstOfTheBest_28 rfl hl (by decide) rfl (fun ls hl => ?_)
          refine lv_aload_n hx hb dX0_firstOfTheBest_29 rfl (lv_at hl 1 rfl) ?_
          refine va_get (D := D) (ci := 0) (v := .ref (A 4)) (C := RX0) (T := TX0) (N := 9) hx hb hts hin hown hK hP 0 rfl rfl 3 (by decide) f_19 (fun _ h9 => h9) rfl dX0_firstOfTheBest_30 ?_
          refine lv_iload_n hx hb dX0_firstOfTheBest_33 rfl (lv_at hl 3 rfl) ?_
          refine xa_ld (i := i1) (v := ((s_bs S) i1)) hx hb hK hP 4 3 rfl rfl (by omega) (by decide) (rfl) dX0_firstOfTheBest_34 ?_
          refine lv_istore_n (lv' := [(2, .int ((s_bs S) i1)), (1, .int (nI i1)), (0, .ref (A 0)), (3, .int (nI i1))]) hx hb dX0_firstOfTheBest_35 rfl hl (by decide) rfl (fun ls hl => ?_)
          refine lv_iinc (v := (nI (i1 + 1))) (lv' := [(3, .int (nI (i1 + 1))), (2, .int ((s_bs S) i1)), (1, .int (nI i1)), (0, .ref (A 0))]) hx hb dX0_firstOfTheBest_36 hl (k := 3) rfl (nI_add i1 1) (by decide) rfl (fun ls hl => ?_)
          refine lv_goto (tgt := 6) hx hb dX0_firstOfTheBest_39 (by decide) ?_
          exact ih (i1 + 1) (nI i1) ((s_bs S) i1) (by omega) (by rw [fbl, hacc]; simp [hacc, c2, c3]) ls (lv_sub hl [3, 2, 1, 0] rfl)
  exact L6 (s_n S) 0 (-1) (-1) (by omega) (rfl) ls (lv_sub hl [3, 2, 1, 0] rfl)
