set_option maxHeartbeats 4000000 in
set_option maxRecDepth 100000 in
theorem c_X1_ahead (l : Launch) (D : va_G) (A : Nat → Nat) (K : Nat → ClassId) (S : XS) (hI : x_inv S) (a : Nat) (ha : a < 8) : Met l yX1_ahead wsX1_ahead (rmD 3) (va_Pc [.ref (A 0), .int (nI a)] (i_w D vwCl (wM A K S) (tM K))) (vp_Si (fun r => r = (nI (m_ahead S a)))) 0 0 (fun _ => False) := by
  refine Met.ofW (cc := cX1_ahead) (maxL := 4) (ret := some .int) (by decide) rfl ?_
  intro p e s m args below meth c s₁ B hml hv
  obtain ⟨rfl, hP, hK⟩ := hv
  have hx := B.exec
  have hb := B.bytes
  have hr := B.returns
  have hts := atoms_spec (ws := wsX1_ahead) B.pre
  have hown : s.vm.findClass RX1 = some m.cls := findClass_of_methodNamed B.named
  have hlocks := B.notSynchronized
  have hn8 := hI.1
  have hin : ∀ w ∈ u_ws RX1 TX1 9, w ∈ wsX1_ahead := fun w h => List.mem_cons_of_mem _ (List.mem_append_right _ h)
  have f_35 := hts (.fieldLink RX1 35 "ChronoTrialsModel" "clocks" "I") (by decide +kernel)
  have hl := lv_entry ([.ref (A 0), .int (nI a)]) (n := 4) (Nat.le_of_ble_eq_true rfl)
  rw [lg_entry_eq]
  generalize (lg_sl ([.ref (A 0), .int (nI a)]) ++ List.replicate (4 - (lg_sl ([.ref (A 0), .int (nI a)])).length) Slot.unset).toArray = ls at hl ⊢
  have hl : lv_has ls 4 [(0, .ref (A 0)), (1, .int (nI a))] := hl
  refine lv_iconst (v := 0) hx hb dX1_ahead_0 (by decide) ?_
  refine lv_istore_n (lv' := [(2, .int 0), (0, .ref (A 0)), (1, .int (nI a))]) hx hb dX1_ahead_1 rfl hl (by decide) rfl (fun ls hl => ?_)
  refine lv_iconst (v := 0) hx hb dX1_ahead_2 (by decide) ?_
  refine lv_istore_n (lv' := [(3, .int 0), (2, .int 0), (0, .ref (A 0)), (1, .int (nI a))]) hx hb dX1_ahead_3 rfl hl (by decide) rfl (fun ls hl => ?_)
  have L4 : ∀ (m1 i1 : Nat) (acc : Nat), i1 + m1 = s_n S → acc = cn (fun k => !decide (k = a) && ga S k a) i1 → ∀ (ls : Array Slot), lv_has ls 4 [(0, .ref (A 0)), (1, .int (nI a)), (2, .int (nI acc)), (3, .int (nI i1))] → W p l e (headSpec wsX1_ahead (rmD 3)).room s m ([.ref (A 0), .int (nI a)] : List Value).toArray below meth c s.heap [] 0 0 (MQ below (vp_Si (fun r => r = (nI (m_ahead S a)))) ([.ref (A 0), .int (nI a)] : List Value).toArray s 0 0 (fun _ => False)) (F0 m 4 ls []) := by
    intro m1
    induction m1 with
    | zero =>
      intro i1 acc hm1 hacc ls hl
      refine lv_iload_n hx hb dX1_ahead_4 rfl (lv_at hl 3 rfl) ?_
      refine lv_aload_n hx hb dX1_ahead_5 rfl (lv_at hl 0 rfl) ?_
      refine va_get (D := D) (ci := 1) (v := .int (nI (s_n S))) (C := RX1) (T := TX1) (N := 9) hx hb hts hin hown hK hP 0 rfl rfl 0 (by decide) f_35 (fun _ h9 => h9) rfl dX1_ahead_6 ?_
      refine xn_ge (i := i1) (j := (s_n S)) (tgt := 40) hx hb (by omega) (by omega) dX1_ahead_9 (by decide) (fun c1 => ?_) (fun c1 => ?_)
      · refine lv_iload_n hx hb dX1_ahead_40 rfl (lv_at hl 2 rfl) ?_
        exact W.iret (v := (nI acc)) hx hb hr (fun t ht hW => ⟨_, rfl, by rw [hacc, show i1 = s_n S by omega]; try rfl, ht⟩) (fun q h => by cases h) dX1_ahead_41
      · exfalso; omega
    | succ m1 ih =>
      intro i1 acc hm1 hacc ls hl
      refine lv_iload_n hx hb dX1_ahead_4 rfl (lv_at hl 3 rfl) ?_
      refine lv_aload_n hx hb dX1_ahead_5 rfl (lv_at hl 0 rfl) ?_
      refine va_get (D := D) (ci := 1) (v := .int (nI (s_n S))) (C := RX1) (T := TX1) (N := 9) hx hb hts hin hown hK hP 0 rfl rfl 0 (by decide) f_35 (fun _ h9 => h9) rfl dX1_ahead_6 ?_
      refine xn_ge (i := i1) (j := (s_n S)) (tgt := 40) hx hb (by omega) (by omega) dX1_ahead_9 (by decide) (fun c2 => ?_) (fun c2 => ?_)
      · exfalso; omega
      · refine lv_iload_n hx hb dX1_ahead_12 rfl (lv_at hl 2 rfl) ?_
        refine lv_iload_n hx hb dX1_ahead_13 rfl (lv_at hl 3 rfl) ?_
        refine lv_iload_n hx hb dX1_ahead_14 rfl (lv_at hl 1 rfl) ?_
        refine xn_eq (i := i1) (j := a) (tgt := 31) hx hb (by omega) (by omega) dX1_ahead_15 (by decide) (fun c3 => ?_) (fun c3 => ?_)
        · refine lv_iconst (v := 0) hx hb dX1_ahead_31 (by decide) ?_
          refine xn_add (i := acc) (j := 0) hx hb dX1_ahead_32 ?_
          refine lv_istore_n (lv' := [(2, .int (nI (acc + 0))), (0, .ref (A 0)), (1, .int (nI a)), (3, .int (nI i1))]) hx hb dX1_ahead_33 rfl hl (by decide) rfl (fun ls hl => ?_)
          refine lv_iinc (v := (nI (i1 + 1))) (lv' := [(3, .int (nI (i1 + 1))), (2, .int (nI (acc + 0))), (0, .ref (A 0)), (1, .int (nI a))]) hx hb dX1_ahead_34 hl (k := 3) rfl (nI_add i1 1) (by decide) rfl (fun ls hl => ?_)
          refine lv_goto (tgt := 4) hx hb dX1_ahead_37 (by decide) ?_
          exact ih (i1 + 1) (acc + 0) (by omega) (by simp [cn, b2, hacc, c2, c3]) ls (lv_sub hl [2, 3, 1, 0] rfl)
        · refine lv_aload_n hx hb dX1_ahead_18 rfl (lv_at hl 0 rfl) ?_
          refine lv_iload_n hx hb dX1_ahead_19 rfl (lv_at hl 3 rfl) ?_
          refine lv_iload_n hx hb dX1_ahead_20 rfl (lv_at hl 1 rfl) ?_
          refine rc_V (v := (zi (ga S i1 a))) ⟨hx, hb, hml, hown, hts⟩ [.int (nI i1), .int (nI a)] [.int (nI acc)] (c_X1_isAhead l D A K S hI i1 a (by omega) (by omega)) (cwV 2 hts gX1_ahead_X1_isAhead rfl rfl rfl (by decide +kernel) ⟨Nat.le_of_ble_eq_true rfl, Nat.le_of_ble_eq_true rfl⟩) hK hP (va_recv hK hP (ci := 1) (q0 := 0) rfl rfl) rfl hl.1 rfl (Nat.le_of_ble_eq_true rfl) ⟨Nat.zero_le _, Nat.zero_le _⟩ dX1_ahead_21 ?_
          refine xz_eq (b := (ga S i1 a)) (tgt := 31) hx hb dX1_ahead_24 (by decide) (fun c4 => ?_) (fun c4 => ?_)
          · refine lv_iconst (v := 0) hx hb dX1_ahead_31 (by decide) ?_
            refine xn_add (i := acc) (j := 0) hx hb dX1_ahead_32 ?_
            refine lv_istore_n (lv' := [(2, .int (nI (acc + 0))), (0, .ref (A 0)), (1, .int (nI a)), (3, .int (nI i1))]) hx hb dX1_ahead_33 rfl hl (by decide) rfl (fun ls hl => ?_)
            refine lv_iinc (v := (nI (i1 + 1))) (lv' := [(3, .int (nI (i1 + 1))), (2, .int (nI (acc + 0))), (0, .ref (A 0)), (1, .int (nI a))]) hx hb dX1_ahead_34 hl (k := 3) rfl (nI_add i1 1) (by decide) rfl (fun ls hl => ?_)
            refine lv_goto (tgt := 4) hx hb dX1_ahead_37 (by decide) ?_
            exact ih (i1 + 1) (acc + 0) (by omega) (by simp [cn, b2, hacc, c2, c3, c4]) ls (lv_sub hl [2, 3, 1, 0] rfl)
          · refine lv_iconst (v := 1) hx hb dX1_ahead_27 (by decide) ?_
            refine lv_goto (tgt := 32) hx hb dX1_ahead_28 (by decide) ?_
            refine xn_add (i := acc) (j := 1) hx hb dX1_ahead_32 ?_
            refine lv_istore_n (lv' := [(2, .int (nI (acc + 1))), (0, .ref (A 0)), (1, .int (nI a)), (3, .int (nI i1))]) hx hb dX1_ahead_33 rfl hl (by decide) rfl (fun ls hl => ?_)
            refine lv_iinc (v := (nI (i1 + 1))) (lv' := [(3, .int (nI (i1 + 1))), (2, .int (nI (acc + 1))), (0, .ref (A 0)), (1, .int (nI a))]) hx hb dX1_ahead_34 hl (k := 3) rfl (nI_add i1 1) (by decide) rfl (fun ls hl => ?_)
            refine lv_goto (tgt := 4) hx hb dX1_ahead_37 (by decide) ?_
            exact ih (i1 + 1) (acc + 1) (by omega) (by simp [cn, b2, hacc, c2, c3, c4]) ls (lv_sub hl [2, 3, 1, 0] rfl)
  exact L4 (s_n S) 0 0 (by omega) (rfl) ls (lv_sub hl [2, 3, 1, 0] rfl)
set_option maxHeartbeats 4000000 in
set_option maxRecDepth 100000 in
theorem c_X1_place (l : Launch) (D : va_G) (A : Nat → Nat) (K : Nat → ClassId) (S : XS) (hI : x_inv S) (v : Int32) : Met l yX1_place wsX1_place (rmD 4) (va_Pc [.ref (A 0), .int v] (i_w D vwCl (wM A K S) (tM K))) (vp_Si (fun r => r = (m_place S v))) 0 0 (fun _ => False) := by
  refine Met.ofW (cc := cX1_place) (maxL := 4) (ret := some .int) (by decide) rfl ?_
  intro p e s m args below meth c s₁ B hml hv
  obtain ⟨rfl, hP, hK⟩ := hv
  have hx := B.exec
  have hb := B.bytes
  have hr := B.returns
  have hts := atoms_spec (ws := wsX1_place) B.pre
  have hown : s.vm.findClass RX1 = some m.cls := findClass_of_methodNamed B.named
  have hlocks := B.notSynchronized
  have hn8 := hI.1
  have hin : ∀ w ∈ u_ws RX1 TX1 9, w ∈ wsX1_place := fun w h => List.mem_cons_of_mem _ (List.mem_append_right _ h)
  have f_35 := hts (.fieldLink RX1 35 "ChronoTrialsModel" "clocks" "I") (by decide +kernel)
  have hl := lv_entry ([.ref (A 0), .int v]) (n := 4) (Nat.le_of_ble_eq_true rfl)
  rw [lg_entry_eq]
  generalize (lg_sl ([.ref (A 0), .int v]) ++ List.replicate (4 - (lg_sl ([.ref (A 0), .int v])).length) Slot.unset).toArray = ls at hl ⊢
  have hl : lv_has ls 4 [(0, .ref (A 0)), (1, .int v)] := hl
  refine lv_iconst (v := (-1)) hx hb dX1_place_0 (by decide) ?_
  refine lv_istore_n (lv' := [(2, .int (-1)), (0, .ref (A 0)), (1, .int v)]) hx hb dX1_place_1 rfl hl (by decide) rfl (fun ls hl => ?_)
  refine lv_iconst (v := 0) hx hb dX1_place_2 (by decide) ?_
  refine lv_istore_n (lv' := [(3, .int 0), (2, .int (-1)), (0, .ref (A 0)), (1, .int v)]) hx hb dX1_place_3 rfl hl (by decide) rfl (fun ls hl => ?_)
  have L4 : ∀ (m1 i1 : Nat) (acc : Int32), i1 + m1 = s_n S → acc = lf (fun c => decide (nI (m_ahead S c) = v)) i1 → ∀ (ls : Array Slot), lv_has ls 4 [(0, .ref (A 0)), (1, .int v), (2, .int acc), (3, .int (nI i1))] → W p l e (headSpec wsX1_place (rmD 4)).room s m ([.ref (A 0), .int v] : List Value).toArray below meth c s.heap [] 0 0 (MQ below (vp_Si (fun r => r = (m_place S v))) ([.ref (A 0), .int v] : List Value).toArray s 0 0 (fun _ => False)) (F0 m 4 ls []) := by
    intro m1
    induction m1 with
    | zero =>
      intro i1 acc hm1 hacc ls hl
      refine lv_iload_n hx hb dX1_place_4 rfl (lv_at hl 3 rfl) ?_
      refine lv_aload_n hx hb dX1_place_5 rfl (lv_at hl 0 rfl) ?_
      refine va_get (D := D) (ci := 1) (v := .int (nI (s_n S))) (C := RX1) (T := TX1) (N := 9) hx hb hts hin hown hK hP 0 rfl rfl 0 (by decide) f_35 (fun _ h9 => h9) rfl dX1_place_6 ?_
      refine xn_ge (i := i1) (j := (s_n S)) (tgt := 33) hx hb (by omega) (by omega) dX1_place_9 (by decide) (fun c1 => ?_) (fun c1 => ?_)
      · refine lv_iload_n hx hb dX1_place_33 rfl (lv_at hl 2 rfl) ?_
        exact W.iret (v := acc) hx hb hr (fun t ht hW => ⟨_, rfl, by rw [hacc, show i1 = s_n S by omega]; try rfl, ht⟩) (fun q h => by cases h) dX1_place_34
      · exfalso; omega
    | succ m1 ih =>
      intro i1 acc hm1 hacc ls hl
      refine lv_iload_n hx hb dX1_place_4 rfl (lv_at hl 3 rfl) ?_
      refine lv_aload_n hx hb dX1_place_5 rfl (lv_at hl 0 rfl) ?_
      refine va_get (D := D) (ci := 1) (v := .int (nI (s_n S))) (C := RX1) (T := TX1) (N := 9) hx hb hts hin hown hK hP 0 rfl rfl 0 (by decide) f_35 (fun _ h9 => h9) rfl dX1_place_6 ?_
      refine xn_ge (i := i1) (j := (s_n S)) (tgt := 33) hx hb (by omega) (by omega) dX1_place_9 (by decide) (fun c2 => ?_) (fun c2 => ?_)
      · exfalso; omega
      · refine lv_aload_n hx hb dX1_place_12 rfl (lv_at hl 0 rfl) ?_
        refine lv_iload_n hx hb dX1_place_13 rfl (lv_at hl 3 rfl) ?_
        refine rc_V (v := (nI (m_ahead S i1))) ⟨hx, hb, hml, hown, hts⟩ [.int (nI i1)] [] (c_X1_ahead l D A K S hI i1 (by omega)) (cwV 1 hts gX1_place_X1_ahead rfl rfl rfl (by decide +kernel) ⟨Nat.le_of_ble_eq_true rfl, Nat.le_of_ble_eq_true rfl⟩) hK hP (va_recv hK hP (ci := 1) (q0 := 0) rfl rfl) rfl hl.1 rfl (Nat.le_of_ble_eq_true rfl) ⟨Nat.zero_le _, Nat.zero_le _⟩ dX1_place_14 ?_
        refine lv_iload_n hx hb dX1_place_17 rfl (lv_at hl 1 rfl) ?_
        refine lv_icmp_ne (tgt := 25) hx hb dX1_place_18 (by decide) (fun c3 => ?_) (fun c3 => ?_)
        · refine lv_iload_n hx hb dX1_place_25 rfl (lv_at hl 2 rfl) ?_
          refine lv_istore_n (lv' := [(2, .int acc), (0, .ref (A 0)), (1, .int v), (3, .int (nI i1))]) hx hb dX1_place_26 rfl hl (by decide) rfl (fun ls hl => ?_)
          refine lv_iinc (v := (nI (i1 + 1))) (lv' := [(3, .int (nI (i1 + 1))), (2, .int acc), (0, .ref (A 0)), (1, .int v)]) hx hb dX1_place_27 hl (k := 3) rfl (nI_add i1 1) (by decide) rfl (fun ls hl => ?_)
          refine lv_goto (tgt := 4) hx hb dX1_place_30 (by decide) ?_
          exact ih (i1 + 1) acc (by omega) (by rw [lf, ← hacc]; simp [c2, c3]) ls (lv_sub hl [2, 3, 1, 0] rfl)
        · refine lv_iload_n hx hb dX1_place_21 rfl (lv_at hl 3 rfl) ?_
          refine lv_goto (tgt := 26) hx hb dX1_place_22 (by decide) ?_
          refine lv_istore_n (lv' := [(2, .int (nI i1)), (0, .ref (A 0)), (1, .int v), (3, .int (nI i1))]) hx hb dX1_place_26 rfl hl (by decide) rfl (fun ls hl => ?_)
          refine lv_iinc (v := (nI (i1 + 1))) (lv' := [(3, .int (nI (i1 + 1))), (2, .int (nI i1)), (0, .ref (A 0)), (1, .int v)]) hx hb dX1_place_27 hl (k := 3) rfl (nI_add i1 1) (by decide) rfl (fun ls hl => ?_)
          refine lv_goto (tgt := 4) hx hb dX1_place_30 (by decide) ?_
          exact ih (i1 + 1) (nI i1) (by omega) (by rw [lf, ← hacc]; simp [c2, c3]) ls (lv_sub hl [2, 3, 1, 0] rfl)
  exact L4 (s_n S) 0 (-1) (by omega) (rfl) ls (lv_sub hl [2, 3, 1, 0] rfl)
set_option maxHeartbeats 4000000 in
set_option maxRecDepth 100000 in
theorem c_X1_rank (l : Launch) (D : va_G) (A : Nat → Nat) (K : Nat → ClassId) (S : XS) (hI : x_inv S) (a : Nat) (ha : a < 8) : Met l yX1_rank wsX1_rank (rmD 1) (va_Pc [.ref (A 0), .int (nI a)] (i_w D vwCl (wM A K S) (tM K))) (vp_Si (fun r => r = (nI (m_rank S a)))) 0 0 (fun _ => False) := by
  refine Met.ofW (cc := cX1_rank) (maxL := 4) (ret := some .int) (by decide) rfl ?_
  intro p e s m args below meth c s₁ B hml hv
  obtain ⟨rfl, hP, hK⟩ := hv
  have hx := B.exec
  have hb := B.bytes
  have hr := B.returns
  have hts := atoms_spec (ws := wsX1_rank) B.pre
  have hown : s.vm.findClass RX1 = some m.cls := findClass_of_methodNamed B.named
  have hlocks := B.notSynchronized
  have hn8 := hI.1
  have hin : ∀ w ∈ u_ws RX1 TX1 9, w ∈ wsX1_rank := fun w h => List.mem_cons_of_mem _ (List.mem_append_right _ h)
  have f_23 := hts (.fieldLink RX1 23 "ChronoTrialsModel" "best" "[I") (by decide +kernel)
  have f_35 := hts (.fieldLink RX1 35 "ChronoTrialsModel" "clocks" "I") (by decide +kernel)
  have hl := lv_entry ([.ref (A 0), .int (nI a)]) (n := 4) (Nat.le_of_ble_eq_true rfl)
  rw [lg_entry_eq]
  generalize (lg_sl ([.ref (A 0), .int (nI a)]) ++ List.replicate (4 - (lg_sl ([.ref (A 0), .int (nI a)])).length) Slot.unset).toArray = ls at hl ⊢
  have hl : lv_has ls 4 [(0, .ref (A 0)), (1, .int (nI a))] := hl
  refine lv_iconst (v := 0) hx hb dX1_rank_0 (by decide) ?_
  refine lv_istore_n (lv' := [(2, .int 0), (0, .ref (A 0)), (1, .int (nI a))]) hx hb dX1_rank_1 rfl hl (by decide) rfl (fun ls hl => ?_)
  refine lv_iconst (v := 0) hx hb dX1_rank_2 (by decide) ?_
  refine lv_istore_n (lv' := [(3, .int 0), (2, .int 0), (0, .ref (A 0)), (1, .int (nI a))]) hx hb dX1_rank_3 rfl hl (by decide) rfl (fun ls hl => ?_)
  have L4 : ∀ (m1 i1 : Nat) (acc : Nat), i1 + m1 = s_n S → acc = cn (m_rk S a) i1 → ∀ (ls : Array Slot), lv_has ls 4 [(0, .ref (A 0)), (1, .int (nI a)), (2, .int (nI acc)), (3, .int (nI i1))] → W p l e (headSpec wsX1_rank (rmD 1)).room s m ([.ref (A 0), .int (nI a)] : List Value).toArray below meth c s.heap [] 0 0 (MQ below (vp_Si (fun r => r = (nI (m_rank S a)))) ([.ref (A 0), .int (nI a)] : List Value).toArray s 0 0 (fun _ => False)) (F0 m 4 ls []) := by
    intro m1
    induction m1 with
    | zero =>
      intro i1 acc hm1 hacc ls hl
      refine lv_iload_n hx hb dX1_rank_4 rfl (lv_at hl 3 rfl) ?_
      refine lv_aload_n hx hb dX1_rank_5 rfl (lv_at hl 0 rfl) ?_
      refine va_get (D := D) (ci := 1) (v := .int (nI (s_n S))) (C := RX1) (T := TX1) (N := 9) hx hb hts hin hown hK hP 0 rfl rfl 0 (by decide) f_35 (fun _ h9 => h9) rfl dX1_rank_6 ?_
      refine xn_ge (i := i1) (j := (s_n S)) (tgt := 74) hx hb (by omega) (by omega) dX1_rank_9 (by decide) (fun c1 => ?_) (fun c1 => ?_)
      · refine lv_iload_n hx hb dX1_rank_74 rfl (lv_at hl 2 rfl) ?_
        exact W.iret (v := (nI acc)) hx hb hr (fun t ht hW => ⟨_, rfl, by rw [hacc, show i1 = s_n S by omega]; try rfl, ht⟩) (fun q h => by cases h) dX1_rank_75
      · exfalso; omega
    | succ m1 ih =>
      intro i1 acc hm1 hacc ls hl
      refine lv_iload_n hx hb dX1_rank_4 rfl (lv_at hl 3 rfl) ?_
      refine lv_aload_n hx hb dX1_rank_5 rfl (lv_at hl 0 rfl) ?_
      refine va_get (D := D) (ci := 1) (v := .int (nI (s_n S))) (C := RX1) (T := TX1) (N := 9) hx hb hts hin hown hK hP 0 rfl rfl 0 (by decide) f_35 (fun _ h9 => h9) rfl dX1_rank_6 ?_
      refine xn_ge (i := i1) (j := (s_n S)) (tgt := 74) hx hb (by omega) (by omega) dX1_rank_9 (by decide) (fun c2 => ?_) (fun c2 => ?_)
      · exfalso; omega
      · refine lv_iload_n hx hb dX1_rank_12 rfl (lv_at hl 2 rfl) ?_
        refine lv_iload_n hx hb dX1_rank_13 rfl (lv_at hl 3 rfl) ?_
        refine lv_iload_n hx hb dX1_rank_14 rfl (lv_at hl 1 rfl) ?_
        refine xn_eq (i := i1) (j := a) (tgt := 65) hx hb (by omega) (by omega) dX1_rank_15 (by decide) (fun c3 => ?_) (fun c3 => ?_)
        · refine lv_iconst (v := 0) hx hb dX1_rank_65 (by decide) ?_
          refine xn_add (i := acc) (j := 0) hx hb dX1_rank_66 ?_
          refine lv_istore_n (lv' := [(2, .int (nI (acc + 0))), (0, .ref (A 0)), (1, .int (nI a)), (3, .int (nI i1))]) hx hb dX1_rank_67 rfl hl (by decide) rfl (fun ls hl => ?_)
          refine lv_iinc (v := (nI (i1 + 1))) (lv' := [(3, .int (nI (i1 + 1))), (2, .int (nI (acc + 0))), (0, .ref (A 0)), (1, .int (nI a))]) hx hb dX1_rank_68 hl (k := 3) rfl (nI_add i1 1) (by decide) rfl (fun ls hl => ?_)
          refine lv_goto (tgt := 4) hx hb dX1_rank_71 (by decide) ?_
          exact ih (i1 + 1) (acc + 0) (by omega) (by simp [cn, b2, m_rk, hacc, c2, c3]) ls (lv_sub hl [2, 3, 1, 0] rfl)
        · refine lv_aload_n hx hb dX1_rank_18 rfl (lv_at hl 0 rfl) ?_
          refine va_get (D := D) (ci := 1) (v := .ref (A 2)) (C := RX1) (T := TX1) (N := 9) hx hb hts hin hown hK hP 0 rfl rfl 5 (by decide) f_23 (fun _ h9 => h9) rfl dX1_rank_19 ?_
          refine lv_iload_n hx hb dX1_rank_22 rfl (lv_at hl 1 rfl) ?_
          refine xa_ld (i := a) (v := ((s_bs S) a)) hx hb hK hP 2 1 rfl rfl (by omega) (by decide) (rfl) dX1_rank_23 ?_
          refine lv_iconst (v := (-1)) hx hb dX1_rank_24 (by decide) ?_
          refine lv_icmp_ne (tgt := 41) hx hb dX1_rank_25 (by decide) (fun c4 => ?_) (fun c4 => ?_)
          · refine lv_iconst (v := 0) hx hb dX1_rank_41 (by decide) ?_
            refine lv_aload_n hx hb dX1_rank_42 rfl (lv_at hl 0 rfl) ?_
            refine va_get (D := D) (ci := 1) (v := .ref (A 2)) (C := RX1) (T := TX1) (N := 9) hx hb hts hin hown hK hP 0 rfl rfl 5 (by decide) f_23 (fun _ h9 => h9) rfl dX1_rank_43 ?_
            refine lv_iload_n hx hb dX1_rank_46 rfl (lv_at hl 3 rfl) ?_
            refine xa_ld (i := i1) (v := ((s_bs S) i1)) hx hb hK hP 2 1 rfl rfl (by omega) (by decide) (rfl) dX1_rank_47 ?_
            refine lv_aload_n hx hb dX1_rank_48 rfl (lv_at hl 0 rfl) ?_
            refine va_get (D := D) (ci := 1) (v := .ref (A 2)) (C := RX1) (T := TX1) (N := 9) hx hb hts hin hown hK hP 0 rfl rfl 5 (by decide) f_23 (fun _ h9 => h9) rfl dX1_rank_49 ?_
            refine lv_iload_n hx hb dX1_rank_52 rfl (lv_at hl 1 rfl) ?_
            refine xa_ld (i := a) (v := ((s_bs S) a)) hx hb hK hP 2 1 rfl rfl (by omega) (by decide) (rfl) dX1_rank_53 ?_
            refine lv_iconst (v := (-1)) hx hb dX1_rank_54 (by decide) ?_
            refine rc_S (v := (zi (h_all (-1) 0 ((s_bs S) i1) ((s_bs S) a)))) ⟨hx, hb, hml, hown, hts⟩ [.int 0, .int ((s_bs S) i1), .int ((s_bs S) a), .int (-1)] [.int (nI acc)] (c_X1_holds l 0 ((s_bs S) i1) ((s_bs S) a) (-1)) (va_cwS 4 hts gX1_rank_X1_holds rfl rfl rfl (by decide +kernel) ⟨Nat.le_of_ble_eq_true rfl, Nat.le_of_ble_eq_true rfl⟩) rfl hl.1 rfl (Nat.le_of_ble_eq_true rfl) ⟨Nat.zero_le _, Nat.zero_le _⟩ dX1_rank_55 ?_
            refine xz_eq (b := (h_all (-1) 0 ((s_bs S) i1) ((s_bs S) a))) (tgt := 65) hx hb dX1_rank_58 (by decide) (fun c5 => ?_) (fun c5 => ?_)
            · refine lv_iconst (v := 0) hx hb dX1_rank_65 (by decide) ?_
              refine xn_add (i := acc) (j := 0) hx hb dX1_rank_66 ?_
              refine lv_istore_n (lv' := [(2, .int (nI (acc + 0))), (0, .ref (A 0)), (1, .int (nI a)), (3, .int (nI i1))]) hx hb dX1_rank_67 rfl hl (by decide) rfl (fun ls hl => ?_)
              refine lv_iinc (v := (nI (i1 + 1))) (lv' := [(3, .int (nI (i1 + 1))), (2, .int (nI (acc + 0))), (0, .ref (A 0)), (1, .int (nI a))]) hx hb dX1_rank_68 hl (k := 3) rfl (nI_add i1 1) (by decide) rfl (fun ls hl => ?_)
              refine lv_goto (tgt := 4) hx hb dX1_rank_71 (by decide) ?_
              exact ih (i1 + 1) (acc + 0) (by omega) (by simp [cn, b2, m_rk, hacc, c2, c3, c4, c5]) ls (lv_sub hl [2, 3, 1, 0] rfl)
            · refine lv_iconst (v := 1) hx hb dX1_rank_61 (by decide) ?_
              refine lv_goto (tgt := 66) hx hb dX1_rank_62 (by decide) ?_
              refine xn_add (i := acc) (j := 1) hx hb dX1_rank_66 ?_
              refine lv_istore_n (lv' := [(2, .int (nI (acc + 1))), (0, .ref (A 0)), (1, .int (nI a)), (3, .int (nI i1))]) hx hb dX1_rank_67 rfl hl (by decide) rfl (fun ls hl => ?_)
              refine lv_iinc (v := (nI (i1 + 1))) (lv' := [(3, .int (nI (i1 + 1))), (2, .int (nI (acc + 1))), (0, .ref (A 0)), (1, .int (nI a))]) hx hb dX1_rank_68 hl (k := 3) rfl (nI_add i1 1) (by decide) rfl (fun ls hl => ?_)
              refine lv_goto (tgt := 4) hx hb dX1_rank_71 (by decide) ?_
              exact ih (i1 + 1) (acc + 1) (by omega) (by simp [cn, b2, m_rk, hacc, c2, c3, c4, c5]) ls (lv_sub hl [2, 3, 1, 0] rfl)
          · refine lv_aload_n hx hb dX1_rank_28 rfl (lv_at hl 0 rfl) ?_
            refine va_get (D := D) (ci := 1) (v := .ref (A 2)) (C := RX1) (T := TX1) (N := 9) hx hb hts hin hown hK hP 0 rfl rfl 5 (by decide) f_23 (fun _ h9 => h9) rfl dX1_rank_29 ?_
            refine lv_iload_n hx hb dX1_rank_32 rfl (lv_at hl 3 rfl) ?_
            refine xa_ld (i := i1) (v := ((s_bs S) i1)) hx hb hK hP 2 1 rfl rfl (by omega) (by decide) (rfl) dX1_rank_33 ?_
            refine lv_iconst (v := (-1)) hx hb dX1_rank_34 (by decide) ?_
            refine lv_icmp_eq (tgt := 65) hx hb dX1_rank_35 (by decide) (fun c6 => ?_) (fun c6 => ?_)
            · refine lv_iconst (v := 0) hx hb dX1_rank_65 (by decide) ?_
              refine xn_add (i := acc) (j := 0) hx hb dX1_rank_66 ?_
              refine lv_istore_n (lv' := [(2, .int (nI (acc + 0))), (0, .ref (A 0)), (1, .int (nI a)), (3, .int (nI i1))]) hx hb dX1_rank_67 rfl hl (by decide) rfl (fun ls hl => ?_)
              refine lv_iinc (v := (nI (i1 + 1))) (lv' := [(3, .int (nI (i1 + 1))), (2, .int (nI (acc + 0))), (0, .ref (A 0)), (1, .int (nI a))]) hx hb dX1_rank_68 hl (k := 3) rfl (nI_add i1 1) (by decide) rfl (fun ls hl => ?_)
              refine lv_goto (tgt := 4) hx hb dX1_rank_71 (by decide) ?_
              exact ih (i1 + 1) (acc + 0) (by omega) (by simp [cn, b2, m_rk, hacc, c2, c3, c4, c6]) ls (lv_sub hl [2, 3, 1, 0] rfl)
            · refine lv_goto (tgt := 61) hx hb dX1_rank_38 (by decide) ?_
              refine lv_iconst (v := 1) hx hb dX1_rank_61 (by decide) ?_
              refine lv_goto (tgt := 66) hx hb dX1_rank_62 (by decide) ?_
              refine xn_add (i := acc) (j := 1) hx hb dX1_rank_66 ?_
              refine lv_istore_n (lv' := [(2, .int (nI (acc + 1))), (0, .ref (A 0)), (1, .int (nI a)), (3, .int (nI i1))]) hx hb dX1_rank_67 rfl hl (by decide) rfl (fun ls hl => ?_)
              refine lv_iinc (v := (nI (i1 + 1))) (lv' := [(3, .int (nI (i1 + 1))), (2, .int (nI (acc + 1))), (0, .ref (A 0)), (1, .int (nI a))]) hx hb dX1_rank_68 hl (k := 3) rfl (nI_add i1 1) (by decide) rfl (fun ls hl => ?_)
              refine lv_goto (tgt := 4) hx hb dX1_rank_71 (by decide) ?_
              exact ih (i1 + 1) (acc + 1) (by omega) (by simp [cn, b2, m_rk, hacc, c2, c3, c4, c6]) ls (lv_sub hl [2, 3, 1, 0] rfl)
  exact L4 (s_n S) 0 0 (by omega) (rfl) ls (lv_sub hl [2, 3, 1, 0] rfl)
set_option maxHeartbeats 4000000 in
set_option maxRecDepth 100000 in
theorem c_X1_cold (l : Launch) (D : va_G) (A : Nat → Nat) (K : Nat → ClassId) (S : XS) (hI : x_inv S) (a : Nat) (ha : a < 8) : Met l yX1_cold wsX1_cold (rmD 2) (va_Pc [.ref (A 0), .int (nI a)] (i_w D vwCl (wM A K S) (tM K))) (vp_Si (fun r => r = (nI (x_cold S a)))) 0 0 (fun _ => False) := by
  refine Met.ofW (cc := cX1_cold) (maxL := 4) (ret := some .int) (by decide) rfl ?_
  intro p e s m args below meth c s₁ B hml hv
  obtain ⟨rfl, hP, hK⟩ := hv
  have hx := B.exec
  have hb := B.bytes
  have hr := B.returns
  have hts := atoms_spec (ws := wsX1_cold) B.pre
  have hown : s.vm.findClass RX1 = some m.cls := findClass_of_methodNamed B.named
  have hlocks := B.notSynchronized
  have hn8 := hI.1
  have hin : ∀ w ∈ u_ws RX1 TX1 9, w ∈ wsX1_cold := fun w h => List.mem_cons_of_mem _ (List.mem_append_right _ h)
  have f_19 := hts (.fieldLink RX1 19 "ChronoTrialsModel" "many" "[I") (by decide +kernel)
  have f_32 := hts (.fieldLink RX1 32 "ChronoTrialsModel" "chills" "[I") (by decide +kernel)
  have ht6 := hI.2 a
  have hl := lv_entry ([.ref (A 0), .int (nI a)]) (n := 4) (Nat.le_of_ble_eq_true rfl)
  rw [lg_entry_eq]
  generalize (lg_sl ([.ref (A 0), .int (nI a)]) ++ List.replicate (4 - (lg_sl ([.ref (A 0), .int (nI a)])).length) Slot.unset).toArray = ls at hl ⊢
  have hl : lv_has ls 4 [(0, .ref (A 0)), (1, .int (nI a))] := hl
  refine lv_iconst (v := 0) hx hb dX1_cold_0 (by decide) ?_
  refine lv_istore_n (lv' := [(2, .int 0), (0, .ref (A 0)), (1, .int (nI a))]) hx hb dX1_cold_1 rfl hl (by decide) rfl (fun ls hl => ?_)
  refine lv_iconst (v := 0) hx hb dX1_cold_2 (by decide) ?_
  refine lv_istore_n (lv' := [(3, .int 0), (2, .int 0), (0, .ref (A 0)), (1, .int (nI a))]) hx hb dX1_cold_3 rfl hl (by decide) rfl (fun ls hl => ?_)
  have L4 : ∀ (m1 i1 : Nat) (acc : Nat), i1 + m1 = s_tr S a → acc = cn (fun t => cold S (s_ch S (a * 6 + t))) i1 → ∀ (ls : Array Slot), lv_has ls 4 [(0, .ref (A 0)), (1, .int (nI a)), (2, .int (nI acc)), (3, .int (nI i1))] → W p l e (headSpec wsX1_cold (rmD 2)).room s m ([.ref (A 0), .int (nI a)] : List Value).toArray below meth c s.heap [] 0 0 (MQ below (vp_Si (fun r => r = (nI (x_cold S a)))) ([.ref (A 0), .int (nI a)] : List Value).toArray s 0 0 (fun _ => False)) (F0 m 4 ls []) := by
    intro m1
    induction m1 with
    | zero =>
      intro i1 acc hm1 hacc ls hl
      refine lv_iload_n hx hb dX1_cold_4 rfl (lv_at hl 3 rfl) ?_
      refine lv_aload_n hx hb dX1_cold_5 rfl (lv_at hl 0 rfl) ?_
      refine va_get (D := D) (ci := 1) (v := .ref (A 1)) (C := RX1) (T := TX1) (N := 9) hx hb hts hin hown hK hP 0 rfl rfl 4 (by decide) f_19 (fun _ h9 => h9) rfl dX1_cold_6 ?_
      refine lv_iload_n hx hb dX1_cold_9 rfl (lv_at hl 1 rfl) ?_
      refine xa_ld (i := a) (v := (nI ((s_tr S) a))) hx hb hK hP 1 0 rfl rfl (by omega) (by decide) (rfl) dX1_cold_10 ?_
      refine xn_ge (i := i1) (j := ((s_tr S) a)) (tgt := 46) hx hb (by omega) (by omega) dX1_cold_11 (by decide) (fun c1 => ?_) (fun c1 => ?_)
      · refine lv_iload_n hx hb dX1_cold_46 rfl (lv_at hl 2 rfl) ?_
        exact W.iret (v := (nI acc)) hx hb hr (fun t ht hW => ⟨_, rfl, by rw [hacc, show i1 = s_tr S a by omega]; try rfl, ht⟩) (fun q h => by cases h) dX1_cold_47
      · exfalso; omega
    | succ m1 ih =>
      intro i1 acc hm1 hacc ls hl
      refine lv_iload_n hx hb dX1_cold_4 rfl (lv_at hl 3 rfl) ?_
      refine lv_aload_n hx hb dX1_cold_5 rfl (lv_at hl 0 rfl) ?_
      refine va_get (D := D) (ci := 1) (v := .ref (A 1)) (C := RX1) (T := TX1) (N := 9) hx hb hts hin hown hK hP 0 rfl rfl 4 (by decide) f_19 (fun _ h9 => h9) rfl dX1_cold_6 ?_
      refine lv_iload_n hx hb dX1_cold_9 rfl (lv_at hl 1 rfl) ?_
      refine xa_ld (i := a) (v := (nI ((s_tr S) a))) hx hb hK hP 1 0 rfl rfl (by omega) (by decide) (rfl) dX1_cold_10 ?_
      refine xn_ge (i := i1) (j := ((s_tr S) a)) (tgt := 46) hx hb (by omega) (by omega) dX1_cold_11 (by decide) (fun c2 => ?_) (fun c2 => ?_)
      · exfalso; omega
      · refine lv_iload_n hx hb dX1_cold_14 rfl (lv_at hl 2 rfl) ?_
        refine lv_aload_n hx hb dX1_cold_15 rfl (lv_at hl 0 rfl) ?_
        refine lv_aload_n hx hb dX1_cold_16 rfl (lv_at hl 0 rfl) ?_
        refine va_get (D := D) (ci := 1) (v := .ref (A 5)) (C := RX1) (T := TX1) (N := 9) hx hb hts hin hown hK hP 0 rfl rfl 8 (by decide) f_32 (fun _ h9 => h9) rfl dX1_cold_17 ?_
        refine lv_bipush (v := 6) hx hb dX1_cold_20 (by decide) ?_
        refine lv_iload_n hx hb dX1_cold_22 rfl (lv_at hl 1 rfl) ?_
        refine xn_mulc (i := 6) (j := a) hx hb dX1_cold_23 ?_
        refine lv_iload_n hx hb dX1_cold_24 rfl (lv_at hl 3 rfl) ?_
        refine xn_add (i := (a * 6)) (j := i1) hx hb dX1_cold_25 ?_
        refine xa_ld (i := ((a * 6) + i1)) (v := ((s_ch S) ((a * 6) + i1))) hx hb hK hP 5 4 rfl rfl (by omega) (by decide) (rfl) dX1_cold_26 ?_
        refine rc_V (v := (zi (cold S ((s_ch S) ((a * 6) + i1))))) ⟨hx, hb, hml, hown, hts⟩ [.int ((s_ch S) ((a * 6) + i1))] [.int (nI acc)] (c_X1_isCold l D A K S hI ((s_ch S) ((a * 6) + i1))) (cwV 1 hts gX1_cold_X1_isCold rfl rfl rfl (by decide +kernel) ⟨Nat.le_of_ble_eq_true rfl, Nat.le_of_ble_eq_true rfl⟩) hK hP (va_recv hK hP (ci := 1) (q0 := 0) rfl rfl) rfl hl.1 rfl (Nat.le_of_ble_eq_true rfl) ⟨Nat.zero_le _, Nat.zero_le _⟩ dX1_cold_27 ?_
        refine xz_eq (b := (cold S ((s_ch S) ((a * 6) + i1)))) (tgt := 37) hx hb dX1_cold_30 (by decide) (fun c3 => ?_) (fun c3 => ?_)
        · refine lv_iconst (v := 0) hx hb dX1_cold_37 (by decide) ?_
          refine xn_add (i := acc) (j := 0) hx hb dX1_cold_38 ?_
          refine lv_istore_n (lv' := [(2, .int (nI (acc + 0))), (0, .ref (A 0)), (1, .int (nI a)), (3, .int (nI i1))]) hx hb dX1_cold_39 rfl hl (by decide) rfl (fun ls hl => ?_)
          refine lv_iinc (v := (nI (i1 + 1))) (lv' := [(3, .int (nI (i1 + 1))), (2, .int (nI (acc + 0))), (0, .ref (A 0)), (1, .int (nI a))]) hx hb dX1_cold_40 hl (k := 3) rfl (nI_add i1 1) (by decide) rfl (fun ls hl => ?_)
          refine lv_goto (tgt := 4) hx hb dX1_cold_43 (by decide) ?_
          exact ih (i1 + 1) (acc + 0) (by omega) (by simp [cn, b2, hacc, c2, c3]) ls (lv_sub hl [2, 3, 1, 0] rfl)
        · refine lv_iconst (v := 1) hx hb dX1_cold_33 (by decide) ?_
          refine lv_goto (tgt := 38) hx hb dX1_cold_34 (by decide) ?_
          refine xn_add (i := acc) (j := 1) hx hb dX1_cold_38 ?_
          refine lv_istore_n (lv' := [(2, .int (nI (acc + 1))), (0, .ref (A 0)), (1, .int (nI a)), (3, .int (nI i1))]) hx hb dX1_cold_39 rfl hl (by decide) rfl (fun ls hl => ?_)
          refine lv_iinc (v := (nI (i1 + 1))) (lv' := [(3, .int (nI (i1 + 1))), (2, .int (nI (acc + 1))), (0, .ref (A 0)), (1, .int (nI a))]) hx hb dX1_cold_40 hl (k := 3) rfl (nI_add i1 1) (by decide) rfl (fun ls hl => ?_)
          refine lv_goto (tgt := 4) hx hb dX1_cold_43 (by decide) ?_
          exact ih (i1 + 1) (acc + 1) (by omega) (by simp [cn, b2, hacc, c2, c3]) ls (lv_sub hl [2, 3, 1, 0] rfl)
  exact L4 (s_tr S a) 0 0 (by omega) (rfl) ls (lv_sub hl [2, 3, 1, 0] rfl)
set_option maxHeartbeats 4000000 in
set_option maxRecDepth 100000 in
theorem c_X1_more (l : Launch) (D : va_G) (A : Nat → Nat) (K : Nat → ClassId) (S : XS) (hI : x_inv S) (a : Nat) (ha : a < 8) : Met l yX1_more wsX1_more (rmD 1) (va_Pc [.ref (A 0), .int (nI a)] (i_w D vwCl (wM A K S) (tM K))) (vp_Si (fun r => r = (nI (x_more S a)))) 0 0 (fun _ => False) := by
  refine Met.ofW (cc := cX1_more) (maxL := 3) (ret := some .int) (by decide) rfl ?_
  intro p e s m args below meth c s₁ B hml hv
  obtain ⟨rfl, hP, hK⟩ := hv
  have hx := B.exec
  have hb := B.bytes
  have hr := B.returns
  have hts := atoms_spec (ws := wsX1_more) B.pre
  have hown : s.vm.findClass RX1 = some m.cls := findClass_of_methodNamed B.named
  have hlocks := B.notSynchronized
  have hn8 := hI.1
  have hin : ∀ w ∈ u_ws RX1 TX1 9, w ∈ wsX1_more := fun w h => List.mem_cons_of_mem _ (List.mem_append_right _ h)
  have f_19 := hts (.fieldLink RX1 19 "ChronoTrialsModel" "many" "[I") (by decide +kernel)
  have f_23 := hts (.fieldLink RX1 23 "ChronoTrialsModel" "best" "[I") (by decide +kernel)
  have f_29 := hts (.fieldLink RX1 29 "ChronoTrialsModel" "rates" "[I") (by decide +kernel)
  have ht6 := hI.2 a
  have hl := lv_entry ([.ref (A 0), .int (nI a)]) (n := 3) (Nat.le_of_ble_eq_true rfl)
  rw [lg_entry_eq]
  generalize (lg_sl ([.ref (A 0), .int (nI a)]) ++ List.replicate (3 - (lg_sl ([.ref (A 0), .int (nI a)])).length) Slot.unset).toArray = ls at hl ⊢
  have hl : lv_has ls 3 [(0, .ref (A 0)), (1, .int (nI a))] := hl
  refine lv_iconst (v := 0) hx hb dX1_more_0 (by decide) ?_
  refine lv_istore_n (lv' := [(2, .int 0), (0, .ref (A 0)), (1, .int (nI a))]) hx hb dX1_more_1 rfl hl (by decide) rfl (fun ls hl => ?_)
  have L2 : ∀ (m1 i1 : Nat), i1 + m1 = s_tr S a → x_more S a = wh (fun t => h_all (-1) 2 (s_rt S (a * 6 + t)) (s_bs S a)) m1 i1 → ∀ (ls : Array Slot), lv_has ls 3 [(0, .ref (A 0)), (1, .int (nI a)), (2, .int (nI i1))] → W p l e (headSpec wsX1_more (rmD 1)).room s m ([.ref (A 0), .int (nI a)] : List Value).toArray below meth c s.heap [] 0 0 (MQ below (vp_Si (fun r => r = (nI (x_more S a)))) ([.ref (A 0), .int (nI a)] : List Value).toArray s 0 0 (fun _ => False)) (F0 m 2 ls []) := by
    intro m1
    induction m1 with
    | zero =>
      intro i1 hm1 hinv ls hl
      refine lv_iload_n hx hb dX1_more_2 rfl (lv_at hl 2 rfl) ?_
      refine lv_aload_n hx hb dX1_more_3 rfl (lv_at hl 0 rfl) ?_
      refine va_get (D := D) (ci := 1) (v := .ref (A 1)) (C := RX1) (T := TX1) (N := 9) hx hb hts hin hown hK hP 0 rfl rfl 4 (by decide) f_19 (fun _ h9 => h9) rfl dX1_more_4 ?_
      refine lv_iload_n hx hb dX1_more_7 rfl (lv_at hl 1 rfl) ?_
      refine xa_ld (i := a) (v := (nI ((s_tr S) a))) hx hb hK hP 1 0 rfl rfl (by omega) (by decide) (rfl) dX1_more_8 ?_
      refine xn_ge (i := i1) (j := ((s_tr S) a)) (tgt := 43) hx hb (by omega) (by omega) dX1_more_9 (by decide) (fun c1 => ?_) (fun c1 => ?_)
      · refine lv_iload_n hx hb dX1_more_43 rfl (lv_at hl 2 rfl) ?_
        exact W.iret (v := (nI i1)) hx hb hr (fun t ht hW => ⟨_, rfl, by rw [hinv]; simp [wh, hinv, c1], ht⟩) (fun q h => by cases h) dX1_more_44
      · exfalso; omega
    | succ m1 ih =>
      intro i1 hm1 hinv ls hl
      refine lv_iload_n hx hb dX1_more_2 rfl (lv_at hl 2 rfl) ?_
      refine lv_aload_n hx hb dX1_more_3 rfl (lv_at hl 0 rfl) ?_
      refine va_get (D := D) (ci := 1) (v := .ref (A 1)) (C := RX1) (T := TX1) (N := 9) hx hb hts hin hown hK hP 0 rfl rfl 4 (by decide) f_19 (fun _ h9 => h9) rfl dX1_more_4 ?_
      refine lv_iload_n hx hb dX1_more_7 rfl (lv_at hl 1 rfl) ?_
      refine xa_ld (i := a) (v := (nI ((s_tr S) a))) hx hb hK hP 1 0 rfl rfl (by omega) (by decide) (rfl) dX1_more_8 ?_
      refine xn_ge (i := i1) (j := ((s_tr S) a)) (tgt := 43) hx hb (by omega) (by omega) dX1_more_9 (by decide) (fun c2 => ?_) (fun c2 => ?_)
      · exfalso; omega
      · refine lv_iconst (v := 2) hx hb dX1_more_12 (by decide) ?_
        refine lv_aload_n hx hb dX1_more_13 rfl (lv_at hl 0 rfl) ?_
        refine va_get (D := D) (ci := 1) (v := .ref (A 4)) (C := RX1) (T := TX1) (N := 9) hx hb hts hin hown hK hP 0 rfl rfl 7 (by decide) f_29 (fun _ h9 => h9) rfl dX1_more_14 ?_
        refine lv_bipush (v := 6) hx hb dX1_more_17 (by decide) ?_
        refine lv_iload_n hx hb dX1_more_19 rfl (lv_at hl 1 rfl) ?_
        refine xn_mulc (i := 6) (j := a) hx hb dX1_more_20 ?_
        refine lv_iload_n hx hb dX1_more_21 rfl (lv_at hl 2 rfl) ?_
        refine xn_add (i := (a * 6)) (j := i1) hx hb dX1_more_22 ?_
        refine xa_ld (i := ((a * 6) + i1)) (v := ((s_rt S) ((a * 6) + i1))) hx hb hK hP 4 3 rfl rfl (by omega) (by decide) (rfl) dX1_more_23 ?_
        refine lv_aload_n hx hb dX1_more_24 rfl (lv_at hl 0 rfl) ?_
        refine va_get (D := D) (ci := 1) (v := .ref (A 2)) (C := RX1) (T := TX1) (N := 9) hx hb hts hin hown hK hP 0 rfl rfl 5 (by decide) f_23 (fun _ h9 => h9) rfl dX1_more_25 ?_
        refine lv_iload_n hx hb dX1_more_28 rfl (lv_at hl 1 rfl) ?_
        refine xa_ld (i := a) (v := ((s_bs S) a)) hx hb hK hP 2 1 rfl rfl (by omega) (by decide) (rfl) dX1_more_29 ?_
        refine lv_iconst (v := (-1)) hx hb dX1_more_30 (by decide) ?_
        refine rc_S (v := (zi (h_all (-1) 2 ((s_rt S) ((a * 6) + i1)) ((s_bs S) a)))) ⟨hx, hb, hml, hown, hts⟩ [.int 2, .int ((s_rt S) ((a * 6) + i1)), .int ((s_bs S) a), .int (-1)] [] (c_X1_holds l 2 ((s_rt S) ((a * 6) + i1)) ((s_bs S) a) (-1)) (va_cwS 4 hts gX1_more_X1_holds rfl rfl rfl (by decide +kernel) ⟨Nat.le_of_ble_eq_true rfl, Nat.le_of_ble_eq_true rfl⟩) rfl hl.1 rfl (Nat.le_of_ble_eq_true rfl) ⟨Nat.zero_le _, Nat.zero_le _⟩ dX1_more_31 ?_
        refine xz_eq (b := (h_all (-1) 2 ((s_rt S) ((a * 6) + i1)) ((s_bs S) a))) (tgt := 43) hx hb dX1_more_34 (by decide) (fun c3 => ?_) (fun c3 => ?_)
        · refine lv_iload_n hx hb dX1_more_43 rfl (lv_at hl 2 rfl) ?_
          exact W.iret (v := (nI i1)) hx hb hr (fun t ht hW => ⟨_, rfl, by rw [hinv]; simp [wh, hinv, c2, c3], ht⟩) (fun q h => by cases h) dX1_more_44
        · refine lv_iinc (v := (nI (i1 + 1))) (lv' := [(2, .int (nI (i1 + 1))), (0, .ref (A 0)), (1, .int (nI a))]) hx hb dX1_more_37 hl (k := 2) rfl (nI_add i1 1) (by decide) rfl (fun ls hl => ?_)
          refine lv_goto (tgt := 2) hx hb dX1_more_40 (by decide) ?_
          exact ih (i1 + 1) (by omega) (by rw [hinv, wh]; simp [hinv, c2, c3]) ls (lv_sub hl [1, 2, 0] rfl)
  exact L2 (s_tr S a) 0 (by omega) (rfl) ls (lv_sub hl [1, 2, 0] rfl)
set_option maxHeartbeats 4000000 in
set_option maxRecDepth 100000 in
theorem c_X1_seals (l : Launch) (D : va_G) (A : Nat → Nat) (K : Nat → ClassId) (S : XS) (hI : x_inv S) : Met l yX1_seals wsX1_seals (rmD 0) (va_Pc [.ref (A 0)] (i_w D vwCl (wM A K S) (tM K))) (vp_Si (fun r => r = (nI (cn (s_sl S) (s_n S))))) 0 0 (fun _ => False) := by
  refine Met.ofW (cc := cX1_seals) (maxL := 3) (ret := some .int) (by decide) rfl ?_
  intro p e s m args below meth c s₁ B hml hv
  obtain ⟨rfl, hP, hK⟩ := hv
  have hx := B.exec
  have hb := B.bytes
  have hr := B.returns
  have hts := atoms_spec (ws := wsX1_seals) B.pre
  have hown : s.vm.findClass RX1 = some m.cls := findClass_of_methodNamed B.named
  have hlocks := B.notSynchronized
  have hn8 := hI.1
  have hin : ∀ w ∈ u_ws RX1 TX1 9, w ∈ wsX1_seals := fun w h => List.mem_cons_of_mem _ (List.mem_append_right _ h)
  have f_26 := hts (.fieldLink RX1 26 "ChronoTrialsModel" "seal" "[I") (by decide +kernel)
  have f_35 := hts (.fieldLink RX1 35 "ChronoTrialsModel" "clocks" "I") (by decide +kernel)
  have hl := lv_entry ([.ref (A 0)]) (n := 3) (Nat.le_of_ble_eq_true rfl)
  rw [lg_entry_eq]
  generalize (lg_sl ([.ref (A 0)]) ++ List.replicate (3 - (lg_sl ([.ref (A 0)])).length) Slot.unset).toArray = ls at hl ⊢
  have hl : lv_has ls 3 [(0, .ref (A 0))] := hl
  refine lv_iconst (v := 0) hx hb dX1_seals_0 (by decide) ?_
  refine lv_istore_n (lv' := [(1, .int 0), (0, .ref (A 0))]) hx hb dX1_seals_1 rfl hl (by decide) rfl (fun ls hl => ?_)
  refine lv_iconst (v := 0) hx hb dX1_seals_2 (by decide) ?_
  refine lv_istore_n (lv' := [(2, .int 0), (1, .int 0), (0, .ref (A 0))]) hx hb dX1_seals_3 rfl hl (by decide) rfl (fun ls hl => ?_)
  have L4 : ∀ (m1 i1 : Nat) (acc : Nat), i1 + m1 = s_n S → acc = cn (s_sl S) i1 → ∀ (ls : Array Slot), lv_has ls 3 [(0, .ref (A 0)), (1, .int (nI acc)), (2, .int (nI i1))] → W p l e (headSpec wsX1_seals (rmD 0)).room s m ([.ref (A 0)] : List Value).toArray below meth c s.heap [] 0 0 (MQ below (vp_Si (fun r => r = (nI (cn (s_sl S) (s_n S))))) ([.ref (A 0)] : List Value).toArray s 0 0 (fun _ => False)) (F0 m 4 ls []) := by
    intro m1
    induction m1 with
    | zero =>
      intro i1 acc hm1 hacc ls hl
      refine lv_iload_n hx hb dX1_seals_4 rfl (lv_at hl 2 rfl) ?_
      refine lv_aload_n hx hb dX1_seals_5 rfl (lv_at hl 0 rfl) ?_
      refine va_get (D := D) (ci := 1) (v := .int (nI (s_n S))) (C := RX1) (T := TX1) (N := 9) hx hb hts hin hown hK hP 0 rfl rfl 0 (by decide) f_35 (fun _ h9 => h9) rfl dX1_seals_6 ?_
      refine xn_ge (i := i1) (j := (s_n S)) (tgt := 27) hx hb (by omega) (by omega) dX1_seals_9 (by decide) (fun c1 => ?_) (fun c1 => ?_)
      · refine lv_iload_n hx hb dX1_seals_27 rfl (lv_at hl 1 rfl) ?_
        exact W.iret (v := (nI acc)) hx hb hr (fun t ht hW => ⟨_, rfl, by rw [hacc, show i1 = s_n S by omega]; try rfl, ht⟩) (fun q h => by cases h) dX1_seals_28
      · exfalso; omega
    | succ m1 ih =>
      intro i1 acc hm1 hacc ls hl
      refine lv_iload_n hx hb dX1_seals_4 rfl (lv_at hl 2 rfl) ?_
      refine lv_aload_n hx hb dX1_seals_5 rfl (lv_at hl 0 rfl) ?_
      refine va_get (D := D) (ci := 1) (v := .int (nI (s_n S))) (C := RX1) (T := TX1) (N := 9) hx hb hts hin hown hK hP 0 rfl rfl 0 (by decide) f_35 (fun _ h9 => h9) rfl dX1_seals_6 ?_
      refine xn_ge (i := i1) (j := (s_n S)) (tgt := 27) hx hb (by omega) (by omega) dX1_seals_9 (by decide) (fun c2 => ?_) (fun c2 => ?_)
      · exfalso; omega
      · refine lv_iload_n hx hb dX1_seals_12 rfl (lv_at hl 1 rfl) ?_
        refine lv_aload_n hx hb dX1_seals_13 rfl (lv_at hl 0 rfl) ?_
        refine va_get (D := D) (ci := 1) (v := .ref (A 3)) (C := RX1) (T := TX1) (N := 9) hx hb hts hin hown hK hP 0 rfl rfl 6 (by decide) f_26 (fun _ h9 => h9) rfl dX1_seals_14 ?_
        refine lv_iload_n hx hb dX1_seals_17 rfl (lv_at hl 2 rfl) ?_
        refine xa_ld (i := i1) (v := (zi ((s_sl S) i1))) hx hb hK hP 3 2 rfl rfl (by omega) (by decide) (rfl) dX1_seals_18 ?_
        refine xz_add (i := acc) (b := ((s_sl S) i1)) hx hb dX1_seals_19 ?_
        refine lv_istore_n (lv' := [(1, .int (nI (acc + b2 ((s_sl S) i1) 1))), (0, .ref (A 0)), (2, .int (nI i1))]) hx hb dX1_seals_20 rfl hl (by decide) rfl (fun ls hl => ?_)
        refine lv_iinc (v := (nI (i1 + 1))) (lv' := [(2, .int (nI (i1 + 1))), (1, .int (nI (acc + b2 ((s_sl S) i1) 1))), (0, .ref (A 0))]) hx hb dX1_seals_21 hl (k := 2) rfl (nI_add i1 1) (by decide) rfl (fun ls hl => ?_)
        refine lv_goto (tgt := 4) hx hb dX1_seals_24 (by decide) ?_
        exact ih (i1 + 1) (acc + b2 ((s_sl S) i1) 1) (by omega) (by simp [cn, b2, hacc, c2]) ls (lv_sub hl [2, 1, 0] rfl)
  exact L4 (s_n S) 0 0 (by omega) (rfl) ls (lv_sub hl [2, 1, 0] rfl)
set_option maxHeartbeats 4000000 in
set_option maxRecDepth 100000 in
theorem c_X1_trials (l : Launch) (D : va_G) (A : Nat → Nat) (K : Nat → ClassId) (S : XS) (hI : x_inv S) : Met l yX1_trials wsX1_trials (rmD 0) (va_Pc [.ref (A 0)] (i_w D vwCl (wM A K S) (tM K))) (vp_Si (fun r => r = (nI (sm (s_tr S) (s_n S))))) 0 0 (fun _ => False) := by
  refine Met.ofW (cc := cX1_trials) (maxL := 3) (ret := some .int) (by decide) rfl ?_
  intro p e s m args below meth c s₁ B hml hv
  obtain ⟨rfl, hP, hK⟩ := hv
  have hx := B.exec
  have hb := B.bytes
  have hr := B.returns
  have hts := atoms_spec (ws := wsX1_trials) B.pre
  have hown : s.vm.findClass RX1 = some m.cls := findClass_of_methodNamed B.named
  have hlocks := B.notSynchronized
  have hn8 := hI.1
  have hin : ∀ w ∈ u_ws RX1 TX1 9, w ∈ wsX1_trials := fun w h => List.mem_cons_of_mem _ (List.mem_append_right _ h)
  have f_19 := hts (.fieldLink RX1 19 "ChronoTrialsModel" "many" "[I") (by decide +kernel)
  have f_35 := hts (.fieldLink RX1 35 "ChronoTrialsModel" "clocks" "I") (by decide +kernel)
  have hl := lv_entry ([.ref (A 0)]) (n := 3) (Nat.le_of_ble_eq_true rfl)
  rw [lg_entry_eq]
  generalize (lg_sl ([.ref (A 0)]) ++ List.replicate (3 - (lg_sl ([.ref (A 0)])).length) Slot.unset).toArray = ls at hl ⊢
  have hl : lv_has ls 3 [(0, .ref (A 0))] := hl
  refine lv_iconst (v := 0) hx hb dX1_trials_0 (by decide) ?_
  refine lv_istore_n (lv' := [(1, .int 0), (0, .ref (A 0))]) hx hb dX1_trials_1 rfl hl (by decide) rfl (fun ls hl => ?_)
  refine lv_iconst (v := 0) hx hb dX1_trials_2 (by decide) ?_
  refine lv_istore_n (lv' := [(2, .int 0), (1, .int 0), (0, .ref (A 0))]) hx hb dX1_trials_3 rfl hl (by decide) rfl (fun ls hl => ?_)
  have L4 : ∀ (m1 i1 : Nat) (acc : Nat), i1 + m1 = s_n S → acc = sm (s_tr S) i1 → ∀ (ls : Array Slot), lv_has ls 3 [(0, .ref (A 0)), (1, .int (nI acc)), (2, .int (nI i1))] → W p l e (headSpec wsX1_trials (rmD 0)).room s m ([.ref (A 0)] : List Value).toArray below meth c s.heap [] 0 0 (MQ below (vp_Si (fun r => r = (nI (sm (s_tr S) (s_n S))))) ([.ref (A 0)] : List Value).toArray s 0 0 (fun _ => False)) (F0 m 4 ls []) := by
    intro m1
    induction m1 with
    | zero =>
      intro i1 acc hm1 hacc ls hl
      refine lv_iload_n hx hb dX1_trials_4 rfl (lv_at hl 2 rfl) ?_
      refine lv_aload_n hx hb dX1_trials_5 rfl (lv_at hl 0 rfl) ?_
      refine va_get (D := D) (ci := 1) (v := .int (nI (s_n S))) (C := RX1) (T := TX1) (N := 9) hx hb hts hin hown hK hP 0 rfl rfl 0 (by decide) f_35 (fun _ h9 => h9) rfl dX1_trials_6 ?_
      refine xn_ge (i := i1) (j := (s_n S)) (tgt := 27) hx hb (by omega) (by omega) dX1_trials_9 (by decide) (fun c1 => ?_) (fun c1 => ?_)
      · refine lv_iload_n hx hb dX1_trials_27 rfl (lv_at hl 1 rfl) ?_
        exact W.iret (v := (nI acc)) hx hb hr (fun t ht hW => ⟨_, rfl, by rw [hacc, show i1 = s_n S by omega]; try rfl, ht⟩) (fun q h => by cases h) dX1_trials_28
      · exfalso; omega
    | succ m1 ih =>
      intro i1 acc hm1 hacc ls hl
      refine lv_iload_n hx hb dX1_trials_4 rfl (lv_at hl 2 rfl) ?_
      refine lv_aload_n hx hb dX1_trials_5 rfl (lv_at hl 0 rfl) ?_
      refine va_get (D := D) (ci := 1) (v := .int (nI (s_n S))) (C := RX1) (T := TX1) (N := 9) hx hb hts hin hown hK hP 0 rfl rfl 0 (by decide) f_35 (fun _ h9 => h9) rfl dX1_trials_6 ?_
      refine xn_ge (i := i1) (j := (s_n S)) (tgt := 27) hx hb (by omega) (by omega) dX1_trials_9 (by decide) (fun c2 => ?_) (fun c2 => ?_)
      · exfalso; omega
      · refine lv_iload_n hx hb dX1_trials_12 rfl (lv_at hl 1 rfl) ?_
        refine lv_aload_n hx hb dX1_trials_13 rfl (lv_at hl 0 rfl) ?_
        refine va_get (D := D) (ci := 1) (v := .ref (A 1)) (C := RX1) (T := TX1) (N := 9) hx hb hts hin hown hK hP 0 rfl rfl 4 (by decide) f_19 (fun _ h9 => h9) rfl dX1_trials_14 ?_
        refine lv_iload_n hx hb dX1_trials_17 rfl (lv_at hl 2 rfl) ?_
        refine xa_ld (i := i1) (v := (nI ((s_tr S) i1))) hx hb hK hP 1 0 rfl rfl (by omega) (by decide) (rfl) dX1_trials_18 ?_
        refine xn_add (i := acc) (j := ((s_tr S) i1)) hx hb dX1_trials_19 ?_
        refine lv_istore_n (lv' := [(1, .int (nI (acc + ((s_tr S) i1)))), (0, .ref (A 0)), (2, .int (nI i1))]) hx hb dX1_trials_20 rfl hl (by decide) rfl (fun ls hl => ?_)
        refine lv_iinc (v := (nI (i1 + 1))) (lv' := [(2, .int (nI (i1 + 1))), (1, .int (nI (acc + ((s_tr S) i1)))), (0, .ref (A 0))]) hx hb dX1_trials_21 hl (k := 2) rfl (nI_add i1 1) (by decide) rfl (fun ls hl => ?_)
        refine lv_goto (tgt := 4) hx hb dX1_trials_24 (by decide) ?_
        exact ih (i1 + 1) (acc + ((s_tr S) i1)) (by omega) (by simp [sm, hacc, c2]) ls (lv_sub hl [2, 1, 0] rfl)
  exact L4 (s_n S) 0 0 (by omega) (rfl) ls (lv_sub hl [2, 1, 0] rfl)
set_option maxHeartbeats 4000000 in
set_option maxRecDepth 100000 in
theorem c_X1_first (l : Launch) (D : va_G) (A : Nat → Nat) (K : Nat → ClassId) (S : XS) (hI : x_inv S) : Met l yX1_first wsX1_first (rmD 5) (va_Pc [.ref (A 0)] (i_w D vwCl (wM A K S) (tM K))) (vp_Si (fun r => r = (m_first S))) 0 0 (fun _ => False) := by
  refine Met.ofW (cc := cX1_first) (maxL := 2) (ret := some .int) (by decide) rfl ?_
  intro p e s m args below meth c s₁ B hml hv
  obtain ⟨rfl, hP, hK⟩ := hv
  have hx := B.exec
  have hb := B.bytes
  have hr := B.returns
  have hts := atoms_spec (ws := wsX1_first) B.pre
  have hown : s.vm.findClass RX1 = some m.cls := findClass_of_methodNamed B.named
  have hlocks := B.notSynchronized
  have hn8 := hI.1
  have hin : ∀ w ∈ u_ws RX1 TX1 9, w ∈ wsX1_first := fun w h => List.mem_cons_of_mem _ (List.mem_append_right _ h)
  have f_23 := hts (.fieldLink RX1 23 "ChronoTrialsModel" "best" "[I") (by decide +kernel)
  have hl := lv_entry ([.ref (A 0)]) (n := 2) (Nat.le_of_ble_eq_true rfl)
  rw [lg_entry_eq]
  generalize (lg_sl ([.ref (A 0)]) ++ List.replicate (2 - (lg_sl ([.ref (A 0)])).length) Slot.unset).toArray = ls at hl ⊢
  have hl : lv_has ls 2 [(0, .ref (A 0))] := hl
  refine lv_aload_n hx hb dX1_first_0 rfl (lv_at hl 0 rfl) ?_
  refine lv_iconst (v := 0) hx hb dX1_first_1 (by decide) ?_
  refine rc_V (v := (m_place S 0)) ⟨hx, hb, hml, hown, hts⟩ [.int 0] [] (c_X1_place l D A K S hI 0) (cwV 1 hts gX1_first_X1_place rfl rfl rfl (by decide +kernel) ⟨Nat.le_of_ble_eq_true rfl, Nat.le_of_ble_eq_true rfl⟩) hK hP (va_recv hK hP (ci := 1) (q0 := 0) rfl rfl) rfl hl.1 rfl (Nat.le_of_ble_eq_true rfl) ⟨Nat.zero_le _, Nat.zero_le _⟩ dX1_first_2 ?_
  rcases m_place_c S 0 with e0 | ⟨j, hj, e0⟩
  · rw [e0]
    refine lv_istore_n (lv' := [(1, .int (-1)), (0, .ref (A 0))]) hx hb dX1_first_5 rfl hl (by decide) rfl (fun ls hl => ?_)
    refine lv_iload_n hx hb dX1_first_6 rfl (lv_at hl 0 rfl) ?_
    refine lv_iconst (v := (-1)) hx hb dX1_first_7 (by decide) ?_
    refine lv_icmp_eq (tgt := 21) hx hb dX1_first_8 (by decide) (fun c1 => ?_) (fun c1 => ?_)
    · refine lv_iconst (v := (-1)) hx hb dX1_first_21 (by decide) ?_
      refine lv_goto (tgt := 26) hx hb dX1_first_22 (by decide) ?_
      exact W.iret (v := (-1)) hx hb hr (fun t ht hW => ⟨_, rfl, by simp [m_first, e0, c1], ht⟩) (fun q h => by cases h) dX1_first_26
    · exact absurd rfl c1
  · rw [e0]
    have ej : (nI j).toNatClampNeg = j := nI_clamp (by omega)
    refine lv_istore_n (lv' := [(1, .int (nI j)), (0, .ref (A 0))]) hx hb dX1_first_5 rfl hl (by decide) rfl (fun ls hl => ?_)
    refine lv_iload_n hx hb dX1_first_6 rfl (lv_at hl 0 rfl) ?_
    refine lv_iconst (v := (-1)) hx hb dX1_first_7 (by decide) ?_
    refine lv_icmp_eq (tgt := 21) hx hb dX1_first_8 (by decide) (fun c2 => ?_) (fun c2 => ?_)
    · refine lv_iconst (v := (-1)) hx hb dX1_first_21 (by decide) ?_
      refine lv_goto (tgt := 26) hx hb dX1_first_22 (by decide) ?_
      exact W.iret (v := (-1)) hx hb hr (fun t ht hW => ⟨_, rfl, by simp [m_first, e0, ej, c2], ht⟩) (fun q h => by cases h) dX1_first_26
    · refine lv_aload_n hx hb dX1_first_11 rfl (lv_at hl 1 rfl) ?_
      refine va_get (D := D) (ci := 1) (v := .ref (A 2)) (C := RX1) (T := TX1) (N := 9) hx hb hts hin hown hK hP 0 rfl rfl 5 (by decide) f_23 (fun _ h9 => h9) rfl dX1_first_12 ?_
      refine lv_iload_n hx hb dX1_first_15 rfl (lv_at hl 0 rfl) ?_
      refine xa_ld (i := j) (v := ((s_bs S) j)) hx hb hK hP 2 1 rfl rfl (by omega) (by decide) (rfl) dX1_first_16 ?_
      refine lv_iconst (v := (-1)) hx hb dX1_first_17 (by decide) ?_
      refine lv_icmp_ne (tgt := 25) hx hb dX1_first_18 (by decide) (fun c3 => ?_) (fun c3 => ?_)
      · refine lv_iload_n hx hb dX1_first_25 rfl (lv_at hl 0 rfl) ?_
        exact W.iret (v := (nI j)) hx hb hr (fun t ht hW => ⟨_, rfl, by simp [m_first, e0, ej, c2, c3], ht⟩) (fun q h => by cases h) dX1_first_26
      · refine lv_iconst (v := (-1)) hx hb dX1_first_21 (by decide) ?_
        refine lv_goto (tgt := 26) hx hb dX1_first_22 (by decide) ?_
        exact W.iret (v := (-1)) hx hb hr (fun t ht hW => ⟨_, rfl, by simp [m_first, e0, ej, c2, c3], ht⟩) (fun q h => by cases h) dX1_first_26
