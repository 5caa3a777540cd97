set_option maxHeartbeats 4000000 in
set_option maxRecDepth 100000 in
theorem c_X0_init (l : Launch) (D : va_G) (h0 sz : Nat) : Met l yX0_init wsX0_init ({ frames := 1, cells := 5, slots := 120, locals := 12 }) (va_Pc [.ref h0] (Pw D (w0X h0) [] sz)) (va_Qv (fun u : (Nat → Nat) × (Nat → ClassId) => u.1 0 = h0) (fun u t => va_P D vwCl (wX u.1 u.2 S0) t.heap ∧ va_K D vwCl (tX u.2) t ∧ va_D (va_A (w0X h0) sz) (wX u.1 u.2 S0)) (va_A (w0X h0) sz)) 5 120 (va_A (w0X h0) sz) := by
  refine Met.ofW (cc := cX0_init) (maxL := 1) (ret := none) (by decide) rfl ?_
  intro p e s m args below meth c s₁ B hml hv
  obtain ⟨rfl, hsz, hP, hK, hD0⟩ := hv
  have hx := B.exec
  have hb := B.bytes
  have hr := B.returns
  have hts := atoms_spec (ws := wsX0_init) B.pre
  have hown : s.vm.findClass RX0 = some m.cls := findClass_of_methodNamed B.named
  have hlocks := B.notSynchronized
  have hin2 : meth.name = "<init>" := (name_of_methodNamed B.named B.method).1
  have hin : ∀ w ∈ u_ws RX0 TX0 9, w ∈ wsX0_init := fun w h => List.mem_cons_of_mem _ (List.mem_append_right _ h)
  subst hsz
  have hD := hD0.self (sz := s.heap.size)
  generalize hAe : va_A (w0X h0) s.heap.size = A9 at hD ⊢
  have hA : ∀ q : Nat, s.heap.size ≤ q → A9 q := fun q h => by rw [← hAe]; exact Or.inr h
  have hS : va_S A9 s.heap s.heap [] := va_S.rf
  have hP : va_P D vwCl [(h0, .inr (0, [.null, .null, .null, .null, .null, .int 0, .int 0, .int 0, .int 0]))] s.heap := hP
  have hD : va_D A9 [(h0, .inr (0, [.null, .null, .null, .null, .null, .int 0, .int 0, .int 0, .int 0]))] := hD
  have hl := lv_entry ([.ref h0]) (n := 1) (Nat.le_of_ble_eq_true rfl)
  rw [lg_entry_eq]
  generalize (lg_sl ([.ref h0]) ++ List.replicate (1 - (lg_sl ([.ref h0])).length) Slot.unset).toArray = ls at hl ⊢
  have hl : lv_has ls 1 [(0, .ref h0)] := hl
  refine lv_aload_n hx hb dX0_init_0 rfl (lv_at hl 0 rfl) ?_
  refine W.objInit hx hb hown (hts (.methodLink RX0 1 objectInit) (by decide +kernel)) (hts (.instanceMethod objectInit) (by decide +kernel)) (hts _ (List.mem_cons_of_mem _ (List.mem_append_left _ (List.mem_of_getElem? (i := 2) rfl)))) rfl (by rw [hml]; exact hl.1) rfl dX0_init_1 (Nat.le_of_ble_eq_true rfl) (Nat.le_of_ble_eq_true rfl) ?_
  refine W.eq (g2 := F0 m 4 ls []) rfl ?_
  refine lv_aload_n hx hb dX0_init_4 rfl (lv_at hl 0 rfl) ?_
  refine lv_bipush (v := 48) hx hb dX0_init_5 (by decide) ?_
  refine va_newa (D := D) (atype := .int) (ty := .int) (n := 48) (N' := 48) (a0 := (48, .inl (fun _ => 0))) hx hb (hts (.arrayClass .int) (by decide +kernel)) rfl hK hP hD hS hA (fun cA => vp_cell_i cA 48 (fun _ => 0)) (by decide) (by decide) (by decide) (Nat.le_of_ble_eq_true rfl) (Nat.le_of_ble_eq_true rfl) dX0_init_7 (fun q1 k1 H hK hP hD hS => ?_)
  have hK : va_K D vwCl [(k1, .int)] s := hK
  have hP : va_P D vwCl [(h0, .inr (0, [.null, .null, .null, .null, .null, .int 0, .int 0, .int 0, .int 0])), (q1, .inl (k1, 48, .inl (fun _ => 0)))] H := hP
  have hD : va_D A9 [(h0, .inr (0, [.null, .null, .null, .null, .null, .int 0, .int 0, .int 0, .int 0])), (q1, .inl (k1, 48, .inl (fun _ => 0)))] := hD
  refine W.widen (k := 1) (n := 48) (Nat.le_of_ble_eq_true rfl) (Nat.le_of_ble_eq_true rfl) ?_
  refine va_putF (D := D) (ci := 0) (v := .ref q1) (ty := .array .int) (C := RX0) (T := TX0) (N := 9) hx hb hts hin tyX0 tyX0_ok nmX0 hown hK hP hD hS 0 rfl rfl 0 (by decide) (hts (.fieldLink RX0 9 "ChronoTrials" "rates" "[I") (by decide +kernel)) (fun _ h9 => h9) rfl hin2 rfl (by decide +kernel) rfl rfl (Nat.le_of_ble_eq_true rfl) dX0_init_9 (fun H locs hP hD hS => ?_)
  have hP : va_P D vwCl [(h0, .inr (0, [.ref q1, .null, .null, .null, .null, .int 0, .int 0, .int 0, .int 0])), (q1, .inl (k1, 48, .inl (fun _ => 0)))] H := hP
  have hD : va_D A9 [(h0, .inr (0, [.ref q1, .null, .null, .null, .null, .int 0, .int 0, .int 0, .int 0])), (q1, .inl (k1, 48, .inl (fun _ => 0)))] := hD
  refine lv_aload_n hx hb dX0_init_12 rfl (lv_at hl 0 rfl) ?_
  refine lv_bipush (v := 48) hx hb dX0_init_13 (by decide) ?_
  refine va_newa (D := D) (atype := .int) (ty := .int) (n := 48) (N' := 48) (a0 := (48, .inl (fun _ => 0))) hx hb (hts (.arrayClass .int) (by decide +kernel)) rfl hK hP hD hS hA (fun cA => vp_cell_i cA 48 (fun _ => 0)) (by decide) (by decide) (by decide) (Nat.le_of_ble_eq_true rfl) (Nat.le_of_ble_eq_true rfl) dX0_init_15 (fun q2 k2 H hK hP hD hS => ?_)
  have hK : va_K D vwCl [(k1, .int), (k2, .int)] s := hK
  have hP : va_P D vwCl [(h0, .inr (0, [.ref q1, .null, .null, .null, .null, .int 0, .int 0, .int 0, .int 0])), (q1, .inl (k1, 48, .inl (fun _ => 0))), (q2, .inl (k2, 48, .inl (fun _ => 0)))] H := hP
  have hD : va_D A9 [(h0, .inr (0, [.ref q1, .null, .null, .null, .null, .int 0, .int 0, .int 0, .int 0])), (q1, .inl (k1, 48, .inl (fun _ => 0))), (q2, .inl (k2, 48, .inl (fun _ => 0)))] := hD
  refine W.widen (k := 2) (n := 96) (Nat.le_of_ble_eq_true rfl) (Nat.le_of_ble_eq_true rfl) ?_
  refine va_putF (D := D) (ci := 0) (v := .ref q2) (ty := .array .int) (C := RX0) (T := TX0) (N := 9) hx hb hts hin tyX0 tyX0_ok nmX0 hown hK hP hD hS 0 rfl rfl 1 (by decide) (hts (.fieldLink RX0 13 "ChronoTrials" "chills" "[I") (by decide +kernel)) (fun _ h9 => h9) rfl hin2 rfl (by decide +kernel) rfl rfl (Nat.le_of_ble_eq_true rfl) dX0_init_17 (fun H locs hP hD hS => ?_)
  have hP : va_P D vwCl [(h0, .inr (0, [.ref q1, .ref q2, .null, .null, .null, .int 0, .int 0, .int 0, .int 0])), (q1, .inl (k1, 48, .inl (fun _ => 0))), (q2, .inl (k2, 48, .inl (fun _ => 0)))] H := hP
  have hD : va_D A9 [(h0, .inr (0, [.ref q1, .ref q2, .null, .null, .null, .int 0, .int 0, .int 0, .int 0])), (q1, .inl (k1, 48, .inl (fun _ => 0))), (q2, .inl (k2, 48, .inl (fun _ => 0)))] := hD
  refine lv_aload_n hx hb dX0_init_20 rfl (lv_at hl 0 rfl) ?_
  refine lv_bipush (v := 8) hx hb dX0_init_21 (by decide) ?_
  refine va_newa (D := D) (atype := .int) (ty := .int) (n := 8) (N' := 8) (a0 := (8, .inl (fun _ => 0))) hx hb (hts (.arrayClass .int) (by decide +kernel)) rfl hK hP hD hS hA (fun cA => vp_cell_i cA 8 (fun _ => 0)) (by decide) (by decide) (by decide) (Nat.le_of_ble_eq_true rfl) (Nat.le_of_ble_eq_true rfl) dX0_init_23 (fun q3 k3 H hK hP hD hS => ?_)
  have hK : va_K D vwCl [(k1, .int), (k2, .int), (k3, .int)] s := hK
  have hP : va_P D vwCl [(h0, .inr (0, [.ref q1, .ref q2, .null, .null, .null, .int 0, .int 0, .int 0, .int 0])), (q1, .inl (k1, 48, .inl (fun _ => 0))), (q2, .inl (k2, 48, .inl (fun _ => 0))), (q3, .inl (k3, 8, .inl (fun _ => 0)))] H := hP
  have hD : va_D A9 [(h0, .inr (0, [.ref q1, .ref q2, .null, .null, .null, .int 0, .int 0, .int 0, .int 0])), (q1, .inl (k1, 48, .inl (fun _ => 0))), (q2, .inl (k2, 48, .inl (fun _ => 0))), (q3, .inl (k3, 8, .inl (fun _ => 0)))] := hD
  refine W.widen (k := 3) (n := 104) (Nat.le_of_ble_eq_true rfl) (Nat.le_of_ble_eq_true rfl) ?_
  refine va_putF (D := D) (ci := 0) (v := .ref q3) (ty := .array .int) (C := RX0) (T := TX0) (N := 9) hx hb hts hin tyX0 tyX0_ok nmX0 hown hK hP hD hS 0 rfl rfl 2 (by decide) (hts (.fieldLink RX0 16 "ChronoTrials" "trialsOf" "[I") (by decide +kernel)) (fun _ h9 => h9) rfl hin2 rfl (by decide +kernel) rfl rfl (Nat.le_of_ble_eq_true rfl) dX0_init_25 (fun H locs hP hD hS => ?_)
  have hP : va_P D vwCl [(h0, .inr (0, [.ref q1, .ref q2, .ref q3, .null, .null, .int 0, .int 0, .int 0, .int 0])), (q1, .inl (k1, 48, .inl (fun _ => 0))), (q2, .inl (k2, 48, .inl (fun _ => 0))), (q3, .inl (k3, 8, .inl (fun _ => 0)))] H := hP
  have hD : va_D A9 [(h0, .inr (0, [.ref q1, .ref q2, .ref q3, .null, .null, .int 0, .int 0, .int 0, .int 0])), (q1, .inl (k1, 48, .inl (fun _ => 0))), (q2, .inl (k2, 48, .inl (fun _ => 0))), (q3, .inl (k3, 8, .inl (fun _ => 0)))] := hD
  refine lv_aload_n hx hb dX0_init_28 rfl (lv_at hl 0 rfl) ?_
  refine lv_bipush (v := 8) hx hb dX0_init_29 (by decide) ?_
  refine va_newa (D := D) (atype := .int) (ty := .int) (n := 8) (N' := 8) (a0 := (8, .inl (fun _ => 0))) hx hb (hts (.arrayClass .int) (by decide +kernel)) rfl hK hP hD hS hA (fun cA => vp_cell_i cA 8 (fun _ => 0)) (by decide) (by decide) (by decide) (Nat.le_of_ble_eq_true rfl) (Nat.le_of_ble_eq_true rfl) dX0_init_31 (fun q4 k4 H hK hP hD hS => ?_)
  have hK : va_K D vwCl [(k1, .int), (k2, .int), (k3, .int), (k4, .int)] s := hK
  have hP : va_P D vwCl [(h0, .inr (0, [.ref q1, .ref q2, .ref q3, .null, .null, .int 0, .int 0, .int 0, .int 0])), (q1, .inl (k1, 48, .inl (fun _ => 0))), (q2, .inl (k2, 48, .inl (fun _ => 0))), (q3, .inl (k3, 8, .inl (fun _ => 0))), (q4, .inl (k4, 8, .inl (fun _ => 0)))] H := hP
  have hD : va_D A9 [(h0, .inr (0, [.ref q1, .ref q2, .ref q3, .null, .null, .int 0, .int 0, .int 0, .int 0])), (q1, .inl (k1, 48, .inl (fun _ => 0))), (q2, .inl (k2, 48, .inl (fun _ => 0))), (q3, .inl (k3, 8, .inl (fun _ => 0))), (q4, .inl (k4, 8, .inl (fun _ => 0)))] := hD
  refine W.widen (k := 4) (n := 112) (Nat.le_of_ble_eq_true rfl) (Nat.le_of_ble_eq_true rfl) ?_
  refine va_putF (D := D) (ci := 0) (v := .ref q4) (ty := .array .int) (C := RX0) (T := TX0) (N := 9) hx hb hts hin tyX0 tyX0_ok nmX0 hown hK hP hD hS 0 rfl rfl 3 (by decide) (hts (.fieldLink RX0 19 "ChronoTrials" "bests" "[I") (by decide +kernel)) (fun _ h9 => h9) rfl hin2 rfl (by decide +kernel) rfl rfl (Nat.le_of_ble_eq_true rfl) dX0_init_33 (fun H locs hP hD hS => ?_)
  have hP : va_P D vwCl [(h0, .inr (0, [.ref q1, .ref q2, .ref q3, .ref q4, .null, .int 0, .int 0, .int 0, .int 0])), (q1, .inl (k1, 48, .inl (fun _ => 0))), (q2, .inl (k2, 48, .inl (fun _ => 0))), (q3, .inl (k3, 8, .inl (fun _ => 0))), (q4, .inl (k4, 8, .inl (fun _ => 0)))] H := hP
  have hD : va_D A9 [(h0, .inr (0, [.ref q1, .ref q2, .ref q3, .ref q4, .null, .int 0, .int 0, .int 0, .int 0])), (q1, .inl (k1, 48, .inl (fun _ => 0))), (q2, .inl (k2, 48, .inl (fun _ => 0))), (q3, .inl (k3, 8, .inl (fun _ => 0))), (q4, .inl (k4, 8, .inl (fun _ => 0)))] := hD
  refine lv_aload_n hx hb dX0_init_36 rfl (lv_at hl 0 rfl) ?_
  refine lv_bipush (v := 8) hx hb dX0_init_37 (by decide) ?_
  refine va_newa (D := D) (atype := .boolean) (ty := .boolean) (n := 8) (N' := 8) (a0 := (8, .inl (fun _ => 0))) hx hb (hts (.arrayClass .boolean) (by decide +kernel)) rfl hK hP hD hS hA (fun cA => vp_cell_i cA 8 (fun _ => 0)) (by decide) (by decide) (by decide) (Nat.le_of_ble_eq_true rfl) (Nat.le_of_ble_eq_true rfl) dX0_init_39 (fun q5 k5 H hK hP hD hS => ?_)
  have hK : va_K D vwCl [(k1, .int), (k2, .int), (k3, .int), (k4, .int), (k5, .boolean)] s := hK
  have hP : va_P D vwCl [(h0, .inr (0, [.ref q1, .ref q2, .ref q3, .ref q4, .null, .int 0, .int 0, .int 0, .int 0])), (q1, .inl (k1, 48, .inl (fun _ => 0))), (q2, .inl (k2, 48, .inl (fun _ => 0))), (q3, .inl (k3, 8, .inl (fun _ => 0))), (q4, .inl (k4, 8, .inl (fun _ => 0))), (q5, .inl (k5, 8, .inl (fun _ => 0)))] H := hP
  have hD : va_D A9 [(h0, .inr (0, [.ref q1, .ref q2, .ref q3, .ref q4, .null, .int 0, .int 0, .int 0, .int 0])), (q1, .inl (k1, 48, .inl (fun _ => 0))), (q2, .inl (k2, 48, .inl (fun _ => 0))), (q3, .inl (k3, 8, .inl (fun _ => 0))), (q4, .inl (k4, 8, .inl (fun _ => 0))), (q5, .inl (k5, 8, .inl (fun _ => 0)))] := hD
  refine W.widen (k := 5) (n := 120) (Nat.le_of_ble_eq_true rfl) (Nat.le_of_ble_eq_true rfl) ?_
  refine va_putF (D := D) (ci := 0) (v := .ref q5) (ty := .array .boolean) (C := RX0) (T := TX0) (N := 9) hx hb hts hin tyX0 tyX0_ok nmX0 hown hK hP hD hS 0 rfl rfl 4 (by decide) (hts (.fieldLink RX0 22 "ChronoTrials" "seals" "[Z") (by decide +kernel)) (fun _ h9 => h9) rfl hin2 rfl (by decide +kernel) rfl rfl (Nat.le_of_ble_eq_true rfl) dX0_init_41 (fun H locs hP hD hS => ?_)
  have hP : va_P D vwCl [(h0, .inr (0, [.ref q1, .ref q2, .ref q3, .ref q4, .ref q5, .int 0, .int 0, .int 0, .int 0])), (q1, .inl (k1, 48, .inl (fun _ => 0))), (q2, .inl (k2, 48, .inl (fun _ => 0))), (q3, .inl (k3, 8, .inl (fun _ => 0))), (q4, .inl (k4, 8, .inl (fun _ => 0))), (q5, .inl (k5, 8, .inl (fun _ => 0)))] H := hP
  have hD : va_D A9 [(h0, .inr (0, [.ref q1, .ref q2, .ref q3, .ref q4, .ref q5, .int 0, .int 0, .int 0, .int 0])), (q1, .inl (k1, 48, .inl (fun _ => 0))), (q2, .inl (k2, 48, .inl (fun _ => 0))), (q3, .inl (k3, 8, .inl (fun _ => 0))), (q4, .inl (k4, 8, .inl (fun _ => 0))), (q5, .inl (k5, 8, .inl (fun _ => 0)))] := hD
  refine lv_aload_n hx hb dX0_init_44 rfl (lv_at hl 0 rfl) ?_
  refine lv_iconst (v := 0) hx hb dX0_init_45 (by decide) ?_
  refine va_put (D := D) (ci := 0) (v := .int 0) (ty := .int) (C := RX0) (T := TX0) (N := 9) hx hb hts hin tyX0 tyX0_ok nmX0 hown hK hP hD hS 0 rfl rfl 5 (by decide) (hts (.fieldLink RX0 26 "ChronoTrials" "clocks" "I") (by decide +kernel)) (fun _ h9 => h9) rfl (by decide +kernel) rfl rfl (Nat.le_of_ble_eq_true rfl) dX0_init_46 (fun H locs hP hD hS => ?_)
  have hP : va_P D vwCl [(h0, .inr (0, [.ref q1, .ref q2, .ref q3, .ref q4, .ref q5, .int 0, .int 0, .int 0, .int 0])), (q1, .inl (k1, 48, .inl (fun _ => 0))), (q2, .inl (k2, 48, .inl (fun _ => 0))), (q3, .inl (k3, 8, .inl (fun _ => 0))), (q4, .inl (k4, 8, .inl (fun _ => 0))), (q5, .inl (k5, 8, .inl (fun _ => 0)))] H := hP
  have hD : va_D A9 [(h0, .inr (0, [.ref q1, .ref q2, .ref q3, .ref q4, .ref q5, .int 0, .int 0, .int 0, .int 0])), (q1, .inl (k1, 48, .inl (fun _ => 0))), (q2, .inl (k2, 48, .inl (fun _ => 0))), (q3, .inl (k3, 8, .inl (fun _ => 0))), (q4, .inl (k4, 8, .inl (fun _ => 0))), (q5, .inl (k5, 8, .inl (fun _ => 0)))] := hD
  refine lv_aload_n hx hb dX0_init_49 rfl (lv_at hl 0 rfl) ?_
  refine lv_iconst (v := (-1)) hx hb dX0_init_50 (by decide) ?_
  refine va_put (D := D) (ci := 0) (v := .int (-1)) (ty := .int) (C := RX0) (T := TX0) (N := 9) hx hb hts hin tyX0 tyX0_ok nmX0 hown hK hP hD hS 0 rfl rfl 6 (by decide) (hts (.fieldLink RX0 30 "ChronoTrials" "prizeRate" "I") (by decide +kernel)) (fun _ h9 => h9) rfl (by decide +kernel) rfl rfl (Nat.le_of_ble_eq_true rfl) dX0_init_51 (fun H locs hP hD hS => ?_)
  have hP : va_P D vwCl [(h0, .inr (0, [.ref q1, .ref q2, .ref q3, .ref q4, .ref q5, .int 0, .int (-1), .int 0, .int 0])), (q1, .inl (k1, 48, .inl (fun _ => 0))), (q2, .inl (k2, 48, .inl (fun _ => 0))), (q3, .inl (k3, 8, .inl (fun _ => 0))), (q4, .inl (k4, 8, .inl (fun _ => 0))), (q5, .inl (k5, 8, .inl (fun _ => 0)))] H := hP
  have hD : va_D A9 [(h0, .inr (0, [.ref q1, .ref q2, .ref q3, .ref q4, .ref q5, .int 0, .int (-1), .int 0, .int 0])), (q1, .inl (k1, 48, .inl (fun _ => 0))), (q2, .inl (k2, 48, .inl (fun _ => 0))), (q3, .inl (k3, 8, .inl (fun _ => 0))), (q4, .inl (k4, 8, .inl (fun _ => 0))), (q5, .inl (k5, 8, .inl (fun _ => 0)))] := hD
  refine lv_aload_n hx hb dX0_init_54 rfl (lv_at hl 0 rfl) ?_
  refine lv_iconst (v := (-1)) hx hb dX0_init_55 (by decide) ?_
  refine va_put (D := D) (ci := 0) (v := .int (-1)) (ty := .int) (C := RX0) (T := TX0) (N := 9) hx hb hts hin tyX0 tyX0_ok nmX0 hown hK hP hD hS 0 rfl rfl 7 (by decide) (hts (.fieldLink RX0 33 "ChronoTrials" "recordRate" "I") (by decide +kernel)) (fun _ h9 => h9) rfl (by decide +kernel) rfl rfl (Nat.le_of_ble_eq_true rfl) dX0_init_56 (fun H locs hP hD hS => ?_)
  have hP : va_P D vwCl [(h0, .inr (0, [.ref q1, .ref q2, .ref q3, .ref q4, .ref q5, .int 0, .int (-1), .int (-1), .int 0])), (q1, .inl (k1, 48, .inl (fun _ => 0))), (q2, .inl (k2, 48, .inl (fun _ => 0))), (q3, .inl (k3, 8, .inl (fun _ => 0))), (q4, .inl (k4, 8, .inl (fun _ => 0))), (q5, .inl (k5, 8, .inl (fun _ => 0)))] H := hP
  have hD : va_D A9 [(h0, .inr (0, [.ref q1, .ref q2, .ref q3, .ref q4, .ref q5, .int 0, .int (-1), .int (-1), .int 0])), (q1, .inl (k1, 48, .inl (fun _ => 0))), (q2, .inl (k2, 48, .inl (fun _ => 0))), (q3, .inl (k3, 8, .inl (fun _ => 0))), (q4, .inl (k4, 8, .inl (fun _ => 0))), (q5, .inl (k5, 8, .inl (fun _ => 0)))] := hD
  refine lv_aload_n hx hb dX0_init_59 rfl (lv_at hl 0 rfl) ?_
  refine lv_bipush (v := 100) hx hb dX0_init_60 (by decide) ?_
  refine va_put (D := D) (ci := 0) (v := .int 100) (ty := .int) (C := RX0) (T := TX0) (N := 9) hx hb hts hin tyX0 tyX0_ok nmX0 hown hK hP hD hS 0 rfl rfl 8 (by decide) (hts (.fieldLink RX0 36 "ChronoTrials" "frostChill" "I") (by decide +kernel)) (fun _ h9 => h9) rfl (by decide +kernel) rfl rfl (Nat.le_of_ble_eq_true rfl) dX0_init_62 (fun H locs hP hD hS => ?_)
  have hP : va_P D vwCl [(h0, .inr (0, [.ref q1, .ref q2, .ref q3, .ref q4, .ref q5, .int 0, .int (-1), .int (-1), .int 100])), (q1, .inl (k1, 48, .inl (fun _ => 0))), (q2, .inl (k2, 48, .inl (fun _ => 0))), (q3, .inl (k3, 8, .inl (fun _ => 0))), (q4, .inl (k4, 8, .inl (fun _ => 0))), (q5, .inl (k5, 8, .inl (fun _ => 0)))] H := hP
  have hD : va_D A9 [(h0, .inr (0, [.ref q1, .ref q2, .ref q3, .ref q4, .ref q5, .int 0, .int (-1), .int (-1), .int 100])), (q1, .inl (k1, 48, .inl (fun _ => 0))), (q2, .inl (k2, 48, .inl (fun _ => 0))), (q3, .inl (k3, 8, .inl (fun _ => 0))), (q4, .inl (k4, 8, .inl (fun _ => 0))), (q5, .inl (k5, 8, .inl (fun _ => 0)))] := hD
  have hP9 : va_P D vwCl (wX (adr h0 q1 q2 q3 q4 q5) (adk k1 k2 k3 k4 k5) S0) H := hP
  have hK9 : va_K D vwCl (tX (adk k1 k2 k3 k4 k5)) s := hK
  have hD9 : va_D A9 (wX (adr h0 q1 q2 q3 q4 q5) (adk k1 k2 k3 k4 k5) S0) := hD
  exact W.vret hx hb hr (fun t ht hW => ⟨⟨(adr h0 q1 q2 q3 q4 q5, adk k1 k2 k3 k4 k5), rfl, rfl, by rw [ht]; exact hP9, va_K.moved hW.alike hK9, hD9⟩, hS.F ht⟩) hS.2.2 dX0_init_65
set_option maxHeartbeats 4000000 in
set_option maxRecDepth 100000 in
theorem c_X1_init (l : Launch) (D : va_G) (h0 sz : Nat) : Met l yX1_init wsX1_init ({ frames := 1, cells := 5, slots := 120, locals := 12 }) (va_Pc [.ref h0] (Pw D (w0M h0) [] sz)) (va_Qv (fun u : (Nat → Nat) × (Nat → ClassId) => u.1 0 = h0) (fun u t => va_P D vwCl (wM u.1 u.2 S0) t.heap ∧ va_K D vwCl (tM u.2) t ∧ va_D (va_A (w0M h0) sz) (wM u.1 u.2 S0)) (va_A (w0M h0) sz)) 5 120 (va_A (w0M h0) sz) := by
  refine Met.ofW (cc := cX1_init) (maxL := 1) (ret := none) (by decide) rfl ?_
  intro p e s m args below meth c s₁ B hml hv
  obtain ⟨rfl, hsz, hP, hK, hD0⟩ := hv
  have hx := B.exec
  have hb := B.bytes
  have hr := B.returns
  have hts := atoms_spec (ws := wsX1_init) B.pre
  have hown : s.vm.findClass RX1 = some m.cls := findClass_of_methodNamed B.named
  have hlocks := B.notSynchronized
  have hin2 : meth.name = "<init>" := (name_of_methodNamed B.named B.method).1
  have hin : ∀ w ∈ u_ws RX1 TX1 9, w ∈ wsX1_init := fun w h => List.mem_cons_of_mem _ (List.mem_append_right _ h)
  subst hsz
  have hD := hD0.self (sz := s.heap.size)
  generalize hAe : va_A (w0M h0) s.heap.size = A9 at hD ⊢
  have hA : ∀ q : Nat, s.heap.size ≤ q → A9 q := fun q h => by rw [← hAe]; exact Or.inr h
  have hS : va_S A9 s.heap s.heap [] := va_S.rf
  have hP : va_P D vwCl [(h0, .inr (1, [.int 0, .int 0, .int 0, .int 0, .null, .null, .null, .null, .null]))] s.heap := hP
  have hD : va_D A9 [(h0, .inr (1, [.int 0, .int 0, .int 0, .int 0, .null, .null, .null, .null, .null]))] := hD
  have hl := lv_entry ([.ref h0]) (n := 1) (Nat.le_of_ble_eq_true rfl)
  rw [lg_entry_eq]
  generalize (lg_sl ([.ref h0]) ++ List.replicate (1 - (lg_sl ([.ref h0])).length) Slot.unset).toArray = ls at hl ⊢
  have hl : lv_has ls 1 [(0, .ref h0)] := hl
  refine lv_aload_n hx hb dX1_init_0 rfl (lv_at hl 0 rfl) ?_
  refine W.objInit hx hb hown (hts (.methodLink RX1 1 objectInit) (by decide +kernel)) (hts (.instanceMethod objectInit) (by decide +kernel)) (hts _ (List.mem_cons_of_mem _ (List.mem_append_left _ (List.mem_of_getElem? (i := 2) rfl)))) rfl (by rw [hml]; exact hl.1) rfl dX1_init_1 (Nat.le_of_ble_eq_true rfl) (Nat.le_of_ble_eq_true rfl) ?_
  refine W.eq (g2 := F0 m 4 ls []) rfl ?_
  refine lv_aload_n hx hb dX1_init_4 rfl (lv_at hl 0 rfl) ?_
  refine lv_iconst (v := (-1)) hx hb dX1_init_5 (by decide) ?_
  refine va_put (D := D) (ci := 1) (v := .int (-1)) (ty := .int) (C := RX1) (T := TX1) (N := 9) hx hb hts hin tyX1 tyX1_ok nmX1 hown hK hP hD hS 0 rfl rfl 1 (by decide) (hts (.fieldLink RX1 9 "ChronoTrialsModel" "prize" "I") (by decide +kernel)) (fun _ h9 => h9) rfl (by decide +kernel) rfl rfl (Nat.le_of_ble_eq_true rfl) dX1_init_6 (fun H locs hP hD hS => ?_)
  have hP : va_P D vwCl [(h0, .inr (1, [.int 0, .int (-1), .int 0, .int 0, .null, .null, .null, .null, .null]))] H := hP
  have hD : va_D A9 [(h0, .inr (1, [.int 0, .int (-1), .int 0, .int 0, .null, .null, .null, .null, .null]))] := hD
  refine lv_aload_n hx hb dX1_init_9 rfl (lv_at hl 0 rfl) ?_
  refine lv_bipush (v := 100) hx hb dX1_init_10 (by decide) ?_
  refine va_put (D := D) (ci := 1) (v := .int 100) (ty := .int) (C := RX1) (T := TX1) (N := 9) hx hb hts hin tyX1 tyX1_ok nmX1 hown hK hP hD hS 0 rfl rfl 2 (by decide) (hts (.fieldLink RX1 13 "ChronoTrialsModel" "frost" "I") (by decide +kernel)) (fun _ h9 => h9) rfl (by decide +kernel) rfl rfl (Nat.le_of_ble_eq_true rfl) dX1_init_12 (fun H locs hP hD hS => ?_)
  have hP : va_P D vwCl [(h0, .inr (1, [.int 0, .int (-1), .int 100, .int 0, .null, .null, .null, .null, .null]))] H := hP
  have hD : va_D A9 [(h0, .inr (1, [.int 0, .int (-1), .int 100, .int 0, .null, .null, .null, .null, .null]))] := hD
  refine lv_aload_n hx hb dX1_init_15 rfl (lv_at hl 0 rfl) ?_
  refine lv_iconst (v := (-1)) hx hb dX1_init_16 (by decide) ?_
  refine va_put (D := D) (ci := 1) (v := .int (-1)) (ty := .int) (C := RX1) (T := TX1) (N := 9) hx hb hts hin tyX1 tyX1_ok nmX1 hown hK hP hD hS 0 rfl rfl 3 (by decide) (hts (.fieldLink RX1 16 "ChronoTrialsModel" "record" "I") (by decide +kernel)) (fun _ h9 => h9) rfl (by decide +kernel) rfl rfl (Nat.le_of_ble_eq_true rfl) dX1_init_17 (fun H locs hP hD hS => ?_)
  have hP : va_P D vwCl [(h0, .inr (1, [.int 0, .int (-1), .int 100, .int (-1), .null, .null, .null, .null, .null]))] H := hP
  have hD : va_D A9 [(h0, .inr (1, [.int 0, .int (-1), .int 100, .int (-1), .null, .null, .null, .null, .null]))] := hD
  refine lv_aload_n hx hb dX1_init_20 rfl (lv_at hl 0 rfl) ?_
  refine lv_bipush (v := 8) hx hb dX1_init_21 (by decide) ?_
  refine va_newa (D := D) (atype := .int) (ty := .int) (n := 8) (N' := 8) (a0 := (8, .inl (fun _ => 0))) hx hb (hts (.arrayClass .int) (by decide +kernel)) rfl hK hP hD hS hA (fun cA => vp_cell_i cA 8 (fun _ => 0)) (by decide) (by decide) (by decide) (Nat.le_of_ble_eq_true rfl) (Nat.le_of_ble_eq_true rfl) dX1_init_23 (fun q1 k1 H hK hP hD hS => ?_)
  have hK : va_K D vwCl [(k1, .int)] s := hK
  have hP : va_P D vwCl [(h0, .inr (1, [.int 0, .int (-1), .int 100, .int (-1), .null, .null, .null, .null, .null])), (q1, .inl (k1, 8, .inl (fun _ => 0)))] H := hP
  have hD : va_D A9 [(h0, .inr (1, [.int 0, .int (-1), .int 100, .int (-1), .null, .null, .null, .null, .null])), (q1, .inl (k1, 8, .inl (fun _ => 0)))] := hD
  refine W.widen (k := 1) (n := 8) (Nat.le_of_ble_eq_true rfl) (Nat.le_of_ble_eq_true rfl) ?_
  refine va_putF (D := D) (ci := 1) (v := .ref q1) (ty := .array .int) (C := RX1) (T := TX1) (N := 9) hx hb hts hin tyX1 tyX1_ok nmX1 hown hK hP hD hS 0 rfl rfl 4 (by decide) (hts (.fieldLink RX1 19 "ChronoTrialsModel" "many" "[I") (by decide +kernel)) (fun _ h9 => h9) rfl hin2 rfl (by decide +kernel) rfl rfl (Nat.le_of_ble_eq_true rfl) dX1_init_25 (fun H locs hP hD hS => ?_)
  have hP : va_P D vwCl [(h0, .inr (1, [.int 0, .int (-1), .int 100, .int (-1), .ref q1, .null, .null, .null, .null])), (q1, .inl (k1, 8, .inl (fun _ => 0)))] H := hP
  have hD : va_D A9 [(h0, .inr (1, [.int 0, .int (-1), .int 100, .int (-1), .ref q1, .null, .null, .null, .null])), (q1, .inl (k1, 8, .inl (fun _ => 0)))] := hD
  refine lv_aload_n hx hb dX1_init_28 rfl (lv_at hl 0 rfl) ?_
  refine lv_bipush (v := 8) hx hb dX1_init_29 (by decide) ?_
  refine va_newa (D := D) (atype := .int) (ty := .int) (n := 8) (N' := 8) (a0 := (8, .inl (fun _ => 0))) hx hb (hts (.arrayClass .int) (by decide +kernel)) rfl hK hP hD hS hA (fun cA => vp_cell_i cA 8 (fun _ => 0)) (by decide) (by decide) (by decide) (Nat.le_of_ble_eq_true rfl) (Nat.le_of_ble_eq_true rfl) dX1_init_31 (fun q2 k2 H hK hP hD hS => ?_)
  have hK : va_K D vwCl [(k1, .int), (k2, .int)] s := hK
  have hP : va_P D vwCl [(h0, .inr (1, [.int 0, .int (-1), .int 100, .int (-1), .ref q1, .null, .null, .null, .null])), (q1, .inl (k1, 8, .inl (fun _ => 0))), (q2, .inl (k2, 8, .inl (fun _ => 0)))] H := hP
  have hD : va_D A9 [(h0, .inr (1, [.int 0, .int (-1), .int 100, .int (-1), .ref q1, .null, .null, .null, .null])), (q1, .inl (k1, 8, .inl (fun _ => 0))), (q2, .inl (k2, 8, .inl (fun _ => 0)))] := hD
  refine W.widen (k := 2) (n := 16) (Nat.le_of_ble_eq_true rfl) (Nat.le_of_ble_eq_true rfl) ?_
  refine va_putF (D := D) (ci := 1) (v := .ref q2) (ty := .array .int) (C := RX1) (T := TX1) (N := 9) hx hb hts hin tyX1 tyX1_ok nmX1 hown hK hP hD hS 0 rfl rfl 5 (by decide) (hts (.fieldLink RX1 23 "ChronoTrialsModel" "best" "[I") (by decide +kernel)) (fun _ h9 => h9) rfl hin2 rfl (by decide +kernel) rfl rfl (Nat.le_of_ble_eq_true rfl) dX1_init_33 (fun H locs hP hD hS => ?_)
  have hP : va_P D vwCl [(h0, .inr (1, [.int 0, .int (-1), .int 100, .int (-1), .ref q1, .ref q2, .null, .null, .null])), (q1, .inl (k1, 8, .inl (fun _ => 0))), (q2, .inl (k2, 8, .inl (fun _ => 0)))] H := hP
  have hD : va_D A9 [(h0, .inr (1, [.int 0, .int (-1), .int 100, .int (-1), .ref q1, .ref q2, .null, .null, .null])), (q1, .inl (k1, 8, .inl (fun _ => 0))), (q2, .inl (k2, 8, .inl (fun _ => 0)))] := hD
  refine lv_aload_n hx hb dX1_init_36 rfl (lv_at hl 0 rfl) ?_
  refine lv_bipush (v := 8) hx hb dX1_init_37 (by decide) ?_
  refine va_newa (D := D) (atype := .int) (ty := .int) (n := 8) (N' := 8) (a0 := (8, .inl (fun _ => 0))) hx hb (hts (.arrayClass .int) (by decide +kernel)) rfl hK hP hD hS hA (fun cA => vp_cell_i cA 8 (fun _ => 0)) (by decide) (by decide) (by decide) (Nat.le_of_ble_eq_true rfl) (Nat.le_of_ble_eq_true rfl) dX1_init_39 (fun q3 k3 H hK hP hD hS => ?_)
  have hK : va_K D vwCl [(k1, .int), (k2, .int), (k3, .int)] s := hK
  have hP : va_P D vwCl [(h0, .inr (1, [.int 0, .int (-1), .int 100, .int (-1), .ref q1, .ref q2, .null, .null, .null])), (q1, .inl (k1, 8, .inl (fun _ => 0))), (q2, .inl (k2, 8, .inl (fun _ => 0))), (q3, .inl (k3, 8, .inl (fun _ => 0)))] H := hP
  have hD : va_D A9 [(h0, .inr (1, [.int 0, .int (-1), .int 100, .int (-1), .ref q1, .ref q2, .null, .null, .null])), (q1, .inl (k1, 8, .inl (fun _ => 0))), (q2, .inl (k2, 8, .inl (fun _ => 0))), (q3, .inl (k3, 8, .inl (fun _ => 0)))] := hD
  refine W.widen (k := 3) (n := 24) (Nat.le_of_ble_eq_true rfl) (Nat.le_of_ble_eq_true rfl) ?_
  refine va_putF (D := D) (ci := 1) (v := .ref q3) (ty := .array .int) (C := RX1) (T := TX1) (N := 9) hx hb hts hin tyX1 tyX1_ok nmX1 hown hK hP hD hS 0 rfl rfl 6 (by decide) (hts (.fieldLink RX1 26 "ChronoTrialsModel" "seal" "[I") (by decide +kernel)) (fun _ h9 => h9) rfl hin2 rfl (by decide +kernel) rfl rfl (Nat.le_of_ble_eq_true rfl) dX1_init_41 (fun H locs hP hD hS => ?_)
  have hP : va_P D vwCl [(h0, .inr (1, [.int 0, .int (-1), .int 100, .int (-1), .ref q1, .ref q2, .ref q3, .null, .null])), (q1, .inl (k1, 8, .inl (fun _ => 0))), (q2, .inl (k2, 8, .inl (fun _ => 0))), (q3, .inl (k3, 8, .inl (fun _ => 0)))] H := hP
  have hD : va_D A9 [(h0, .inr (1, [.int 0, .int (-1), .int 100, .int (-1), .ref q1, .ref q2, .ref q3, .null, .null])), (q1, .inl (k1, 8, .inl (fun _ => 0))), (q2, .inl (k2, 8, .inl (fun _ => 0))), (q3, .inl (k3, 8, .inl (fun _ => 0)))] := hD
  refine lv_aload_n hx hb dX1_init_44 rfl (lv_at hl 0 rfl) ?_
  refine lv_bipush (v := 48) hx hb dX1_init_45 (by decide) ?_
  refine va_newa (D := D) (atype := .int) (ty := .int) (n := 48) (N' := 48) (a0 := (48, .inl (fun _ => 0))) hx hb (hts (.arrayClass .int) (by decide +kernel)) rfl hK hP hD hS hA (fun cA => vp_cell_i cA 48 (fun _ => 0)) (by decide) (by decide) (by decide) (Nat.le_of_ble_eq_true rfl) (Nat.le_of_ble_eq_true rfl) dX1_init_47 (fun q4 k4 H hK hP hD hS => ?_)
  have hK : va_K D vwCl [(k1, .int), (k2, .int), (k3, .int), (k4, .int)] s := hK
  have hP : va_P D vwCl [(h0, .inr (1, [.int 0, .int (-1), .int 100, .int (-1), .ref q1, .ref q2, .ref q3, .null, .null])), (q1, .inl (k1, 8, .inl (fun _ => 0))), (q2, .inl (k2, 8, .inl (fun _ => 0))), (q3, .inl (k3, 8, .inl (fun _ => 0))), (q4, .inl (k4, 48, .inl (fun _ => 0)))] H := hP
  have hD : va_D A9 [(h0, .inr (1, [.int 0, .int (-1), .int 100, .int (-1), .ref q1, .ref q2, .ref q3, .null, .null])), (q1, .inl (k1, 8, .inl (fun _ => 0))), (q2, .inl (k2, 8, .inl (fun _ => 0))), (q3, .inl (k3, 8, .inl (fun _ => 0))), (q4, .inl (k4, 48, .inl (fun _ => 0)))] := hD
  refine W.widen (k := 4) (n := 72) (Nat.le_of_ble_eq_true rfl) (Nat.le_of_ble_eq_true rfl) ?_
  refine va_putF (D := D) (ci := 1) (v := .ref q4) (ty := .array .int) (C := RX1) (T := TX1) (N := 9) hx hb hts hin tyX1 tyX1_ok nmX1 hown hK hP hD hS 0 rfl rfl 7 (by decide) (hts (.fieldLink RX1 29 "ChronoTrialsModel" "rates" "[I") (by decide +kernel)) (fun _ h9 => h9) rfl hin2 rfl (by decide +kernel) rfl rfl (Nat.le_of_ble_eq_true rfl) dX1_init_49 (fun H locs hP hD hS => ?_)
  have hP : va_P D vwCl [(h0, .inr (1, [.int 0, .int (-1), .int 100, .int (-1), .ref q1, .ref q2, .ref q3, .ref q4, .null])), (q1, .inl (k1, 8, .inl (fun _ => 0))), (q2, .inl (k2, 8, .inl (fun _ => 0))), (q3, .inl (k3, 8, .inl (fun _ => 0))), (q4, .inl (k4, 48, .inl (fun _ => 0)))] H := hP
  have hD : va_D A9 [(h0, .inr (1, [.int 0, .int (-1), .int 100, .int (-1), .ref q1, .ref q2, .ref q3, .ref q4, .null])), (q1, .inl (k1, 8, .inl (fun _ => 0))), (q2, .inl (k2, 8, .inl (fun _ => 0))), (q3, .inl (k3, 8, .inl (fun _ => 0))), (q4, .inl (k4, 48, .inl (fun _ => 0)))] := hD
  refine lv_aload_n hx hb dX1_init_52 rfl (lv_at hl 0 rfl) ?_
  refine lv_bipush (v := 48) hx hb dX1_init_53 (by decide) ?_
  refine va_newa (D := D) (atype := .int) (ty := .int) (n := 48) (N' := 48) (a0 := (48, .inl (fun _ => 0))) hx hb (hts (.arrayClass .int) (by decide +kernel)) rfl hK hP hD hS hA (fun cA => vp_cell_i cA 48 (fun _ => 0)) (by decide) (by decide) (by decide) (Nat.le_of_ble_eq_true rfl) (Nat.le_of_ble_eq_true rfl) dX1_init_55 (fun q5 k5 H hK hP hD hS => ?_)
  have hK : va_K D vwCl [(k1, .int), (k2, .int), (k3, .int), (k4, .int), (k5, .int)] s := hK
  have hP : va_P D vwCl [(h0, .inr (1, [.int 0, .int (-1), .int 100, .int (-1), .ref q1, .ref q2, .ref q3, .ref q4, .null])), (q1, .inl (k1, 8, .inl (fun _ => 0))), (q2, .inl (k2, 8, .inl (fun _ => 0))), (q3, .inl (k3, 8, .inl (fun _ => 0))), (q4, .inl (k4, 48, .inl (fun _ => 0))), (q5, .inl (k5, 48, .inl (fun _ => 0)))] H := hP
  have hD : va_D A9 [(h0, .inr (1, [.int 0, .int (-1), .int 100, .int (-1), .ref q1, .ref q2, .ref q3, .ref q4, .null])), (q1, .inl (k1, 8, .inl (fun _ => 0))), (q2, .inl (k2, 8, .inl (fun _ => 0))), (q3, .inl (k3, 8, .inl (fun _ => 0))), (q4, .inl (k4, 48, .inl (fun _ => 0))), (q5, .inl (k5, 48, .inl (fun _ => 0)))] := hD
  refine W.widen (k := 5) (n := 120) (Nat.le_of_ble_eq_true rfl) (Nat.le_of_ble_eq_true rfl) ?_
  refine va_putF (D := D) (ci := 1) (v := .ref q5) (ty := .array .int) (C := RX1) (T := TX1) (N := 9) hx hb hts hin tyX1 tyX1_ok nmX1 hown hK hP hD hS 0 rfl rfl 8 (by decide) (hts (.fieldLink RX1 32 "ChronoTrialsModel" "chills" "[I") (by decide +kernel)) (fun _ h9 => h9) rfl hin2 rfl (by decide +kernel) rfl rfl (Nat.le_of_ble_eq_true rfl) dX1_init_57 (fun H locs hP hD hS => ?_)
  have hP : va_P D vwCl [(h0, .inr (1, [.int 0, .int (-1), .int 100, .int (-1), .ref q1, .ref q2, .ref q3, .ref q4, .ref q5])), (q1, .inl (k1, 8, .inl (fun _ => 0))), (q2, .inl (k2, 8, .inl (fun _ => 0))), (q3, .inl (k3, 8, .inl (fun _ => 0))), (q4, .inl (k4, 48, .inl (fun _ => 0))), (q5, .inl (k5, 48, .inl (fun _ => 0)))] H := hP
  have hD : va_D A9 [(h0, .inr (1, [.int 0, .int (-1), .int 100, .int (-1), .ref q1, .ref q2, .ref q3, .ref q4, .ref q5])), (q1, .inl (k1, 8, .inl (fun _ => 0))), (q2, .inl (k2, 8, .inl (fun _ => 0))), (q3, .inl (k3, 8, .inl (fun _ => 0))), (q4, .inl (k4, 48, .inl (fun _ => 0))), (q5, .inl (k5, 48, .inl (fun _ => 0)))] := hD
  have hP9 : va_P D vwCl (wM (adr h0 q1 q2 q3 q4 q5) (adk k1 k2 k3 k4 k5) S0) H := hP
  have hK9 : va_K D vwCl (tM (adk k1 k2 k3 k4 k5)) s := hK
  have hD9 : va_D A9 (wM (adr h0 q1 q2 q3 q4 q5) (adk k1 k2 k3 k4 k5) S0) := hD
  exact W.vret hx hb hr (fun t ht hW => ⟨⟨(adr h0 q1 q2 q3 q4 q5, adk k1 k2 k3 k4 k5), rfl, rfl, by rw [ht]; exact hP9, va_K.moved hW.alike hK9, hD9⟩, hS.F ht⟩) hS.2.2 dX1_init_60
