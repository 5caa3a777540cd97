set_option maxHeartbeats 4000000 in
set_option maxRecDepth 100000 in
theorem c_X0_isWithin (l : Launch) (v : Int32) (lo : Int32) (hi : Int32) : Met l yX0_isWithin wsX0_isWithin (rmD 0) (va_Pc [.int v, .int lo, .int hi] (fun _ => True)) (vp_Si (fun r => r = (zi (h_in v lo hi)))) 0 0 (fun _ => False) := by
  refine Met.ofW (cc := cX0_isWithin) (maxL := 3) (ret := some .boolean) (by decide) rfl ?_
  intro p e s m args below meth c s₁ B hml hv
  obtain ⟨rfl, -⟩ := hv
  have hx := B.exec
  have hb := B.bytes
  have hr := B.returns
  have hts := atoms_spec (ws := wsX0_isWithin) B.pre
  have hown : s.vm.findClass RX0 = some m.cls := findClass_of_methodNamed B.named
  have hlocks := B.notSynchronized
  have hl := lv_entry ([.int v, .int lo, .int hi]) (n := 3) (Nat.le_of_ble_eq_true rfl)
  rw [lg_entry_eq]
  generalize (lg_sl ([.int v, .int lo, .int hi]) ++ List.replicate (3 - (lg_sl ([.int v, .int lo, .int hi])).length) Slot.unset).toArray = ls at hl ⊢
  have hl : lv_has ls 3 [(0, .int v), (1, .int lo), (2, .int hi)] := hl
  refine lv_iload_n hx hb dX0_isWithin_0 rfl (lv_at hl 0 rfl) ?_
  refine lv_iload_n hx hb dX0_isWithin_1 rfl (lv_at hl 1 rfl) ?_
  refine lv_icmp_lt (tgt := 14) hx hb dX0_isWithin_2 (by decide) (fun c1 => ?_) (fun c1 => ?_)
  · refine lv_iconst (v := 0) hx hb dX0_isWithin_14 (by decide) ?_
    exact W.zret (v := zi false) hx hb hr (zi_n _) (fun t ht hW => ⟨_, rfl, by simp [h_in, c1], ht⟩) (fun q h => by cases h) dX0_isWithin_15
  · refine lv_iload_n hx hb dX0_isWithin_5 rfl (lv_at hl 0 rfl) ?_
    refine lv_iload_n hx hb dX0_isWithin_6 rfl (lv_at hl 2 rfl) ?_
    refine lv_icmp_gt (tgt := 14) hx hb dX0_isWithin_7 (by decide) (fun c2 => ?_) (fun c2 => ?_)
    · refine lv_iconst (v := 0) hx hb dX0_isWithin_14 (by decide) ?_
      exact W.zret (v := zi false) hx hb hr (zi_n _) (fun t ht hW => ⟨_, rfl, by simp [h_in, c1, c2], ht⟩) (fun q h => by cases h) dX0_isWithin_15
    · refine lv_iconst (v := 1) hx hb dX0_isWithin_10 (by decide) ?_
      refine lv_goto (tgt := 15) hx hb dX0_isWithin_11 (by decide) ?_
      exact W.zret (v := zi true) hx hb hr (zi_n _) (fun t ht hW => ⟨_, rfl, by simp [h_in, c1, c2], ht⟩) (fun q h => by cases h) dX0_isWithin_15
set_option maxHeartbeats 4000000 in
set_option maxRecDepth 100000 in
theorem c_X0_oneIf (l : Launch) (b : Bool) : Met l yX0_oneIf wsX0_oneIf (rmD 0) (va_Pc [.int (zi b)] (fun _ => True)) (vp_Si (fun r => r = (zi b))) 0 0 (fun _ => False) := by
  refine Met.ofW (cc := cX0_oneIf) (maxL := 1) (ret := some .int) (by decide) rfl ?_
  intro p e s m args below meth c s₁ B hml hv
  obtain ⟨rfl, -⟩ := hv
  have hx := B.exec
  have hb := B.bytes
  have hr := B.returns
  have hts := atoms_spec (ws := wsX0_oneIf) B.pre
  have hown : s.vm.findClass RX0 = some m.cls := findClass_of_methodNamed B.named
  have hlocks := B.notSynchronized
  have hl := lv_entry ([.int (zi b)]) (n := 1) (Nat.le_of_ble_eq_true rfl)
  rw [lg_entry_eq]
  generalize (lg_sl ([.int (zi b)]) ++ List.replicate (1 - (lg_sl ([.int (zi b)])).length) Slot.unset).toArray = ls at hl ⊢
  have hl : lv_has ls 1 [(0, .int (zi b))] := hl
  refine lv_iload_n hx hb dX0_oneIf_0 rfl (lv_at hl 0 rfl) ?_
  refine xz_eq (b := b) (tgt := 8) hx hb dX0_oneIf_1 (by decide) (fun c1 => ?_) (fun c1 => ?_)
  · refine lv_iconst (v := 0) hx hb dX0_oneIf_8 (by decide) ?_
    exact W.iret (v := 0) hx hb hr (fun t ht hW => ⟨_, rfl, by rw [c1]; rfl, ht⟩) (fun q h => by cases h) dX0_oneIf_9
  · refine lv_iconst (v := 1) hx hb dX0_oneIf_4 (by decide) ?_
    refine lv_goto (tgt := 9) hx hb dX0_oneIf_5 (by decide) ?_
    exact W.iret (v := 1) hx hb hr (fun t ht hW => ⟨_, rfl, by rw [c1]; rfl, ht⟩) (fun q h => by cases h) dX0_oneIf_9
set_option maxHeartbeats 4000000 in
set_option maxRecDepth 100000 in
theorem c_X0_slot (l : Launch) (a : Nat) (k : Nat) : Met l yX0_slot wsX0_slot (rmD 0) (va_Pc [.int (nI a), .int (nI k)] (fun _ => True)) (vp_Si (fun r => r = (nI (a * 6 + k)))) 0 0 (fun _ => False) := by
  refine Met.ofW (cc := cX0_slot) (maxL := 2) (ret := some .int) (by decide) rfl ?_
  intro p e s m args below meth c s₁ B hml hv
  obtain ⟨rfl, -⟩ := hv
  have hx := B.exec
  have hb := B.bytes
  have hr := B.returns
  have hts := atoms_spec (ws := wsX0_slot) B.pre
  have hown : s.vm.findClass RX0 = some m.cls := findClass_of_methodNamed B.named
  have hlocks := B.notSynchronized
  have hl := lv_entry ([.int (nI a), .int (nI k)]) (n := 2) (Nat.le_of_ble_eq_true rfl)
  rw [lg_entry_eq]
  generalize (lg_sl ([.int (nI a), .int (nI k)]) ++ List.replicate (2 - (lg_sl ([.int (nI a), .int (nI k)])).length) Slot.unset).toArray = ls at hl ⊢
  have hl : lv_has ls 2 [(0, .int (nI a)), (1, .int (nI k))] := hl
  refine lv_iload_n hx hb dX0_slot_0 rfl (lv_at hl 0 rfl) ?_
  refine lv_bipush (v := 6) hx hb dX0_slot_1 (by decide) ?_
  refine xn_mul (i := a) (j := 6) hx hb dX0_slot_3 ?_
  refine lv_iload_n hx hb dX0_slot_4 rfl (lv_at hl 1 rfl) ?_
  refine xn_add (i := (a * 6)) (j := k) hx hb dX0_slot_5 ?_
  exact W.iret (v := (nI ((a * 6) + k))) hx hb hr (fun t ht hW => ⟨_, rfl, rfl, ht⟩) (fun q h => by cases h) dX0_slot_6
set_option maxHeartbeats 4000000 in
set_option maxRecDepth 100000 in
theorem c_X0_isRate (l : Launch) (v : Int32) : Met l yX0_isRate wsX0_isRate (rmD 1) (va_Pc [.int v] (fun _ => True)) (vp_Si (fun r => r = (zi (x_rate v)))) 0 0 (fun _ => False) := by
  refine Met.ofW (cc := cX0_isRate) (maxL := 1) (ret := some .boolean) (by decide) rfl ?_
  intro p e s m args below meth c s₁ B hml hv
  obtain ⟨rfl, -⟩ := hv
  have hx := B.exec
  have hb := B.bytes
  have hr := B.returns
  have hts := atoms_spec (ws := wsX0_isRate) B.pre
  have hown : s.vm.findClass RX0 = some m.cls := findClass_of_methodNamed B.named
  have hlocks := B.notSynchronized
  have hl := lv_entry ([.int v]) (n := 1) (Nat.le_of_ble_eq_true rfl)
  rw [lg_entry_eq]
  generalize (lg_sl ([.int v]) ++ List.replicate (1 - (lg_sl ([.int v])).length) Slot.unset).toArray = ls at hl ⊢
  have hl : lv_has ls 1 [(0, .int v)] := hl
  refine lv_iload_n hx hb dX0_isRate_0 rfl (lv_at hl 0 rfl) ?_
  refine lv_iconst (v := (-1)) hx hb dX0_isRate_1 (by decide) ?_
  refine lv_icmp_eq (tgt := 16) hx hb dX0_isRate_2 (by decide) (fun c1 => ?_) (fun c1 => ?_)
  · refine lv_iconst (v := 1) hx hb dX0_isRate_16 (by decide) ?_
    refine lv_goto (tgt := 21) hx hb dX0_isRate_17 (by decide) ?_
    exact W.zret (v := zi true) hx hb hr (zi_n _) (fun t ht hW => ⟨_, rfl, by simp [x_rate, c1], ht⟩) (fun q h => by cases h) dX0_isRate_21
  · refine lv_iload_n hx hb dX0_isRate_5 rfl (lv_at hl 0 rfl) ?_
    refine lv_iconst (v := 0) hx hb dX0_isRate_6 (by decide) ?_
    refine lv_sipush (v := 999) hx hb dX0_isRate_7 (by decide) ?_
    refine rc_S (v := (zi (h_in v 0 999))) ⟨hx, hb, hml, hown, hts⟩ [.int v, .int 0, .int 999] [] (c_X0_isWithin l v 0 999) (va_cwS 3 hts gX0_isRate_X0_isWithin rfl rfl rfl (by decide +kernel) ⟨Nat.le_of_ble_eq_true rfl, Nat.le_of_ble_eq_true rfl⟩) rfl hl.1 rfl (Nat.le_of_ble_eq_true rfl) ⟨Nat.zero_le _, Nat.zero_le _⟩ dX0_isRate_10 ?_
    refine xz_eq (b := (h_in v 0 999)) (tgt := 20) hx hb dX0_isRate_13 (by decide) (fun c2 => ?_) (fun c2 => ?_)
    · refine lv_iconst (v := 0) hx hb dX0_isRate_20 (by decide) ?_
      exact W.zret (v := zi false) hx hb hr (zi_n _) (fun t ht hW => ⟨_, rfl, by simp [x_rate, c1, c2], ht⟩) (fun q h => by cases h) dX0_isRate_21
    · refine lv_iconst (v := 1) hx hb dX0_isRate_16 (by decide) ?_
      refine lv_goto (tgt := 21) hx hb dX0_isRate_17 (by decide) ?_
      exact W.zret (v := zi true) hx hb hr (zi_n _) (fun t ht hW => ⟨_, rfl, by simp [x_rate, c1, c2], ht⟩) (fun q h => by cases h) dX0_isRate_21
set_option maxHeartbeats 4000000 in
set_option maxRecDepth 100000 in
theorem c_X0_isChill (l : Launch) (v : Int32) : Met l yX0_isChill wsX0_isChill (rmD 1) (va_Pc [.int v] (fun _ => True)) (vp_Si (fun r => r = (zi (x_chill v)))) 0 0 (fun _ => False) := by
  refine Met.ofW (cc := cX0_isChill) (maxL := 1) (ret := some .boolean) (by decide) rfl ?_
  intro p e s m args below meth c s₁ B hml hv
  obtain ⟨rfl, -⟩ := hv
  have hx := B.exec
  have hb := B.bytes
  have hr := B.returns
  have hts := atoms_spec (ws := wsX0_isChill) B.pre
  have hown : s.vm.findClass RX0 = some m.cls := findClass_of_methodNamed B.named
  have hlocks := B.notSynchronized
  have hl := lv_entry ([.int v]) (n := 1) (Nat.le_of_ble_eq_true rfl)
  rw [lg_entry_eq]
  generalize (lg_sl ([.int v]) ++ List.replicate (1 - (lg_sl ([.int v])).length) Slot.unset).toArray = ls at hl ⊢
  have hl : lv_has ls 1 [(0, .int v)] := hl
  refine lv_iload_n hx hb dX0_isChill_0 rfl (lv_at hl 0 rfl) ?_
  refine lv_bipush (v := 100) hx hb dX0_isChill_1 (by decide) ?_
  refine lv_icmp_eq (tgt := 17) hx hb dX0_isChill_3 (by decide) (fun c1 => ?_) (fun c1 => ?_)
  · refine lv_iconst (v := 1) hx hb dX0_isChill_17 (by decide) ?_
    refine lv_goto (tgt := 22) hx hb dX0_isChill_18 (by decide) ?_
    exact W.zret (v := zi true) hx hb hr (zi_n _) (fun t ht hW => ⟨_, rfl, by simp [x_chill, c1], ht⟩) (fun q h => by cases h) dX0_isChill_22
  · refine lv_iload_n hx hb dX0_isChill_6 rfl (lv_at hl 0 rfl) ?_
    refine lv_bipush (v := (-99)) hx hb dX0_isChill_7 (by decide) ?_
    refine lv_bipush (v := 99) hx hb dX0_isChill_9 (by decide) ?_
    refine rc_S (v := (zi (h_in v (-99) 99))) ⟨hx, hb, hml, hown, hts⟩ [.int v, .int (-99), .int 99] [] (c_X0_isWithin l v (-99) 99) (va_cwS 3 hts gX0_isChill_X0_isWithin rfl rfl rfl (by decide +kernel) ⟨Nat.le_of_ble_eq_true rfl, Nat.le_of_ble_eq_true rfl⟩) rfl hl.1 rfl (Nat.le_of_ble_eq_true rfl) ⟨Nat.zero_le _, Nat.zero_le _⟩ dX0_isChill_11 ?_
    refine xz_eq (b := (h_in v (-99) 99)) (tgt := 21) hx hb dX0_isChill_14 (by decide) (fun c2 => ?_) (fun c2 => ?_)
    · refine lv_iconst (v := 0) hx hb dX0_isChill_21 (by decide) ?_
      exact W.zret (v := zi false) hx hb hr (zi_n _) (fun t ht hW => ⟨_, rfl, by simp [x_chill, c1, c2], ht⟩) (fun q h => by cases h) dX0_isChill_22
    · refine lv_iconst (v := 1) hx hb dX0_isChill_17 (by decide) ?_
      refine lv_goto (tgt := 22) hx hb dX0_isChill_18 (by decide) ?_
      exact W.zret (v := zi true) hx hb hr (zi_n _) (fun t ht hW => ⟨_, rfl, by simp [x_chill, c1, c2], ht⟩) (fun q h => by cases h) dX0_isChill_22
set_option maxHeartbeats 4000000 in
set_option maxRecDepth 100000 in
theorem c_X0_holdsOfNumbers (l : Launch) (sg : Int32) (v : Int32) (z : Int32) : Met l yX0_holdsOfNumbers wsX0_holdsOfNumbers (rmD 0) (va_Pc [.int sg, .int v, .int z] (fun _ => True)) (vp_Si (fun r => r = (zi (h_num sg v z)))) 0 0 (fun _ => False) := by
  refine Met.ofW (cc := cX0_holdsOfNumbers) (maxL := 3) (ret := some .boolean) (by decide) rfl ?_
  intro p e s m args below meth c s₁ B hml hv
  obtain ⟨rfl, -⟩ := hv
  have hx := B.exec
  have hb := B.bytes
  have hr := B.returns
  have hts := atoms_spec (ws := wsX0_holdsOfNumbers) B.pre
  have hown : s.vm.findClass RX0 = some m.cls := findClass_of_methodNamed B.named
  have hlocks := B.notSynchronized
  have hl := lv_entry ([.int sg, .int v, .int z]) (n := 3) (Nat.le_of_ble_eq_true rfl)
  rw [lg_entry_eq]
  generalize (lg_sl ([.int sg, .int v, .int z]) ++ List.replicate (3 - (lg_sl ([.int sg, .int v, .int z])).length) Slot.unset).toArray = ls at hl ⊢
  have hl : lv_has ls 3 [(0, .int sg), (1, .int v), (2, .int z)] := hl
  refine lv_iload_n hx hb dX0_holdsOfNumbers_0 rfl (lv_at hl 0 rfl) ?_
  by_cases w1 : sg = 0
  · refine lv_tableIn (tgt := 36) hx hb dX0_holdsOfNumbers_1 (by rw [w1]; decide) (by rw [w1]; decide) (by rw [w1]; rfl) (by decide) ?_
    refine lv_iload_n hx hb dX0_holdsOfNumbers_36 rfl (lv_at hl 1 rfl) ?_
    refine lv_iload_n hx hb dX0_holdsOfNumbers_37 rfl (lv_at hl 2 rfl) ?_
    refine lv_icmp_ge (tgt := 45) hx hb dX0_holdsOfNumbers_38 (by decide) (fun c2 => ?_) (fun c2 => ?_)
    · refine lv_iconst (v := 0) hx hb dX0_holdsOfNumbers_45 (by decide) ?_
      exact W.zret (v := zi false) hx hb hr (zi_n _) (fun t ht hW => ⟨_, rfl, by simp [h_num, w1, c2], ht⟩) (fun q h => by cases h) dX0_holdsOfNumbers_46
    · refine lv_iconst (v := 1) hx hb dX0_holdsOfNumbers_41 (by decide) ?_
      refine lv_goto (tgt := 46) hx hb dX0_holdsOfNumbers_42 (by decide) ?_
      exact W.zret (v := zi true) hx hb hr (zi_n _) (fun t ht hW => ⟨_, rfl, by simp [h_num, w1, c2], ht⟩) (fun q h => by cases h) dX0_holdsOfNumbers_46
  by_cases w3 : sg = 1
  · refine lv_tableIn (tgt := 47) hx hb dX0_holdsOfNumbers_1 (by rw [w3]; decide) (by rw [w3]; decide) (by rw [w3]; rfl) (by decide) ?_
    refine lv_iload_n hx hb dX0_holdsOfNumbers_47 rfl (lv_at hl 1 rfl) ?_
    refine lv_iload_n hx hb dX0_holdsOfNumbers_48 rfl (lv_at hl 2 rfl) ?_
    refine lv_icmp_gt (tgt := 56) hx hb dX0_holdsOfNumbers_49 (by decide) (fun c4 => ?_) (fun c4 => ?_)
    · refine lv_iconst (v := 0) hx hb dX0_holdsOfNumbers_56 (by decide) ?_
      exact W.zret (v := zi false) hx hb hr (zi_n _) (fun t ht hW => ⟨_, rfl, by simp [h_num, w1, w3, c4], ht⟩) (fun q h => by cases h) dX0_holdsOfNumbers_57
    · refine lv_iconst (v := 1) hx hb dX0_holdsOfNumbers_52 (by decide) ?_
      refine lv_goto (tgt := 57) hx hb dX0_holdsOfNumbers_53 (by decide) ?_
      exact W.zret (v := zi true) hx hb hr (zi_n _) (fun t ht hW => ⟨_, rfl, by simp [h_num, w1, w3, c4], ht⟩) (fun q h => by cases h) dX0_holdsOfNumbers_57
  by_cases w5 : sg = 2
  · refine lv_tableIn (tgt := 58) hx hb dX0_holdsOfNumbers_1 (by rw [w5]; decide) (by rw [w5]; decide) (by rw [w5]; rfl) (by decide) ?_
    refine lv_iload_n hx hb dX0_holdsOfNumbers_58 rfl (lv_at hl 1 rfl) ?_
    refine lv_iload_n hx hb dX0_holdsOfNumbers_59 rfl (lv_at hl 2 rfl) ?_
    refine lv_icmp_le (tgt := 67) hx hb dX0_holdsOfNumbers_60 (by decide) (fun c6 => ?_) (fun c6 => ?_)
    · refine lv_iconst (v := 0) hx hb dX0_holdsOfNumbers_67 (by decide) ?_
      exact W.zret (v := zi false) hx hb hr (zi_n _) (fun t ht hW => ⟨_, rfl, by simp [h_num, w1, w3, w5, c6], ht⟩) (fun q h => by cases h) dX0_holdsOfNumbers_68
    · refine lv_iconst (v := 1) hx hb dX0_holdsOfNumbers_63 (by decide) ?_
      refine lv_goto (tgt := 68) hx hb dX0_holdsOfNumbers_64 (by decide) ?_
      exact W.zret (v := zi true) hx hb hr (zi_n _) (fun t ht hW => ⟨_, rfl, by simp [h_num, w1, w3, w5, c6], ht⟩) (fun q h => by cases h) dX0_holdsOfNumbers_68
  by_cases w7 : sg = 3
  · refine lv_tableIn (tgt := 69) hx hb dX0_holdsOfNumbers_1 (by rw [w7]; decide) (by rw [w7]; decide) (by rw [w7]; rfl) (by decide) ?_
    refine lv_iload_n hx hb dX0_holdsOfNumbers_69 rfl (lv_at hl 1 rfl) ?_
    refine lv_iload_n hx hb dX0_holdsOfNumbers_70 rfl (lv_at hl 2 rfl) ?_
    refine lv_icmp_lt (tgt := 78) hx hb dX0_holdsOfNumbers_71 (by decide) (fun c8 => ?_) (fun c8 => ?_)
    · refine lv_iconst (v := 0) hx hb dX0_holdsOfNumbers_78 (by decide) ?_
      exact W.zret (v := zi false) hx hb hr (zi_n _) (fun t ht hW => ⟨_, rfl, by simp [h_num, w1, w3, w5, w7, c8], ht⟩) (fun q h => by cases h) dX0_holdsOfNumbers_79
    · refine lv_iconst (v := 1) hx hb dX0_holdsOfNumbers_74 (by decide) ?_
      refine lv_goto (tgt := 79) hx hb dX0_holdsOfNumbers_75 (by decide) ?_
      exact W.zret (v := zi true) hx hb hr (zi_n _) (fun t ht hW => ⟨_, rfl, by simp [h_num, w1, w3, w5, w7, c8], ht⟩) (fun q h => by cases h) dX0_holdsOfNumbers_79
  by_cases w9 : sg = 4
  · refine lv_tableIn (tgt := 80) hx hb dX0_holdsOfNumbers_1 (by rw [w9]; decide) (by rw [w9]; decide) (by rw [w9]; rfl) (by decide) ?_
    refine lv_iload_n hx hb dX0_holdsOfNumbers_80 rfl (lv_at hl 1 rfl) ?_
    refine lv_iload_n hx hb dX0_holdsOfNumbers_81 rfl (lv_at hl 2 rfl) ?_
    refine lv_icmp_ne (tgt := 89) hx hb dX0_holdsOfNumbers_82 (by decide) (fun c10 => ?_) (fun c10 => ?_)
    · refine lv_iconst (v := 0) hx hb dX0_holdsOfNumbers_89 (by decide) ?_
      exact W.zret (v := zi false) hx hb hr (zi_n _) (fun t ht hW => ⟨_, rfl, by simp [h_num, w1, w3, w5, w7, w9, c10], ht⟩) (fun q h => by cases h) dX0_holdsOfNumbers_90
    · refine lv_iconst (v := 1) hx hb dX0_holdsOfNumbers_85 (by decide) ?_
      refine lv_goto (tgt := 90) hx hb dX0_holdsOfNumbers_86 (by decide) ?_
      exact W.zret (v := zi true) hx hb hr (zi_n _) (fun t ht hW => ⟨_, rfl, by simp [h_num, w1, w3, w5, w7, w9, c10], ht⟩) (fun q h => by cases h) dX0_holdsOfNumbers_90
  refine lv_tableOut (tgt := 91) hx hb dX0_holdsOfNumbers_1 (by have tw1 := lv_neT (a := 0) w1 rfl; have tw3 := lv_neT (a := 1) w3 rfl; have tw5 := lv_neT (a := 2) w5 rfl; have tw7 := lv_neT (a := 3) w7 rfl; have tw9 := lv_neT (a := 4) w9 rfl; omega) (by decide) ?_
  refine lv_iload_n hx hb dX0_holdsOfNumbers_91 rfl (lv_at hl 1 rfl) ?_
  refine lv_iload_n hx hb dX0_holdsOfNumbers_92 rfl (lv_at hl 2 rfl) ?_
  refine lv_icmp_eq (tgt := 100) hx hb dX0_holdsOfNumbers_93 (by decide) (fun c11 => ?_) (fun c11 => ?_)
  · refine lv_iconst (v := 0) hx hb dX0_holdsOfNumbers_100 (by decide) ?_
    exact W.zret (v := zi false) hx hb hr (zi_n _) (fun t ht hW => ⟨_, rfl, by simp [h_num, w1, w3, w5, w7, w9, c11], ht⟩) (fun q h => by cases h) dX0_holdsOfNumbers_101
  · refine lv_iconst (v := 1) hx hb dX0_holdsOfNumbers_96 (by decide) ?_
    refine lv_goto (tgt := 101) hx hb dX0_holdsOfNumbers_97 (by decide) ?_
    exact W.zret (v := zi true) hx hb hr (zi_n _) (fun t ht hW => ⟨_, rfl, by simp [h_num, w1, w3, w5, w7, w9, c11], ht⟩) (fun q h => by cases h) dX0_holdsOfNumbers_101
set_option maxHeartbeats 4000000 in
set_option maxRecDepth 100000 in
theorem c_X0_holdsOfRates (l : Launch) (sg : Int32) (v : Int32) (z : Int32) : Met l yX0_holdsOfRates wsX0_holdsOfRates (rmD 1) (va_Pc [.int sg, .int v, .int z] (fun _ => True)) (vp_Si (fun r => r = (zi (h_all (-1) sg v z)))) 0 0 (fun _ => False) := by
  refine Met.ofW (cc := cX0_holdsOfRates) (maxL := 3) (ret := some .boolean) (by decide) rfl ?_
  intro p e s m args below meth c s₁ B hml hv
  obtain ⟨rfl, -⟩ := hv
  have hx := B.exec
  have hb := B.bytes
  have hr := B.returns
  have hts := atoms_spec (ws := wsX0_holdsOfRates) B.pre
  have hown : s.vm.findClass RX0 = some m.cls := findClass_of_methodNamed B.named
  have hlocks := B.notSynchronized
  have hl := lv_entry ([.int sg, .int v, .int z]) (n := 3) (Nat.le_of_ble_eq_true rfl)
  rw [lg_entry_eq]
  generalize (lg_sl ([.int sg, .int v, .int z]) ++ List.replicate (3 - (lg_sl ([.int sg, .int v, .int z])).length) Slot.unset).toArray = ls at hl ⊢
  have hl : lv_has ls 3 [(0, .int sg), (1, .int v), (2, .int z)] := hl
  refine lv_iload_n hx hb dX0_holdsOfRates_0 rfl (lv_at hl 1 rfl) ?_
  refine lv_iconst (v := (-1)) hx hb dX0_holdsOfRates_1 (by decide) ?_
  refine lv_icmp_eq (tgt := 10) hx hb dX0_holdsOfRates_2 (by decide) (fun c1 => ?_) (fun c1 => ?_)
  · refine lv_iload_n hx hb dX0_holdsOfRates_10 rfl (lv_at hl 0 rfl) ?_
    refine lv_iconst (v := 5) hx hb dX0_holdsOfRates_11 (by decide) ?_
    refine lv_icmp_ne (tgt := 19) hx hb dX0_holdsOfRates_12 (by decide) (fun c2 => ?_) (fun c2 => ?_)
    · refine lv_iconst (v := 0) hx hb dX0_holdsOfRates_19 (by decide) ?_
      exact W.zret (v := zi false) hx hb hr (zi_n _) (fun t ht hW => ⟨_, rfl, by simp [h_all, c1, c2], ht⟩) (fun q h => by cases h) dX0_holdsOfRates_20
    · refine lv_iconst (v := 1) hx hb dX0_holdsOfRates_15 (by decide) ?_
      refine lv_goto (tgt := 20) hx hb dX0_holdsOfRates_16 (by decide) ?_
      exact W.zret (v := zi true) hx hb hr (zi_n _) (fun t ht hW => ⟨_, rfl, by simp [h_all, c1, c2], ht⟩) (fun q h => by cases h) dX0_holdsOfRates_20
  · refine lv_iload_n hx hb dX0_holdsOfRates_5 rfl (lv_at hl 2 rfl) ?_
    refine lv_iconst (v := (-1)) hx hb dX0_holdsOfRates_6 (by decide) ?_
    refine lv_icmp_ne (tgt := 21) hx hb dX0_holdsOfRates_7 (by decide) (fun c3 => ?_) (fun c3 => ?_)
    · refine lv_iload_n hx hb dX0_holdsOfRates_21 rfl (lv_at hl 0 rfl) ?_
      refine lv_iload_n hx hb dX0_holdsOfRates_22 rfl (lv_at hl 1 rfl) ?_
      refine lv_iload_n hx hb dX0_holdsOfRates_23 rfl (lv_at hl 2 rfl) ?_
      refine rc_S (v := (zi (h_num sg v z))) ⟨hx, hb, hml, hown, hts⟩ [.int sg, .int v, .int z] [] (c_X0_holdsOfNumbers l sg v z) (va_cwS 3 hts gX0_holdsOfRates_X0_holdsOfNumbers rfl rfl rfl (by decide +kernel) ⟨Nat.le_of_ble_eq_true rfl, Nat.le_of_ble_eq_true rfl⟩) rfl hl.1 rfl (Nat.le_of_ble_eq_true rfl) ⟨Nat.zero_le _, Nat.zero_le _⟩ dX0_holdsOfRates_24 ?_
      exact W.zret (v := zi (h_num sg v z)) hx hb hr (zi_n _) (fun t ht hW => ⟨_, rfl, by simp [h_all, c1, c3], ht⟩) (fun q h => by cases h) dX0_holdsOfRates_27
    · refine lv_iload_n hx hb dX0_holdsOfRates_10 rfl (lv_at hl 0 rfl) ?_
      refine lv_iconst (v := 5) hx hb dX0_holdsOfRates_11 (by decide) ?_
      refine lv_icmp_ne (tgt := 19) hx hb dX0_holdsOfRates_12 (by decide) (fun c4 => ?_) (fun c4 => ?_)
      · refine lv_iconst (v := 0) hx hb dX0_holdsOfRates_19 (by decide) ?_
        exact W.zret (v := zi false) hx hb hr (zi_n _) (fun t ht hW => ⟨_, rfl, by simp [h_all, c1, c3, c4], ht⟩) (fun q h => by cases h) dX0_holdsOfRates_20
      · refine lv_iconst (v := 1) hx hb dX0_holdsOfRates_15 (by decide) ?_
        refine lv_goto (tgt := 20) hx hb dX0_holdsOfRates_16 (by decide) ?_
        exact W.zret (v := zi true) hx hb hr (zi_n _) (fun t ht hW => ⟨_, rfl, by simp [h_all, c1, c3, c4], ht⟩) (fun q h => by cases h) dX0_holdsOfRates_20
set_option maxHeartbeats 4000000 in
set_option maxRecDepth 100000 in
theorem c_X0_holdsOfChills (l : Launch) (sg : Int32) (v : Int32) (z : Int32) : Met l yX0_holdsOfChills wsX0_holdsOfChills (rmD 1) (va_Pc [.int sg, .int v, .int z] (fun _ => True)) (vp_Si (fun r => r = (zi (h_all 100 sg v z)))) 0 0 (fun _ => False) := by
  refine Met.ofW (cc := cX0_holdsOfChills) (maxL := 3) (ret := some .boolean) (by decide) rfl ?_
  intro p e s m args below meth c s₁ B hml hv
  obtain ⟨rfl, -⟩ := hv
  have hx := B.exec
  have hb := B.bytes
  have hr := B.returns
  have hts := atoms_spec (ws := wsX0_holdsOfChills) B.pre
  have hown : s.vm.findClass RX0 = some m.cls := findClass_of_methodNamed B.named
  have hlocks := B.notSynchronized
  have hl := lv_entry ([.int sg, .int v, .int z]) (n := 3) (Nat.le_of_ble_eq_true rfl)
  rw [lg_entry_eq]
  generalize (lg_sl ([.int sg, .int v, .int z]) ++ List.replicate (3 - (lg_sl ([.int sg, .int v, .int z])).length) Slot.unset).toArray = ls at hl ⊢
  have hl : lv_has ls 3 [(0, .int sg), (1, .int v), (2, .int z)] := hl
  refine lv_iload_n hx hb dX0_holdsOfChills_0 rfl (lv_at hl 1 rfl) ?_
  refine lv_bipush (v := 100) hx hb dX0_holdsOfChills_1 (by decide) ?_
  refine lv_icmp_eq (tgt := 12) hx hb dX0_holdsOfChills_3 (by decide) (fun c1 => ?_) (fun c1 => ?_)
  · refine lv_iload_n hx hb dX0_holdsOfChills_12 rfl (lv_at hl 0 rfl) ?_
    refine lv_iconst (v := 5) hx hb dX0_holdsOfChills_13 (by decide) ?_
    refine lv_icmp_ne (tgt := 21) hx hb dX0_holdsOfChills_14 (by decide) (fun c2 => ?_) (fun c2 => ?_)
    · refine lv_iconst (v := 0) hx hb dX0_holdsOfChills_21 (by decide) ?_
      exact W.zret (v := zi false) hx hb hr (zi_n _) (fun t ht hW => ⟨_, rfl, by simp [h_all, c1, c2], ht⟩) (fun q h => by cases h) dX0_holdsOfChills_22
    · refine lv_iconst (v := 1) hx hb dX0_holdsOfChills_17 (by decide) ?_
      refine lv_goto (tgt := 22) hx hb dX0_holdsOfChills_18 (by decide) ?_
      exact W.zret (v := zi true) hx hb hr (zi_n _) (fun t ht hW => ⟨_, rfl, by simp [h_all, c1, c2], ht⟩) (fun q h => by cases h) dX0_holdsOfChills_22
  · refine lv_iload_n hx hb dX0_holdsOfChills_6 rfl (lv_at hl 2 rfl) ?_
    refine lv_bipush (v := 100) hx hb dX0_holdsOfChills_7 (by decide) ?_
    refine lv_icmp_ne (tgt := 23) hx hb dX0_holdsOfChills_9 (by decide) (fun c3 => ?_) (fun c3 => ?_)
    · refine lv_iload_n hx hb dX0_holdsOfChills_23 rfl (lv_at hl 0 rfl) ?_
      refine lv_iload_n hx hb dX0_holdsOfChills_24 rfl (lv_at hl 1 rfl) ?_
      refine lv_iload_n hx hb dX0_holdsOfChills_25 rfl (lv_at hl 2 rfl) ?_
      refine rc_S (v := (zi (h_num sg v z))) ⟨hx, hb, hml, hown, hts⟩ [.int sg, .int v, .int z] [] (c_X0_holdsOfNumbers l sg v z) (va_cwS 3 hts gX0_holdsOfChills_X0_holdsOfNumbers rfl rfl rfl (by decide +kernel) ⟨Nat.le_of_ble_eq_true rfl, Nat.le_of_ble_eq_true rfl⟩) rfl hl.1 rfl (Nat.le_of_ble_eq_true rfl) ⟨Nat.zero_le _, Nat.zero_le _⟩ dX0_holdsOfChills_26 ?_
      exact W.zret (v := zi (h_num sg v z)) hx hb hr (zi_n _) (fun t ht hW => ⟨_, rfl, by simp [h_all, c1, c3], ht⟩) (fun q h => by cases h) dX0_holdsOfChills_29
    · refine lv_iload_n hx hb dX0_holdsOfChills_12 rfl (lv_at hl 0 rfl) ?_
      refine lv_iconst (v := 5) hx hb dX0_holdsOfChills_13 (by decide) ?_
      refine lv_icmp_ne (tgt := 21) hx hb dX0_holdsOfChills_14 (by decide) (fun c4 => ?_) (fun c4 => ?_)
      · refine lv_iconst (v := 0) hx hb dX0_holdsOfChills_21 (by decide) ?_
        exact W.zret (v := zi false) hx hb hr (zi_n _) (fun t ht hW => ⟨_, rfl, by simp [h_all, c1, c3, c4], ht⟩) (fun q h => by cases h) dX0_holdsOfChills_22
      · refine lv_iconst (v := 1) hx hb dX0_holdsOfChills_17 (by decide) ?_
        refine lv_goto (tgt := 22) hx hb dX0_holdsOfChills_18 (by decide) ?_
        exact W.zret (v := zi true) hx hb hr (zi_n _) (fun t ht hW => ⟨_, rfl, by simp [h_all, c1, c3, c4], ht⟩) (fun q h => by cases h) dX0_holdsOfChills_22
set_option maxHeartbeats 4000000 in
set_option maxRecDepth 100000 in
theorem c_X0_betters (l : Launch) (v : Int32) (z : Int32) : Met l yX0_betters wsX0_betters (rmD 2) (va_Pc [.int v, .int z] (fun _ => True)) (vp_Si (fun r => r = (zi (be v z)))) 0 0 (fun _ => False) := by
  refine Met.ofW (cc := cX0_betters) (maxL := 2) (ret := some .boolean) (by decide) rfl ?_
  intro p e s m args below meth c s₁ B hml hv
  obtain ⟨rfl, -⟩ := hv
  have hx := B.exec
  have hb := B.bytes
  have hr := B.returns
  have hts := atoms_spec (ws := wsX0_betters) B.pre
  have hown : s.vm.findClass RX0 = some m.cls := findClass_of_methodNamed B.named
  have hlocks := B.notSynchronized
  have hl := lv_entry ([.int v, .int z]) (n := 2) (Nat.le_of_ble_eq_true rfl)
  rw [lg_entry_eq]
  generalize (lg_sl ([.int v, .int z]) ++ List.replicate (2 - (lg_sl ([.int v, .int z])).length) Slot.unset).toArray = ls at hl ⊢
  have hl : lv_has ls 2 [(0, .int v), (1, .int z)] := hl
  refine lv_iload_n hx hb dX0_betters_0 rfl (lv_at hl 0 rfl) ?_
  refine lv_iconst (v := (-1)) hx hb dX0_betters_1 (by decide) ?_
  refine lv_icmp_eq (tgt := 18) hx hb dX0_betters_2 (by decide) (fun c1 => ?_) (fun c1 => ?_)
  · refine lv_iconst (v := 0) hx hb dX0_betters_18 (by decide) ?_
    exact W.zret (v := zi false) hx hb hr (zi_n _) (fun t ht hW => ⟨_, rfl, by simp [be, c1], ht⟩) (fun q h => by cases h) dX0_betters_19
  · refine lv_iconst (v := 1) hx hb dX0_betters_5 (by decide) ?_
    refine lv_iload_n hx hb dX0_betters_6 rfl (lv_at hl 1 rfl) ?_
    refine lv_iload_n hx hb dX0_betters_7 rfl (lv_at hl 0 rfl) ?_
    refine rc_S (v := (zi (h_all (-1) 1 z v))) ⟨hx, hb, hml, hown, hts⟩ [.int 1, .int z, .int v] [] (c_X0_holdsOfRates l 1 z v) (va_cwS 3 hts gX0_betters_X0_holdsOfRates rfl rfl rfl (by decide +kernel) ⟨Nat.le_of_ble_eq_true rfl, Nat.le_of_ble_eq_true rfl⟩) rfl hl.1 rfl (Nat.le_of_ble_eq_true rfl) ⟨Nat.zero_le _, Nat.zero_le _⟩ dX0_betters_8 ?_
    refine xz_ne (b := (h_all (-1) 1 z v)) (tgt := 18) hx hb dX0_betters_11 (by decide) (fun c2 => ?_) (fun c2 => ?_)
    · refine lv_iconst (v := 0) hx hb dX0_betters_18 (by decide) ?_
      exact W.zret (v := zi false) hx hb hr (zi_n _) (fun t ht hW => ⟨_, rfl, by simp [be, c1, c2], ht⟩) (fun q h => by cases h) dX0_betters_19
    · refine lv_iconst (v := 1) hx hb dX0_betters_14 (by decide) ?_
      refine lv_goto (tgt := 19) hx hb dX0_betters_15 (by decide) ?_
      exact W.zret (v := zi true) hx hb hr (zi_n _) (fun t ht hW => ⟨_, rfl, by simp [be, c1, c2], ht⟩) (fun q h => by cases h) dX0_betters_19
set_option maxHeartbeats 4000000 in
set_option maxRecDepth 100000 in
theorem c_X0_bothWays (l : Launch) (b : Bool) (q : Bool) : Met l yX0_bothWays wsX0_bothWays (rmD 0) (va_Pc [.int (zi b), .int (zi q)] (fun _ => True)) (vp_Si (fun r => r = (both b q))) 0 0 (fun _ => False) := by
  refine Met.ofW (cc := cX0_bothWays) (maxL := 2) (ret := some .int) (by decide) rfl ?_
  intro p e s m args below meth c s₁ B hml hv
  obtain ⟨rfl, -⟩ := hv
  have hx := B.exec
  have hb := B.bytes
  have hr := B.returns
  have hts := atoms_spec (ws := wsX0_bothWays) B.pre
  have hown : s.vm.findClass RX0 = some m.cls := findClass_of_methodNamed B.named
  have hlocks := B.notSynchronized
  have hl := lv_entry ([.int (zi b), .int (zi q)]) (n := 2) (Nat.le_of_ble_eq_true rfl)
  rw [lg_entry_eq]
  generalize (lg_sl ([.int (zi b), .int (zi q)]) ++ List.replicate (2 - (lg_sl ([.int (zi b), .int (zi q)])).length) Slot.unset).toArray = ls at hl ⊢
  have hl : lv_has ls 2 [(0, .int (zi b)), (1, .int (zi q))] := hl
  refine lv_iload_n hx hb dX0_bothWays_0 rfl (lv_at hl 0 rfl) ?_
  refine xz_eq (b := b) (tgt := 10) hx hb dX0_bothWays_1 (by decide) (fun c1 => ?_) (fun c1 => ?_)
  · refine lv_iload_n hx hb dX0_bothWays_10 rfl (lv_at hl 0 rfl) ?_
    refine xz_ne (b := b) (tgt := 18) hx hb dX0_bothWays_11 (by decide) (fun c2 => ?_) (fun c2 => ?_)
    · exact absurd (c1.symm.trans c2) (by decide)
    · refine lv_iload_n hx hb dX0_bothWays_14 rfl (lv_at hl 1 rfl) ?_
      refine xz_eq (b := q) (tgt := 22) hx hb dX0_bothWays_15 (by decide) (fun c3 => ?_) (fun c3 => ?_)
      · refine lv_iconst (v := 0) hx hb dX0_bothWays_22 (by decide) ?_
        exact W.iret (v := 0) hx hb hr (fun t ht hW => ⟨_, rfl, by cases b <;> cases q <;> first | contradiction | rfl, ht⟩) (fun q h => by cases h) dX0_bothWays_23
      · refine lv_iconst (v := 2) hx hb dX0_bothWays_18 (by decide) ?_
        refine lv_goto (tgt := 23) hx hb dX0_bothWays_19 (by decide) ?_
        exact W.iret (v := 2) hx hb hr (fun t ht hW => ⟨_, rfl, by cases b <;> cases q <;> first | contradiction | rfl, ht⟩) (fun q h => by cases h) dX0_bothWays_23
  · refine lv_iload_n hx hb dX0_bothWays_4 rfl (lv_at hl 1 rfl) ?_
    refine xz_eq (b := q) (tgt := 10) hx hb dX0_bothWays_5 (by decide) (fun c4 => ?_) (fun c4 => ?_)
    · refine lv_iload_n hx hb dX0_bothWays_10 rfl (lv_at hl 0 rfl) ?_
      refine xz_ne (b := b) (tgt := 18) hx hb dX0_bothWays_11 (by decide) (fun c5 => ?_) (fun c5 => ?_)
      · refine lv_iconst (v := 2) hx hb dX0_bothWays_18 (by decide) ?_
        refine lv_goto (tgt := 23) hx hb dX0_bothWays_19 (by decide) ?_
        exact W.iret (v := 2) hx hb hr (fun t ht hW => ⟨_, rfl, by cases b <;> cases q <;> first | contradiction | rfl, ht⟩) (fun q h => by cases h) dX0_bothWays_23
      · exact absurd (c1.symm.trans c5) (by decide)
    · refine lv_iconst (v := 1) hx hb dX0_bothWays_8 (by decide) ?_
      exact W.iret (v := 1) hx hb hr (fun t ht hW => ⟨_, rfl, by cases b <;> cases q <;> first | contradiction | rfl, ht⟩) (fun q h => by cases h) dX0_bothWays_9
