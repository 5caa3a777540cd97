set_option maxHeartbeats 4000000 in
set_option maxRecDepth 100000 in
theorem c_X1_isRate (l : Launch) (v : Int32) : Met l yX1_isRate wsX1_isRate (rmD 0) (va_Pc [.int v] (fun _ => True)) (vp_Si (fun r => r = (zi (h_in v (-1) 999)))) 0 0 (fun _ => False) := by
  refine Met.ofW (cc := cX1_isRate) (maxL := 1) (ret := some .boolean) (by decide) rfl ?_
  intro p e s m args below meth c s₁ B hml hv
  obtain ⟨rfl, -⟩ := hv
  have hx := B.exec
  have hb := B.bytes
  have hr := B.returns
  have hts := atoms_spec (ws := wsX1_isRate) B.pre
  have hown : s.vm.findClass RX1 = some m.cls := findClass_of_methodNamed B.named
  have hlocks := B.notSynchronized
  have hl := lv_entry ([.int v]) (n := 1) (Nat.le_of_ble_eq_true rfl)
  rw [lg_entry_eq]
  generalize (lg_sl ([.int v]) ++ List.replicate (1 - (lg_sl ([.int v])).length) Slot.unset).toArray = ls at hl ⊢
  have hl : lv_has ls 1 [(0, .int v)] := hl
  refine lv_iload_n hx hb dX1_isRate_0 rfl (lv_at hl 0 rfl) ?_
  refine lv_iconst (v := (-1)) hx hb dX1_isRate_1 (by decide) ?_
  refine lv_icmp_lt (tgt := 16) hx hb dX1_isRate_2 (by decide) (fun c1 => ?_) (fun c1 => ?_)
  · refine lv_iconst (v := 0) hx hb dX1_isRate_16 (by decide) ?_
    exact W.zret (v := zi false) hx hb hr (zi_n _) (fun t ht hW => ⟨_, rfl, by simp [h_in, c1], ht⟩) (fun q h => by cases h) dX1_isRate_17
  · refine lv_iload_n hx hb dX1_isRate_5 rfl (lv_at hl 0 rfl) ?_
    refine lv_sipush (v := 999) hx hb dX1_isRate_6 (by decide) ?_
    refine lv_icmp_gt (tgt := 16) hx hb dX1_isRate_9 (by decide) (fun c2 => ?_) (fun c2 => ?_)
    · refine lv_iconst (v := 0) hx hb dX1_isRate_16 (by decide) ?_
      exact W.zret (v := zi false) hx hb hr (zi_n _) (fun t ht hW => ⟨_, rfl, by simp [h_in, c1, c2], ht⟩) (fun q h => by cases h) dX1_isRate_17
    · refine lv_iconst (v := 1) hx hb dX1_isRate_12 (by decide) ?_
      refine lv_goto (tgt := 17) hx hb dX1_isRate_13 (by decide) ?_
      exact W.zret (v := zi true) hx hb hr (zi_n _) (fun t ht hW => ⟨_, rfl, by simp [h_in, c1, c2], ht⟩) (fun q h => by cases h) dX1_isRate_17
set_option maxHeartbeats 4000000 in
set_option maxRecDepth 100000 in
theorem c_X1_isChill (l : Launch) (v : Int32) : Met l yX1_isChill wsX1_isChill (rmD 0) (va_Pc [.int v] (fun _ => True)) (vp_Si (fun r => r = (zi (h_in v (-99) 100)))) 0 0 (fun _ => False) := by
  refine Met.ofW (cc := cX1_isChill) (maxL := 1) (ret := some .boolean) (by decide) rfl ?_
  intro p e s m args below meth c s₁ B hml hv
  obtain ⟨rfl, -⟩ := hv
  have hx := B.exec
  have hb := B.bytes
  have hr := B.returns
  have hts := atoms_spec (ws := wsX1_isChill) B.pre
  have hown : s.vm.findClass RX1 = some m.cls := findClass_of_methodNamed B.named
  have hlocks := B.notSynchronized
  have hl := lv_entry ([.int v]) (n := 1) (Nat.le_of_ble_eq_true rfl)
  rw [lg_entry_eq]
  generalize (lg_sl ([.int v]) ++ List.replicate (1 - (lg_sl ([.int v])).length) Slot.unset).toArray = ls at hl ⊢
  have hl : lv_has ls 1 [(0, .int v)] := hl
  refine lv_iload_n hx hb dX1_isChill_0 rfl (lv_at hl 0 rfl) ?_
  refine lv_bipush (v := (-99)) hx hb dX1_isChill_1 (by decide) ?_
  refine lv_icmp_lt (tgt := 16) hx hb dX1_isChill_3 (by decide) (fun c1 => ?_) (fun c1 => ?_)
  · refine lv_iconst (v := 0) hx hb dX1_isChill_16 (by decide) ?_
    exact W.zret (v := zi false) hx hb hr (zi_n _) (fun t ht hW => ⟨_, rfl, by simp [h_in, c1], ht⟩) (fun q h => by cases h) dX1_isChill_17
  · refine lv_iload_n hx hb dX1_isChill_6 rfl (lv_at hl 0 rfl) ?_
    refine lv_bipush (v := 100) hx hb dX1_isChill_7 (by decide) ?_
    refine lv_icmp_gt (tgt := 16) hx hb dX1_isChill_9 (by decide) (fun c2 => ?_) (fun c2 => ?_)
    · refine lv_iconst (v := 0) hx hb dX1_isChill_16 (by decide) ?_
      exact W.zret (v := zi false) hx hb hr (zi_n _) (fun t ht hW => ⟨_, rfl, by simp [h_in, c1, c2], ht⟩) (fun q h => by cases h) dX1_isChill_17
    · refine lv_iconst (v := 1) hx hb dX1_isChill_12 (by decide) ?_
      refine lv_goto (tgt := 17) hx hb dX1_isChill_13 (by decide) ?_
      exact W.zret (v := zi true) hx hb hr (zi_n _) (fun t ht hW => ⟨_, rfl, by simp [h_in, c1, c2], ht⟩) (fun q h => by cases h) dX1_isChill_17
set_option maxHeartbeats 4000000 in
set_option maxRecDepth 100000 in
theorem c_X1_holds (l : Launch) (sg : Int32) (v : Int32) (z : Int32) (nn : Int32) : Met l yX1_holds wsX1_holds (rmD 0) (va_Pc [.int sg, .int v, .int z, .int nn] (fun _ => True)) (vp_Si (fun r => r = (zi (h_all nn sg v z)))) 0 0 (fun _ => False) := by
  refine Met.ofW (cc := cX1_holds) (maxL := 4) (ret := some .boolean) (by decide) rfl ?_
  intro p e s m args below meth c s₁ B hml hv
  obtain ⟨rfl, -⟩ := hv
  have hx := B.exec
  have hb := B.bytes
  have hr := B.returns
  have hts := atoms_spec (ws := wsX1_holds) B.pre
  have hown : s.vm.findClass RX1 = some m.cls := findClass_of_methodNamed B.named
  have hlocks := B.notSynchronized
  have hl := lv_entry ([.int sg, .int v, .int z, .int nn]) (n := 4) (Nat.le_of_ble_eq_true rfl)
  rw [lg_entry_eq]
  generalize (lg_sl ([.int sg, .int v, .int z, .int nn]) ++ List.replicate (4 - (lg_sl ([.int sg, .int v, .int z, .int nn])).length) Slot.unset).toArray = ls at hl ⊢
  have hl : lv_has ls 4 [(0, .int sg), (1, .int v), (2, .int z), (3, .int nn)] := hl
  refine lv_iload_n hx hb dX1_holds_0 rfl (lv_at hl 1 rfl) ?_
  refine lv_iload_n hx hb dX1_holds_1 rfl (lv_at hl 3 rfl) ?_
  refine lv_icmp_eq (tgt := 10) hx hb dX1_holds_2 (by decide) (fun c1 => ?_) (fun c1 => ?_)
  · refine lv_iload_n hx hb dX1_holds_10 rfl (lv_at hl 0 rfl) ?_
    refine lv_iconst (v := 5) hx hb dX1_holds_11 (by decide) ?_
    refine lv_icmp_ne (tgt := 19) hx hb dX1_holds_12 (by decide) (fun c2 => ?_) (fun c2 => ?_)
    · refine lv_iconst (v := 0) hx hb dX1_holds_19 (by decide) ?_
      exact W.zret (v := zi false) hx hb hr (zi_n _) (fun t ht hW => ⟨_, rfl, by simp [h_all, h_num, c1, c2], ht⟩) (fun q h => by cases h) dX1_holds_20
    · refine lv_iconst (v := 1) hx hb dX1_holds_15 (by decide) ?_
      refine lv_goto (tgt := 20) hx hb dX1_holds_16 (by decide) ?_
      exact W.zret (v := zi true) hx hb hr (zi_n _) (fun t ht hW => ⟨_, rfl, by simp [h_all, h_num, c1, c2], ht⟩) (fun q h => by cases h) dX1_holds_20
  · refine lv_iload_n hx hb dX1_holds_5 rfl (lv_at hl 2 rfl) ?_
    refine lv_iload_n hx hb dX1_holds_6 rfl (lv_at hl 3 rfl) ?_
    refine lv_icmp_ne (tgt := 21) hx hb dX1_holds_7 (by decide) (fun c3 => ?_) (fun c3 => ?_)
    · refine lv_iload_n hx hb dX1_holds_21 rfl (lv_at hl 0 rfl) ?_
      by_cases w4 : sg = 0
      · refine lv_tableIn (tgt := 56) hx hb dX1_holds_22 (by rw [w4]; decide) (by rw [w4]; decide) (by rw [w4]; rfl) (by decide) ?_
        refine lv_iload_n hx hb dX1_holds_56 rfl (lv_at hl 1 rfl) ?_
        refine lv_iload_n hx hb dX1_holds_57 rfl (lv_at hl 2 rfl) ?_
        refine lv_icmp_ge (tgt := 65) hx hb dX1_holds_58 (by decide) (fun c5 => ?_) (fun c5 => ?_)
        · refine lv_iconst (v := 0) hx hb dX1_holds_65 (by decide) ?_
          exact W.zret (v := zi false) hx hb hr (zi_n _) (fun t ht hW => ⟨_, rfl, by simp [h_all, h_num, c1, c3, w4, c5], ht⟩) (fun q h => by cases h) dX1_holds_66
        · refine lv_iconst (v := 1) hx hb dX1_holds_61 (by decide) ?_
          refine lv_goto (tgt := 66) hx hb dX1_holds_62 (by decide) ?_
          exact W.zret (v := zi true) hx hb hr (zi_n _) (fun t ht hW => ⟨_, rfl, by simp [h_all, h_num, c1, c3, w4, c5], ht⟩) (fun q h => by cases h) dX1_holds_66
      by_cases w6 : sg = 1
      · refine lv_tableIn (tgt := 67) hx hb dX1_holds_22 (by rw [w6]; decide) (by rw [w6]; decide) (by rw [w6]; rfl) (by decide) ?_
        refine lv_iload_n hx hb dX1_holds_67 rfl (lv_at hl 1 rfl) ?_
        refine lv_iload_n hx hb dX1_holds_68 rfl (lv_at hl 2 rfl) ?_
        refine lv_icmp_gt (tgt := 76) hx hb dX1_holds_69 (by decide) (fun c7 => ?_) (fun c7 => ?_)
        · refine lv_iconst (v := 0) hx hb dX1_holds_76 (by decide) ?_
          exact W.zret (v := zi false) hx hb hr (zi_n _) (fun t ht hW => ⟨_, rfl, by simp [h_all, h_num, c1, c3, w4, w6, c7], ht⟩) (fun q h => by cases h) dX1_holds_77
        · refine lv_iconst (v := 1) hx hb dX1_holds_72 (by decide) ?_
          refine lv_goto (tgt := 77) hx hb dX1_holds_73 (by decide) ?_
          exact W.zret (v := zi true) hx hb hr (zi_n _) (fun t ht hW => ⟨_, rfl, by simp [h_all, h_num, c1, c3, w4, w6, c7], ht⟩) (fun q h => by cases h) dX1_holds_77
      by_cases w8 : sg = 2
      · refine lv_tableIn (tgt := 78) hx hb dX1_holds_22 (by rw [w8]; decide) (by rw [w8]; decide) (by rw [w8]; rfl) (by decide) ?_
        refine lv_iload_n hx hb dX1_holds_78 rfl (lv_at hl 1 rfl) ?_
        refine lv_iload_n hx hb dX1_holds_79 rfl (lv_at hl 2 rfl) ?_
        refine lv_icmp_le (tgt := 87) hx hb dX1_holds_80 (by decide) (fun c9 => ?_) (fun c9 => ?_)
        · refine lv_iconst (v := 0) hx hb dX1_holds_87 (by decide) ?_
          exact W.zret (v := zi false) hx hb hr (zi_n _) (fun t ht hW => ⟨_, rfl, by simp [h_all, h_num, c1, c3, w4, w6, w8, c9], ht⟩) (fun q h => by cases h) dX1_holds_88
        · refine lv_iconst (v := 1) hx hb dX1_holds_83 (by decide) ?_
          refine lv_goto (tgt := 88) hx hb dX1_holds_84 (by decide) ?_
          exact W.zret (v := zi true) hx hb hr (zi_n _) (fun t ht hW => ⟨_, rfl, by simp [h_all, h_num, c1, c3, w4, w6, w8, c9], ht⟩) (fun q h => by cases h) dX1_holds_88
      by_cases w10 : sg = 3
      · refine lv_tableIn (tgt := 89) hx hb dX1_holds_22 (by rw [w10]; decide) (by rw [w10]; decide) (by rw [w10]; rfl) (by decide) ?_
        refine lv_iload_n hx hb dX1_holds_89 rfl (lv_at hl 1 rfl) ?_
        refine lv_iload_n hx hb dX1_holds_90 rfl (lv_at hl 2 rfl) ?_
        refine lv_icmp_lt (tgt := 98) hx hb dX1_holds_91 (by decide) (fun c11 => ?_) (fun c11 => ?_)
        · refine lv_iconst (v := 0) hx hb dX1_holds_98 (by decide) ?_
          exact W.zret (v := zi false) hx hb hr (zi_n _) (fun t ht hW => ⟨_, rfl, by simp [h_all, h_num, c1, c3, w4, w6, w8, w10, c11], ht⟩) (fun q h => by cases h) dX1_holds_99
        · refine lv_iconst (v := 1) hx hb dX1_holds_94 (by decide) ?_
          refine lv_goto (tgt := 99) hx hb dX1_holds_95 (by decide) ?_
          exact W.zret (v := zi true) hx hb hr (zi_n _) (fun t ht hW => ⟨_, rfl, by simp [h_all, h_num, c1, c3, w4, w6, w8, w10, c11], ht⟩) (fun q h => by cases h) dX1_holds_99
      by_cases w12 : sg = 4
      · refine lv_tableIn (tgt := 100) hx hb dX1_holds_22 (by rw [w12]; decide) (by rw [w12]; decide) (by rw [w12]; rfl) (by decide) ?_
        refine lv_iload_n hx hb dX1_holds_100 rfl (lv_at hl 1 rfl) ?_
        refine lv_iload_n hx hb dX1_holds_101 rfl (lv_at hl 2 rfl) ?_
        refine lv_icmp_ne (tgt := 109) hx hb dX1_holds_102 (by decide) (fun c13 => ?_) (fun c13 => ?_)
        · refine lv_iconst (v := 0) hx hb dX1_holds_109 (by decide) ?_
          exact W.zret (v := zi false) hx hb hr (zi_n _) (fun t ht hW => ⟨_, rfl, by simp [h_all, h_num, c1, c3, w4, w6, w8, w10, w12, c13], ht⟩) (fun q h => by cases h) dX1_holds_110
        · refine lv_iconst (v := 1) hx hb dX1_holds_105 (by decide) ?_
          refine lv_goto (tgt := 110) hx hb dX1_holds_106 (by decide) ?_
          exact W.zret (v := zi true) hx hb hr (zi_n _) (fun t ht hW => ⟨_, rfl, by simp [h_all, h_num, c1, c3, w4, w6, w8, w10, w12, c13], ht⟩) (fun q h => by cases h) dX1_holds_110
      refine lv_tableOut (tgt := 111) hx hb dX1_holds_22 (by have tw4 := lv_neT (a := 0) w4 rfl; have tw6 := lv_neT (a := 1) w6 rfl; have tw8 := lv_neT (a := 2) w8 rfl; have tw10 := lv_neT (a := 3) w10 rfl; have tw12 := lv_neT (a := 4) w12 rfl; omega) (by decide) ?_
      refine lv_iload_n hx hb dX1_holds_111 rfl (lv_at hl 1 rfl) ?_
      refine lv_iload_n hx hb dX1_holds_112 rfl (lv_at hl 2 rfl) ?_
      refine lv_icmp_eq (tgt := 120) hx hb dX1_holds_113 (by decide) (fun c14 => ?_) (fun c14 => ?_)
      · refine lv_iconst (v := 0) hx hb dX1_holds_120 (by decide) ?_
        exact W.zret (v := zi false) hx hb hr (zi_n _) (fun t ht hW => ⟨_, rfl, by simp [h_all, h_num, c1, c3, w4, w6, w8, w10, w12, c14], ht⟩) (fun q h => by cases h) dX1_holds_121
      · refine lv_iconst (v := 1) hx hb dX1_holds_116 (by decide) ?_
        refine lv_goto (tgt := 121) hx hb dX1_holds_117 (by decide) ?_
        exact W.zret (v := zi true) hx hb hr (zi_n _) (fun t ht hW => ⟨_, rfl, by simp [h_all, h_num, c1, c3, w4, w6, w8, w10, w12, c14], ht⟩) (fun q h => by cases h) dX1_holds_121
    · refine lv_iload_n hx hb dX1_holds_10 rfl (lv_at hl 0 rfl) ?_
      refine lv_iconst (v := 5) hx hb dX1_holds_11 (by decide) ?_
      refine lv_icmp_ne (tgt := 19) hx hb dX1_holds_12 (by decide) (fun c15 => ?_) (fun c15 => ?_)
      · refine lv_iconst (v := 0) hx hb dX1_holds_19 (by decide) ?_
        exact W.zret (v := zi false) hx hb hr (zi_n _) (fun t ht hW => ⟨_, rfl, by simp [h_all, h_num, c1, c3, c15], ht⟩) (fun q h => by cases h) dX1_holds_20
      · refine lv_iconst (v := 1) hx hb dX1_holds_15 (by decide) ?_
        refine lv_goto (tgt := 20) hx hb dX1_holds_16 (by decide) ?_
        exact W.zret (v := zi true) hx hb hr (zi_n _) (fun t ht hW => ⟨_, rfl, by simp [h_all, h_num, c1, c3, c15], ht⟩) (fun q h => by cases h) dX1_holds_20
set_option maxHeartbeats 4000000 in
set_option maxRecDepth 100000 in
theorem c_X1_beats (l : Launch) (v : Int32) (z : Int32) : Met l yX1_beats wsX1_beats (rmD 1) (va_Pc [.int v, .int z] (fun _ => True)) (vp_Si (fun r => r = (zi (be v z)))) 0 0 (fun _ => False) := by
  refine Met.ofW (cc := cX1_beats) (maxL := 2) (ret := some .boolean) (by decide) rfl ?_
  intro p e s m args below meth c s₁ B hml hv
  obtain ⟨rfl, -⟩ := hv
  have hx := B.exec
  have hb := B.bytes
  have hr := B.returns
  have hts := atoms_spec (ws := wsX1_beats) B.pre
  have hown : s.vm.findClass RX1 = some m.cls := findClass_of_methodNamed B.named
  have hlocks := B.notSynchronized
  have hl := lv_entry ([.int v, .int z]) (n := 2) (Nat.le_of_ble_eq_true rfl)
  rw [lg_entry_eq]
  generalize (lg_sl ([.int v, .int z]) ++ List.replicate (2 - (lg_sl ([.int v, .int z])).length) Slot.unset).toArray = ls at hl ⊢
  have hl : lv_has ls 2 [(0, .int v), (1, .int z)] := hl
  refine lv_iload_n hx hb dX1_beats_0 rfl (lv_at hl 0 rfl) ?_
  refine lv_iconst (v := (-1)) hx hb dX1_beats_1 (by decide) ?_
  refine lv_icmp_eq (tgt := 19) hx hb dX1_beats_2 (by decide) (fun c1 => ?_) (fun c1 => ?_)
  · refine lv_iconst (v := 0) hx hb dX1_beats_19 (by decide) ?_
    exact W.zret (v := zi false) hx hb hr (zi_n _) (fun t ht hW => ⟨_, rfl, by simp [be, c1], ht⟩) (fun q h => by cases h) dX1_beats_20
  · refine lv_iconst (v := 1) hx hb dX1_beats_5 (by decide) ?_
    refine lv_iload_n hx hb dX1_beats_6 rfl (lv_at hl 1 rfl) ?_
    refine lv_iload_n hx hb dX1_beats_7 rfl (lv_at hl 0 rfl) ?_
    refine lv_iconst (v := (-1)) hx hb dX1_beats_8 (by decide) ?_
    refine rc_S (v := (zi (h_all (-1) 1 z v))) ⟨hx, hb, hml, hown, hts⟩ [.int 1, .int z, .int v, .int (-1)] [] (c_X1_holds l 1 z v (-1)) (va_cwS 4 hts gX1_beats_X1_holds rfl rfl rfl (by decide +kernel) ⟨Nat.le_of_ble_eq_true rfl, Nat.le_of_ble_eq_true rfl⟩) rfl hl.1 rfl (Nat.le_of_ble_eq_true rfl) ⟨Nat.zero_le _, Nat.zero_le _⟩ dX1_beats_9 ?_
    refine xz_ne (b := (h_all (-1) 1 z v)) (tgt := 19) hx hb dX1_beats_12 (by decide) (fun c2 => ?_) (fun c2 => ?_)
    · refine lv_iconst (v := 0) hx hb dX1_beats_19 (by decide) ?_
      exact W.zret (v := zi false) hx hb hr (zi_n _) (fun t ht hW => ⟨_, rfl, by simp [be, c1, c2], ht⟩) (fun q h => by cases h) dX1_beats_20
    · refine lv_iconst (v := 1) hx hb dX1_beats_15 (by decide) ?_
      refine lv_goto (tgt := 20) hx hb dX1_beats_16 (by decide) ?_
      exact W.zret (v := zi true) hx hb hr (zi_n _) (fun t ht hW => ⟨_, rfl, by simp [be, c1, c2], ht⟩) (fun q h => by cases h) dX1_beats_20
