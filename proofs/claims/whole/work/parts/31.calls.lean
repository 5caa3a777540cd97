/-! a call that writes one of two objects' worlds; a read of the script -/
theorem p_left {D : va_G} {cl : List vw_C} {w1 w2 : va_W} {H : Heap} (h : va_P D cl (w1 ++ w2) H) : va_P D cl w1 H := fun k q hk => h k q (by
  rw [List.getElem?_append_left (List.getElem?_eq_some_iff.mp hk).1]; exact hk)
section XC
variable {p : Program} {l : Launch} {e : Env} {R : Room} {s : State} {m : MethodId} {args : Array Value} {below : List Frame} {meth : Method} {c : Code} {H : Heap} {locs : List Loc} {cells slots : Nat} {Q : State → Prop}
variable {cc : ByteArray} {pc : Nat} {ls : Array Slot} {D : va_G} {A : Nat → Prop} {tys : List (ClassId × FieldType)} {H0 : Heap}
variable {own C : String} {index n maxL nL : Nat} {y : MethodName} {bytes : ByteArray} {ret' : Option FieldType} {wsm Ts : List Cond} {rm : Room} {b : Nat}
theorem wc_V (S : CallFix p m c cc nL s args Ts own) (As : List Value) (rest : List Value) {st0 : List Value} {sp : Int32 × XS} {w : XS → va_W} {wc wr : va_W} (hM : Met l y wsm rm (va_Pc (.ref b :: As) (Pw D wc tys H.size)) (va_Qi (fun r u => (r, u) = sp) (Bw D w tys (va_A wc H.size)) (va_A wc H.size)) 0 0 (va_A wc H.size)) (cw : CallW R s args own C index y bytes maxL ret' wsm rm 0 0 n) (hK : va_K D vwCl tys s) (hPc : va_P D vwCl wc H) (hPr : va_P D vwCl wr H) (hD : va_D A (wc ++ wr)) (hS : va_S A H0 H locs) (hA : ∀ q, H0.size ≤ q → A q) (isC isR : List Nat) (hC : isC.map (fun i => (wc ++ wr)[i]?) = wc.map some) (hR : isR.map (fun i => (wc ++ wr)[i]?) = wr.map some) (hnC : va_nd isC = true) (hnR : va_nd isR = true) (hdis : ∀ i ∈ isR, i ∉ isC) (hrv : ∃ cell : Cell, H[b]? = some cell ∧ cell.vm.isStatics = false ∧ s.vm.findClass C = some cell.cls) (hn : As.length = n) (hsz : ls.size = nL) (hst : st0 = As.reverse ++ .ref b :: rest) (hW : (rest.map fun v => v.category).sum ≤ 8) (hc : cells ≤ R.cells ∧ slots ≤ R.slots) (hdg : decode cc pc = .ok (.invokevirtual index, 3))
    (kk : ∀ (H1 : Heap) (locs1 : List Loc), va_P D vwCl (w sp.2) H1 → va_P D vwCl wr H1 → va_D A (wr ++ w sp.2) → va_S A H0 H1 locs1 → W p l e R s m args below meth c H1 locs1 cells slots Q (F0 m (pc + 3) ls (.int sp.1 :: rest))) : W p l e R s m args below meth c H locs cells slots Q (F0 m pc ls st0) := by
  subst hst
  have hPP := hPc.app hPr
  have hDc := hD.sub (ws' := wc) isC hnC hC
  have hFc := va_free (wc := wc) hD hS hA isC hC
  refine va_calli (va_runV S hM cw ⟨fun a U g mk q => ?_, hrv, fun U hU hW2 => ?_⟩ rfl hn hsz rfl (lv_room hW) hdg hc) hS (fun q _ h => hFc q h) hFc (fun r u t H1 locs1 ht hvm hw hB hz1 hk1 hS1 => ?_)
  · obtain ⟨q0, q1, qP, qK, qD⟩ := q
    exact ⟨q0, q1, qP, va_K.moved (u := U) (U := U.calling g mk a) (Vm.Alike.refl U.vm) qK, qD⟩
  · exact ⟨rfl, by rw [hU], by rw [hU]; exact hPc, va_K.moved hW2.alike hK, hDc.weaken (fun _ _ _ _ => trivial)⟩
  · subst hw
    obtain ⟨hP1, hK1, hD1⟩ := hB
    rw [ht] at hP1
    obtain ⟨hPj, hDj⟩ := va_join (wr := wr) (w1 := w u) hPP hD isC isR hC hR hnR hdis hk1 hFc hP1 hD1
    exact kk H1 locs1 hP1 (p_left hPj) hDj hS1
theorem xs_ld (hx : p.tables.exec = Jvm.exec) (hb : c.code = cc) {rest : List Value} {L : Nat} {xs : Nat → Int32} (hX : va_X b L xs s H0) (hbl : b < H0.size) (hbA : ¬ A b) (hS : va_S A H0 H locs) {k : Nat} (hk : k < L) (hL : L < 2 ^ 31) (hdg : decode cc pc = .ok (.iaload, 1))
    (kk : W p l e R s m args below meth c H locs cells slots Q (F0 m (pc + 1) ls (.int (xs k) :: rest))) : W p l e R s m args below meth c H locs cells slots Q (F0 m pc ls (.int (nI k) :: .ref b :: rest)) :=
  va_sld hx hb hX hbl hbA hS (vp_in_nI hk hL) hdg (by rw [nI_clamp (Nat.lt_trans hk hL)]; exact kk)
end XC
theorem sub6 {L i : Nat} (hL : L ≤ 3072) (hi : i ≤ L) : (Int32.ofNat L - 6 < nI i) ↔ L < i + 6 := by
  show nI L - nI 6 < nI i ↔ _
  rw [Int32.lt_iff_toInt_lt, pk_sub_toInt (by omega) (by omega), nI_toInt (by omega)]
  omega
/-- a new object's cell, its state, its addresses -/
def w0X (h : Nat) : va_W := [(h, .inr (0, [.null, .null, .null, .null, .null, .int 0, .int 0, .int 0, .int 0]))]
def w0M (h : Nat) : va_W := [(h, .inr (1, [.int 0, .int 0, .int 0, .int 0, .null, .null, .null, .null, .null]))]
def S0 : XS := (0, fun _ => 0, fun _ => 0, fun _ => 0, fun _ => 0, fun _ => false, -1, -1, 100)
theorem I_0 : lawI S0 := ⟨⟨Nat.zero_le _, fun _ => Nat.zero_le _⟩, fun _ _ => ⟨rfl, rfl⟩⟩
def adr (a b c d e f : Nat) : Nat → Nat := fun k => match k with
  | 0 => a
  | 1 => b
  | 2 => c
  | 3 => d
  | 4 => e
  | _ => f
def adk (b c d e f : ClassId) : Nat → ClassId := fun k => match k with
  | 1 => b
  | 2 => c
  | 3 => d
  | 4 => e
  | _ => f
