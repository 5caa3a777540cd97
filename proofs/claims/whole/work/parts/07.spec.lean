/-! what a state is: clocks, trials a clock, rates, chills, bests, seals, prize, record, frost -/
abbrev XS : Type := Nat × (Nat → Nat) × (Nat → Int32) × (Nat → Int32) × (Nat → Int32) × (Nat → Bool) × Int32 × Int32 × Int32
def s_n (S : XS) : Nat := S.1
def s_tr (S : XS) : Nat → Nat := S.2.1
def s_rt (S : XS) : Nat → Int32 := S.2.2.1
def s_ch (S : XS) : Nat → Int32 := S.2.2.2.1
def s_bs (S : XS) : Nat → Int32 := S.2.2.2.2.1
def s_sl (S : XS) : Nat → Bool := S.2.2.2.2.2.1
def s_pz (S : XS) : Int32 := S.2.2.2.2.2.2.1
def s_rc (S : XS) : Int32 := S.2.2.2.2.2.2.2.1
def s_fr (S : XS) : Int32 := S.2.2.2.2.2.2.2.2
def u_n (v : Nat) (S : XS) : XS := (v, s_tr S, s_rt S, s_ch S, s_bs S, s_sl S, s_pz S, s_rc S, s_fr S)
def u_tr (v : Nat → Nat) (S : XS) : XS := (s_n S, v, s_rt S, s_ch S, s_bs S, s_sl S, s_pz S, s_rc S, s_fr S)
def u_rt (v : Nat → Int32) (S : XS) : XS := (s_n S, s_tr S, v, s_ch S, s_bs S, s_sl S, s_pz S, s_rc S, s_fr S)
def u_ch (v : Nat → Int32) (S : XS) : XS := (s_n S, s_tr S, s_rt S, v, s_bs S, s_sl S, s_pz S, s_rc S, s_fr S)
def u_bs (v : Nat → Int32) (S : XS) : XS := (s_n S, s_tr S, s_rt S, s_ch S, v, s_sl S, s_pz S, s_rc S, s_fr S)
def u_sl (v : Nat → Bool) (S : XS) : XS := (s_n S, s_tr S, s_rt S, s_ch S, s_bs S, v, s_pz S, s_rc S, s_fr S)
def u_pz (v : Int32) (S : XS) : XS := (s_n S, s_tr S, s_rt S, s_ch S, s_bs S, s_sl S, v, s_rc S, s_fr S)
def u_rc (v : Int32) (S : XS) : XS := (s_n S, s_tr S, s_rt S, s_ch S, s_bs S, s_sl S, s_pz S, v, s_fr S)
def u_fr (v : Int32) (S : XS) : XS := (s_n S, s_tr S, s_rt S, s_ch S, s_bs S, s_sl S, s_pz S, s_rc S, v)
def upN (f : Nat → Nat) (i v : Nat) : Nat → Nat := fun j => if j = i then v else f j
def upB (f : Nat → Bool) (i : Nat) (v : Bool) : Nat → Bool := fun j => if j = i then v else f j
theorem upN_e (f : Nat → Nat) (i v : Nat) : upd (fun k => nI (f k)) i (nI v) = fun k => nI (upN f i v k) := by
  funext j; unfold upd upN; by_cases h : j = i <;> simp [h]
theorem upB_e (f : Nat → Bool) (i : Nat) (v : Bool) : upd (fun k => zi (f k)) i (zi v) = fun k => zi (upB f i v k) := by
  funext j; unfold upd upB; by_cases h : j = i <;> simp [h]
theorem upN_s (f : Nat → Nat) (i v : Nat) : upN f i v i = v := by simp [upN]
theorem up_uu (f : Nat → Int32) (i : Nat) (v w : Int32) : upd (upd f i v) i w = upd f i w := by
  funext j; unfold upd; by_cases h : j = i <;> simp [h]
theorem up_id (f : Nat → Int32) (i : Nat) : upd f i (f i) = f := by
  funext j; unfold upd; by_cases h : j = i <;> simp [h]
/-- the class's cells, and the reference's -/
def wX (A : Nat → Nat) (K : Nat → ClassId) (S : XS) : va_W := [(A 0, .inr (0, [.ref (A 1), .ref (A 2), .ref (A 3), .ref (A 4), .ref (A 5), .int (nI (s_n S)), .int (s_pz S), .int (s_rc S), .int (s_fr S)])), (A 1, .inl (K 1, 48, .inl (s_rt S))), (A 2, .inl (K 2, 48, .inl (s_ch S))), (A 3, .inl (K 3, 8, .inl (fun k => nI (s_tr S k)))), (A 4, .inl (K 4, 8, .inl (s_bs S))), (A 5, .inl (K 5, 8, .inl (fun k => zi (s_sl S k))))]
def tX (K : Nat → ClassId) : List (ClassId × FieldType) := [(K 1, .int), (K 2, .int), (K 3, .int), (K 4, .int), (K 5, .boolean)]
def wM (A : Nat → Nat) (K : Nat → ClassId) (S : XS) : va_W := [(A 0, .inr (1, [.int (nI (s_n S)), .int (s_pz S), .int (s_fr S), .int (s_rc S), .ref (A 1), .ref (A 2), .ref (A 3), .ref (A 4), .ref (A 5)])), (A 1, .inl (K 1, 8, .inl (fun k => nI (s_tr S k)))), (A 2, .inl (K 2, 8, .inl (s_bs S))), (A 3, .inl (K 3, 8, .inl (fun k => zi (s_sl S k)))), (A 4, .inl (K 4, 48, .inl (s_rt S))), (A 5, .inl (K 5, 48, .inl (s_ch S)))]
def tM (K : Nat → ClassId) : List (ClassId × FieldType) := [(K 1, .int), (K 2, .int), (K 3, .int), (K 4, .int), (K 5, .int)]
def x_inv (S : XS) : Prop := s_n S ≤ 8 ∧ ∀ k, s_tr S k ≤ 6
/-- start and end of a method that writes -/
def Pw (D : va_G) (ws : va_W) (tys : List (ClassId × FieldType)) (sz : Nat) (U : State) : Prop := U.heap.size = sz ∧ va_P D vwCl ws U.heap ∧ va_K D vwCl tys U ∧ va_D (fun _ => True) ws
def Bw (D : va_G) (w : XS → va_W) (tys : List (ClassId × FieldType)) (A9 : Nat → Prop) (S : XS) (t : State) : Prop := va_P D vwCl (w S) t.heap ∧ va_K D vwCl tys t ∧ va_D A9 (w S)
/-! what the methods answer -/
def h_in (v lo hi : Int32) : Bool := !decide (v < lo) && !decide (hi < v)
def h_num (sg a b : Int32) : Bool := if sg = 0 then !decide (b ≤ a) else if sg = 1 then !decide (b < a) else if sg = 2 then !decide (a ≤ b) else if sg = 3 then !decide (a < b) else if sg = 4 then decide (a = b) else !decide (a = b)
def h_all (nn sg a b : Int32) : Bool := if a = nn then decide (sg = 5) else if b = nn then decide (sg = 5) else h_num sg a b
def be (r o : Int32) : Bool := !decide (r = -1) && !h_all (-1) 1 o r
def x_rate (v : Int32) : Bool := decide (v = -1) || h_in v 0 999
def x_chill (v : Int32) : Bool := decide (v = 100) || h_in v (-99) 99
def isClk (S : XS) (v : Int32) : Bool := !decide (v < 0) && !decide (nI (s_n S) ≤ v)
def cold (S : XS) (t : Int32) : Bool := h_all 100 1 t (s_fr S)
def mk4 (c w b r : Bool) : Nat := b2 c 1 + b2 w 2 + b2 b 4 + b2 r 8
def x_marks (S : XS) (a : Nat) (h t : Int32) : Nat := mk4 (cold S t) (h_all (-1) 1 h (s_pz S)) (be h (s_bs S a)) (cold S t && be h (s_rc S))
def cn (q : Nat → Bool) : Nat → Nat
  | 0 => 0
  | k + 1 => cn q k + b2 (q k) 1
def sm (f : Nat → Nat) : Nat → Nat
  | 0 => 0
  | k + 1 => sm f k + f k
def wh (q : Nat → Bool) : Nat → Nat → Nat
  | 0, i => i
  | k + 1, i => if q i = true then wh q k (i + 1) else i
def ff (q : Nat → Bool) : Nat → Nat → Int32
  | 0, _ => -1
  | k + 1, i => if q i = true then nI i else ff q k (i + 1)
def lf (q : Nat → Bool) : Nat → Int32
  | 0 => -1
  | k + 1 => if q k = true then nI k else lf q k
def lr (f : Nat → Int32) : Nat → Int32
  | 0 => -1
  | k + 1 => if be (f k) (lr f k) = true then f k else lr f k
def fbl (f : Nat → Int32) : Nat → Int32 × Int32
  | 0 => (-1, -1)
  | k + 1 => if be (f k) (fbl f k).2 = true then (nI k, f k) else fbl f k
def x_least (S : XS) (a : Nat) : Int32 := lr (fun t => s_rt S (a * 6 + t)) (s_tr S a)
def ga (S : XS) (a b : Nat) : Bool := if s_bs S a = s_bs S b then !decide (b ≤ a) else be (s_bs S a) (s_bs S b)
def x_ahead (S : XS) (c : Nat) : Nat := cn (fun k => ga S k c) (s_n S)
def x_rank (S : XS) (c : Nat) : Nat := cn (fun k => be (s_bs S k) (s_bs S c)) (s_n S)
def x_cold (S : XS) (c : Nat) : Nat := cn (fun t => cold S (s_ch S (c * 6 + t))) (s_tr S c)
def x_more (S : XS) (c : Nat) : Nat := wh (fun t => h_all (-1) 2 (s_rt S (c * 6 + t)) (s_bs S c)) (s_tr S c) 0
def lc (S : XS) (c : Nat) : Int32 := if s_tr S c = 0 then 100 else s_ch S (c * 6 + (s_tr S c - 1))
def hc (S : XS) (w sg : Int32) (i j : Nat) : Bool := if w = 0 then h_all (-1) sg (s_bs S i) (s_bs S j) else h_all 100 sg (lc S i) (lc S j)
def x_row (S : XS) (w sg : Int32) (i j : Nat) : Nat := wh (fun k => hc S w sg k j) (s_n S - i) i
def m_row (S : XS) (w sg : Int32) (i j : Nat) : Nat := wh (fun k => hc S w sg (i + k) j) (s_n S - i) 0
def both (a b : Bool) : Int32 := if a = true then (if b = true then 1 else 2) else (if b = true then 2 else 0)
def x_first (S : XS) : Int32 := (fbl (s_bs S) (s_n S)).1
def x_place (S : XS) (k : Int32) : Int32 := ff (fun c => decide (nI (x_ahead S c) = k)) (s_n S) 0
def m_ahead (S : XS) (c : Nat) : Nat := cn (fun k => !decide (k = c) && ga S k c) (s_n S)
def m_place (S : XS) (k : Int32) : Int32 := lf (fun c => decide (nI (m_ahead S c) = k)) (s_n S)
def m_rk (S : XS) (c k : Nat) : Bool := !decide (k = c) && (if s_bs S c = -1 then !decide (s_bs S k = -1) else h_all (-1) 0 (s_bs S k) (s_bs S c))
def m_rank (S : XS) (c : Nat) : Nat := cn (m_rk S c) (s_n S)
def m_first (S : XS) : Int32 := if m_place S 0 = -1 then -1 else if s_bs S (m_place S 0).toNatClampNeg = -1 then -1 else m_place S 0
def tl (rk : Nat) (S : XS) (c : Nat) (w : Int32) : Int32 := if w = 0 then nI (s_tr S c) else if w = 1 then s_bs S c else if w = 2 then nI rk else if w = 3 then zi (s_sl S c) else if w = 4 then nI (x_cold S c) else if w = 5 then nI (x_more S c) else if w = 6 then lc S c else -1
def x_tell (S : XS) (v w : Int32) : Int32 := if isClk S v = true then tl (x_rank S v.toNatClampNeg) S v.toNatClampNeg w else -1
def m_tell (S : XS) (v w : Int32) : Int32 := if isClk S v = true then tl (m_rank S v.toNatClampNeg) S v.toNatClampNeg w else -1
def ct (fi : Int32) (S : XS) (w : Int32) : Int32 := if w = 0 then nI (s_n S) else if w = 1 then s_rc S else if w = 2 then s_pz S else if w = 3 then s_fr S else if w = 4 then nI (sm (s_tr S) (s_n S)) else if w = 5 then nI (cn (s_sl S) (s_n S)) else if w = 6 then fi else -1
def a_sl (S : XS) (a : Nat) (q : Bool) : XS := u_sl (upB (s_sl S) a q) S
def askN (row : Nat) (S : XS) (w sg hw : Int32) (a b : Nat) (last : Int32) : Int32 × XS := if hw = 0 then (zi (hc S w sg a b), S) else if hw = 1 then (zi (!hc S w sg a b), S) else if hw = 2 then (nI row, S) else if hw = 3 then ((if hc S w sg a b = true then nI a else nI b), S) else if hw = 4 then (nI (cn (s_sl (a_sl S a (hc S w sg a b))) (s_n S)), a_sl S a (hc S w sg a b)) else (last, S)
def x_ask (S : XS) (w sg hw v z : Int32) : Int32 × XS := if (h_in w 0 1 && h_in sg 0 5 && h_in hw 0 5 && isClk S v && isClk S z) = true then askN (x_row S w sg v.toNatClampNeg z.toNatClampNeg - v.toNatClampNeg) S w sg hw v.toNatClampNeg z.toNatClampNeg (both (hc S w sg v.toNatClampNeg z.toNatClampNeg) (hc S w sg z.toNatClampNeg v.toNatClampNeg)) else (-1, S)
def m_ask (S : XS) (w sg hw v z : Int32) : Int32 × XS := if (h_in w 0 1 && h_in sg 0 5 && isClk S v && isClk S z) = true then askN (m_row S w sg v.toNatClampNeg z.toNatClampNeg) S w sg hw v.toNatClampNeg z.toNatClampNeg (if hw = 5 then both (hc S w sg v.toNatClampNeg z.toNatClampNeg) (hc S w sg z.toNatClampNeg v.toNatClampNeg) else -1) else (-1, S)
def tr3 (S : XS) (a : Nat) (h t : Int32) : XS := u_tr (upN (s_tr S) a (s_tr S a + 1)) (u_ch (upd (s_ch S) (a * 6 + s_tr S a) t) (u_rt (upd (s_rt S) (a * 6 + s_tr S a) h) S))
def trX (S : XS) (a : Nat) (h t : Int32) : XS := if (cold S t && be h (s_rc S)) = true then u_rc h (if be h (s_bs S a) = true then u_bs (upd (s_bs S) a h) (tr3 S a h t) else tr3 S a h t) else if be h (s_bs S a) = true then u_bs (upd (s_bs S) a h) (tr3 S a h t) else tr3 S a h t
def trM (S : XS) (a : Nat) (h t : Int32) : XS := u_rc (if (cold S t && be h (s_rc S)) = true then h else s_rc S) (u_bs (upd (s_bs S) a (if be h (s_bs S a) = true then h else s_bs S a)) (tr3 S a h t))
def x_trial (S : XS) (v h t : Int32) : Int32 × XS := if (isClk S v && x_rate h && x_chill t && decide (s_tr S v.toNatClampNeg < 6)) = true then (nI (x_marks S v.toNatClampNeg h t), trX S v.toNatClampNeg h t) else (-1, S)
def m_trial (S : XS) (v h t : Int32) : Int32 × XS := if (isClk S v && !decide (s_tr S v.toNatClampNeg = 6) && h_in h (-1) 999 && h_in t (-99) 100) = true then (nI (x_marks S v.toNatClampNeg h t), trM S v.toNatClampNeg h t) else (-1, S)
def an1 (S : XS) (a : Nat) : XS := u_tr (upN (s_tr S) a (s_tr S a - 1)) S
def an2 (S : XS) (a : Nat) (v : Int32) : XS := u_bs (upd (s_bs S) a v) (an1 S a)
def x_annul (S : XS) (v : Int32) : Int32 × XS := if (isClk S v && !decide (s_tr S v.toNatClampNeg = 0)) = true then (nI (s_tr S v.toNatClampNeg - 1), an2 S v.toNatClampNeg (x_least (an1 S v.toNatClampNeg) v.toNatClampNeg)) else (-1, S)
def x_admit (S : XS) : Int32 × XS := if s_n S < 8 then (nI (s_n S), u_n (s_n S + 1) (u_bs (upd (s_bs S) (s_n S) (-1)) S)) else (-1, S)
def m_admit (S : XS) : Int32 × XS := if s_n S = 8 then (-1, S) else (nI (s_n S), u_n (s_n S + 1) (u_sl (upB (s_sl S) (s_n S) false) (u_bs (upd (s_bs S) (s_n S) (-1)) (u_tr (upN (s_tr S) (s_n S) 0) S))))
def x_prize (S : XS) (v : Int32) : Int32 × XS := if x_rate v = true then (zi true, u_pz v S) else (zi false, S)
def m_prize (S : XS) (v : Int32) : Int32 × XS := if h_in v (-1) 999 = true then (zi true, u_pz v S) else (zi false, S)
def x_frost (S : XS) (v : Int32) : Int32 × XS := if x_chill v = true then (zi true, u_fr v S) else (zi false, S)
def m_frost (S : XS) (v : Int32) : Int32 × XS := if h_in v (-99) 100 = true then (zi true, u_fr v S) else (zi false, S)
theorem isClk_ex {S : XS} {v : Int32} (h : isClk S v = true) (h8 : s_n S ≤ 8) : ∃ k : Nat, k < s_n S ∧ v = nI k := by
  have h1 : ¬ v < 0 := by intro q; simp [isClk, q] at h
  have h2 : ¬ nI (s_n S) ≤ v := by intro q; simp [isClk, q] at h
  obtain ⟨j, hj, rfl⟩ := nI_of h1
  exact ⟨j, Nat.not_le.mp fun q => h2 ((nI_leI (by omega) hj).mpr q), rfl⟩
theorem mk4_4 (c w b r : Bool) : (nI (mk4 c w b r) &&& 4 = 0) ↔ b = false := by cases c <;> cases w <;> cases b <;> cases r <;> decide
theorem mk4_8 (c w b r : Bool) : (nI (mk4 c w b r) &&& 8 = 0) ↔ r = false := by cases c <;> cases w <;> cases b <;> cases r <;> decide
theorem m_place_c (S : XS) (k : Int32) : m_place S k = -1 ∨ ∃ j : Nat, j < s_n S ∧ m_place S k = nI j := by
  unfold m_place
  generalize (fun c => decide (nI (m_ahead S c) = k)) = q
  generalize s_n S = n
  induction n with
  | zero => exact Or.inl rfl
  | succ n ih =>
    by_cases h : q n = true
    · exact Or.inr ⟨n, by omega, by simp [lf, h]⟩
    · rcases ih with e | ⟨j, hj, e⟩
      · exact Or.inl (by simp [lf, h, e])
      · exact Or.inr ⟨j, by omega, by simp [lf, h, e]⟩
theorem b_t {b : Bool} (h : ¬ b = false) : b = true := by cases b with | true => rfl | false => exact absurd rfl h
theorem hi_0 : h_in 0 0 5 = true := by decide
theorem hi_1 : h_in 1 0 5 = true := by decide
theorem hi_2 : h_in 2 0 5 = true := by decide
theorem hi_3 : h_in 3 0 5 = true := by decide
theorem hi_4 : h_in 4 0 5 = true := by decide
theorem hi_5 : h_in 5 0 5 = true := by decide
theorem least_an (S : XS) (a : Nat) : x_least (an1 S a) a = lr (fun t => s_rt S (a * 6 + t)) (s_tr S a - 1) := by
  unfold x_least
  show lr (fun t => s_rt S (a * 6 + t)) (upN (s_tr S) a (s_tr S a - 1) a) = _
  rw [upN_s]
