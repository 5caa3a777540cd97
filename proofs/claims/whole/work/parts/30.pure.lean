/-! the class's answers and the reference's are the same, over one state -/
theorem i_m1 (v : Int32) : v = -1 ↔ v.toInt = -1 := ⟨fun h => by rw [h]; decide, fun h => Int32.toInt_inj.mp (by rw [h]; decide)⟩
theorem i_100 (v : Int32) : v = 100 ↔ v.toInt = 100 := ⟨fun h => by rw [h]; decide, fun h => Int32.toInt_inj.mp (by rw [h]; decide)⟩
theorem i_ltc (v k : Int32) (z : Int) (h : k.toInt = z) : v < k ↔ v.toInt < z := by rw [Int32.lt_iff_toInt_lt, h]
theorem i_gtc (v k : Int32) (z : Int) (h : k.toInt = z) : k < v ↔ z < v.toInt := by rw [Int32.lt_iff_toInt_lt, h]
theorem E_rate (v : Int32) : x_rate v = h_in v (-1) 999 := by
  have e1 := i_m1 v
  have e2 := i_ltc v 0 0 (by decide)
  have e3 := i_gtc v 999 999 (by decide)
  have e4 := i_ltc v (-1) (-1) (by decide)
  rw [Bool.eq_iff_iff]
  simp only [x_rate, h_in, Bool.or_eq_true, Bool.and_eq_true, Bool.not_eq_true', decide_eq_true_eq, decide_eq_false_iff_not, e1, e2, e3, e4]
  omega
theorem E_chill (v : Int32) : x_chill v = h_in v (-99) 100 := by
  have e1 := i_100 v
  have e2 := i_ltc v (-99) (-99) (by decide)
  have e3 := i_gtc v 99 99 (by decide)
  have e4 := i_gtc v 100 100 (by decide)
  rw [Bool.eq_iff_iff]
  simp only [x_chill, h_in, Bool.or_eq_true, Bool.and_eq_true, Bool.not_eq_true', decide_eq_true_eq, decide_eq_false_iff_not, e1, e2, e3, e4]
  omega
theorem E_prize (S : XS) (v : Int32) : x_prize S v = m_prize S v := by unfold x_prize m_prize; rw [E_rate]
theorem E_frost (S : XS) (v : Int32) : x_frost S v = m_frost S v := by unfold x_frost m_frost; rw [E_chill]
/-- a rate's place in the order: none is behind all -/
def ky (v : Int32) : Int := if v = -1 then 1099511627776 else v.toInt
theorem ky_lt (v : Int32) : v.toInt < 2147483648 := by have h := Int32.toInt_lt v; omega
theorem ky_inj {a b : Int32} (h : ky a = ky b) : a = b := by
  have ha := ky_lt a
  have hb := ky_lt b
  unfold ky at h
  by_cases h1 : a = -1 <;> by_cases h2 : b = -1 <;> simp only [h1, h2, if_true, if_false] at h
  · rw [h1, h2]
  · omega
  · omega
  · exact Int32.toInt_inj.mp h
theorem be_ky (r o : Int32) : be r o = true ↔ ky r < ky o := by
  have hr := ky_lt r
  have ho := ky_lt o
  have d5 : decide ((1 : Int32) = 5) = false := by decide
  unfold be h_all h_num ky
  by_cases h1 : r = -1
  · subst h1
    by_cases h2 : o = -1
    · subst h2; simp
    · simp only [h2, if_false, if_true]; simp; omega
  · by_cases h2 : o = -1
    · subst h2; simp [h1]; omega
    · simp only [h1, h2, if_false]
      rw [← Int32.lt_iff_toInt_lt]
      simp
theorem be_self (r : Int32) : be r r = false := by
  cases h : be r r with
  | false => rfl
  | true => have := (be_ky r r).mp h; omega
theorem ga_iff (S : XS) (a b : Nat) : ga S a b = true ↔ (ky (s_bs S a) < ky (s_bs S b) ∨ (ky (s_bs S a) = ky (s_bs S b) ∧ a < b)) := by
  unfold ga
  by_cases h : s_bs S a = s_bs S b
  · simp only [h, if_true]; simp
  · have hk : ¬ ky (s_bs S a) = ky (s_bs S b) := fun q => h (ky_inj q)
    simp only [h, if_false, be_ky]
    omega
theorem ga_self (S : XS) (a : Nat) : ga S a a = false := by
  cases h : ga S a a with
  | false => rfl
  | true => have := (ga_iff S a a).mp h; omega
theorem E_ahead (S : XS) (c : Nat) : m_ahead S c = x_ahead S c := by
  unfold m_ahead x_ahead
  congr 1
  funext k
  by_cases h : k = c
  · subst h; rw [ga_self]; simp
  · simp [h]
theorem b2_le {p q : Bool} (h : p = true → q = true) : b2 p 1 ≤ b2 q 1 := by cases p <;> cases q <;> simp_all [b2]
theorem cn_le {p q : Nat → Bool} (h : ∀ k, p k = true → q k = true) : ∀ n, cn p n ≤ cn q n
  | 0 => Nat.le_refl _
  | n + 1 => by have h1 := cn_le h n; have h2 := b2_le (h n); simp only [cn]; omega
theorem cn_bd (p : Nat → Bool) : ∀ n, cn p n ≤ n
  | 0 => Nat.le_refl _
  | n + 1 => by have h1 := cn_bd p n; have h2 : b2 (p n) 1 ≤ 1 := by unfold b2; split <;> omega
                simp only [cn]; omega
theorem cn_lt {p q : Nat → Bool} (h : ∀ k, p k = true → q k = true) (j : Nat) (hq : q j = true) (hp : p j = false) : ∀ n, j < n → cn p n < cn q n
  | 0, hj => absurd hj (Nat.not_lt_zero _)
  | n + 1, hj => by
    have h2 := b2_le (h n)
    by_cases e : j = n
    · subst e
      have h1 := cn_le h j
      simp only [cn, hq, hp, b2]
      simp
      omega
    · have h1 := cn_lt h j hq hp n (by omega)
      simp only [cn]
      omega
theorem ahead_lt (S : XS) {a b : Nat} (ha : a < s_n S) (h : ga S a b = true) : x_ahead S a < x_ahead S b := by
  refine cn_lt (p := fun k => ga S k a) (q := fun k => ga S k b) (fun k hk => ?_) a h (ga_self S a) (s_n S) ha
  have h1 := (ga_iff S k a).mp hk
  have h2 := (ga_iff S a b).mp h
  exact (ga_iff S k b).mpr (by omega)
theorem ahead_inj (S : XS) {a b : Nat} (ha : a < s_n S) (hb : b < s_n S) (h : x_ahead S a = x_ahead S b) : a = b := by
  rcases Nat.lt_trichotomy a b with q | q | q
  · by_cases g : ga S a b = true
    · have := ahead_lt S ha g; omega
    · have g2 : ga S b a = true := (ga_iff S b a).mpr (by have := mt (ga_iff S a b).mpr g; omega)
      have := ahead_lt S hb g2; omega
  · exact q
  · by_cases g : ga S b a = true
    · have := ahead_lt S hb g; omega
    · have g2 : ga S a b = true := (ga_iff S a b).mpr (by have := mt (ga_iff S b a).mpr g; omega)
      have := ahead_lt S ha g2; omega
theorem lf_spec (q : Nat → Bool) : ∀ n, (lf q n = -1 ∧ ∀ c, c < n → q c = false) ∨ ∃ c, c < n ∧ q c = true ∧ lf q n = nI c
  | 0 => Or.inl ⟨rfl, fun c h => absurd h (Nat.not_lt_zero _)⟩
  | n + 1 => by
    cases h : q n with
    | true => exact Or.inr ⟨n, by omega, h, by simp [lf, h]⟩
    | false =>
      rcases lf_spec q n with ⟨e, g⟩ | ⟨c, hc, hq, e⟩
      · refine Or.inl ⟨by simp [lf, h, e], fun c hc => ?_⟩
        by_cases k : c = n
        · rw [k]; exact h
        · exact g c (by omega)
      · exact Or.inr ⟨c, by omega, hq, by simp [lf, h, e]⟩
theorem ff_spec (q : Nat → Bool) : ∀ n i, (ff q n i = -1 ∧ ∀ c, i ≤ c → c < i + n → q c = false) ∨ ∃ c, i ≤ c ∧ c < i + n ∧ q c = true ∧ ff q n i = nI c
  | 0, i => Or.inl ⟨rfl, fun c h1 h2 => by omega⟩
  | n + 1, i => by
    cases h : q i with
    | true => exact Or.inr ⟨i, by omega, by omega, h, by simp [ff, h]⟩
    | false =>
      rcases ff_spec q n (i + 1) with ⟨e, g⟩ | ⟨c, hc1, hc2, hq, e⟩
      · refine Or.inl ⟨by simp [ff, h, e], fun c h1 h2 => ?_⟩
        by_cases k : c = i
        · rw [k]; exact h
        · exact g c (by omega) (by omega)
      · exact Or.inr ⟨c, by omega, by omega, hq, by simp [ff, h, e]⟩
theorem ff_lf (q : Nat → Bool) (n : Nat) (h : ∀ a b, a < n → b < n → q a = true → q b = true → a = b) : ff q n 0 = lf q n := by
  rcases lf_spec q n with ⟨e, g⟩ | ⟨c, hc, hq, e⟩ <;> rcases ff_spec q n 0 with ⟨e', g'⟩ | ⟨c', hc1, hc2, hq', e'⟩
  · rw [e, e']
  · have := g c' (by omega); rw [hq'] at this; cases this
  · have := g' c (by omega) (by omega); rw [hq] at this; cases this
  · rw [e, e', h c c' hc (by omega) hq hq']
theorem x_ahead_bd (S : XS) (hI : x_inv S) (c : Nat) : x_ahead S c < 2 ^ 31 := by
  have h1 := cn_bd (fun k => ga S k c) (s_n S)
  have h2 := hI.1
  unfold x_ahead
  omega
theorem E_place (S : XS) (hI : x_inv S) (k : Int32) : x_place S k = m_place S k := by
  have e : (fun c => decide (nI (m_ahead S c) = k)) = fun c => decide (nI (x_ahead S c) = k) := by funext c; rw [E_ahead]
  unfold x_place m_place
  rw [e]
  refine ff_lf _ _ (fun a b ha hb h1 h2 => ?_)
  have h1 := of_decide_eq_true h1
  have h2 := of_decide_eq_true h2
  exact ahead_inj S ha hb ((nI_eq (x_ahead_bd S hI a) (x_ahead_bd S hI b)).mp (h1.trans h2.symm))
theorem fbl_spec (f : Nat → Int32) : ∀ n, (fbl f n = (-1, -1) ∧ ∀ k, k < n → f k = -1) ∨ ∃ c, c < n ∧ fbl f n = (nI c, f c) ∧ f c ≠ -1 ∧ (∀ k, k < n → ky (f c) ≤ ky (f k)) ∧ ∀ k, k < c → ky (f c) < ky (f k)
  | 0 => Or.inl ⟨rfl, fun k h => absurd h (Nat.not_lt_zero _)⟩
  | n + 1 => by
    rcases fbl_spec f n with ⟨e, g⟩ | ⟨c, hc, e, h1, h2, h3⟩
    · cases hb : be (f n) (-1) with
      | true =>
        have hk := (be_ky _ _).mp hb
        have km : ky (-1) = 1099511627776 := by decide
        refine Or.inr ⟨n, by omega, by simp [fbl, e, hb], fun q => ?_, fun k hkn => ?_, fun k hkn => ?_⟩
        · rw [q] at hk; omega
        · by_cases en : k = n
          · rw [en]; omega
          · rw [g k (by omega)]; omega
        · rw [g k hkn]; exact hk
      | false =>
        refine Or.inl ⟨by simp [fbl, e, hb], fun k hkn => ?_⟩
        by_cases en : k = n
        · rw [en]
          apply Classical.byContradiction
          intro q
          have : be (f n) (-1) = true := by simp [be, h_all, q]
          rw [hb] at this; cases this
        · exact g k (by omega)
    · cases hb : be (f n) (f c) with
      | true =>
        have hk := (be_ky _ _).mp hb
        refine Or.inr ⟨n, by omega, by simp [fbl, e, hb], fun q => ?_, fun k hkn => ?_, fun k hkn => ?_⟩
        · rw [q] at hb; simp [be] at hb
        · by_cases en : k = n
          · rw [en]; omega
          · have := h2 k (by omega); omega
        · have := h2 k (by omega); omega
      | false =>
        refine Or.inr ⟨c, by omega, by simp [fbl, e, hb], h1, fun k hkn => ?_, h3⟩
        by_cases en : k = n
        · rw [en]
          apply Classical.byContradiction
          intro q
          have := (be_ky (f n) (f c)).mpr (by omega)
          rw [hb] at this; cases this
        · exact h2 k (by omega)
theorem nI_nm1 {j : Nat} (h : j < 2 ^ 31) : ¬ nI j = -1 := by
  intro q
  have h1 := nI_toInt h
  rw [(i_m1 _).mp q] at h1
  omega
theorem E_first (S : XS) (hI : x_inv S) : x_first S = m_first S := by
  have h8 := hI.1
  unfold x_first
  rcases fbl_spec (s_bs S) (s_n S) with ⟨e, g⟩ | ⟨c, hc, e, h1, h2, h3⟩
  · rw [e]
    unfold m_first
    rcases m_place_c S 0 with e0 | ⟨j, hj, e0⟩
    · simp [e0]
    · rw [e0, nI_clamp (by omega), g j hj]
      simp
  · rw [e]
    have ha : x_ahead S c = 0 := by
      have hz : ∀ n, n ≤ s_n S → cn (fun k => ga S k c) n = 0 := by
        intro n
        induction n with
        | zero => intro _; rfl
        | succ n ih =>
          intro hn
          have hg : ga S n c = false := by
            cases hg : ga S n c with
            | false => rfl
            | true =>
              have q := (ga_iff S n c).mp hg
              have q2 := h2 n (by omega)
              by_cases hnc : n < c
              · have := h3 n hnc; omega
              · omega
          simp only [cn, ih (by omega), hg, b2]
          simp
      exact hz (s_n S) (Nat.le_refl _)
    have hp : m_place S 0 = nI c := by
      unfold m_place
      rcases lf_spec (fun c => decide (nI (m_ahead S c) = 0)) (s_n S) with ⟨e', g'⟩ | ⟨c', hc', hq', e'⟩
      · have := g' c hc
        simp only [E_ahead, ha] at this
        exact absurd this (by decide)
      · rw [e']
        have h4 : nI (m_ahead S c') = 0 := of_decide_eq_true hq'
        rw [E_ahead] at h4
        have h5 : x_ahead S c' = 0 := (nI_eq (b := 0) (x_ahead_bd S hI c') (by omega)).mp h4
        rw [ahead_inj S hc' hc (h5.trans ha.symm)]
    unfold m_first
    rw [hp, nI_clamp (by omega)]
    simp [nI_nm1 (show c < 2 ^ 31 by omega), h1]
theorem E_rank (S : XS) (c : Nat) : m_rank S c = x_rank S c := by
  unfold m_rank x_rank
  congr 1
  funext k
  unfold m_rk
  by_cases h : k = c
  · subst h; rw [be_self]; simp
  · have d5 : decide ((0 : Int32) = 5) = false := by decide
    by_cases h2 : s_bs S c = -1
    · simp [h, h2, be, h_all]
    · by_cases h3 : s_bs S k = -1
      · simp [h, h2, h3, be, h_all]
      · simp [h, h2, h3, be, h_all, h_num]
        rw [Bool.eq_iff_iff]
        simp only [decide_eq_true_eq, Bool.not_eq_true', decide_eq_false_iff_not]
        rw [Int32.le_iff_toInt_le, Int32.lt_iff_toInt_lt]
        omega
theorem E_tell (S : XS) (v w : Int32) : x_tell S v w = m_tell S v w := by unfold x_tell m_tell; rw [E_rank]
theorem wh_sh (p : Nat → Bool) (a : Nat) : ∀ n i, wh p n (a + i) = wh (fun k => p (a + k)) n i + a
  | 0, i => by simp only [wh]; omega
  | n + 1, i => by
    have ih := wh_sh p a n (i + 1)
    simp only [wh]
    by_cases h : p (a + i) = true
    · simp only [h, if_true]; rw [← ih, Nat.add_assoc]
    · simp only [h, if_false]; simp; omega
theorem E_row (S : XS) (w sg : Int32) (a b : Nat) : x_row S w sg a b - a = m_row S w sg a b := by
  have h := wh_sh (fun k => hc S w sg k b) a (s_n S - a) 0
  unfold x_row m_row
  rw [Nat.add_zero] at h
  rw [h]
  omega
theorem how_in {hw : Int32} (h : h_in hw 0 5 = true) (h0 : ¬ hw = 0) (h1 : ¬ hw = 1) (h2 : ¬ hw = 2) (h3 : ¬ hw = 3) (h4 : ¬ hw = 4) : hw = 5 := by
  have e1 := i_ltc hw 0 0 (by decide)
  have e2 := i_gtc hw 5 5 (by decide)
  simp only [h_in, Bool.and_eq_true, Bool.not_eq_true', decide_eq_false_iff_not, e1, e2] at h
  have t0 := lv_neT (a := 0) h0 rfl
  have t1 := lv_neT (a := 1) h1 rfl
  have t2 := lv_neT (a := 2) h2 rfl
  have t3 := lv_neT (a := 3) h3 rfl
  have t4 := lv_neT (a := 4) h4 rfl
  exact Int32.toInt_inj.mp (by rw [show (5 : Int32).toInt = 5 from rfl]; omega)
theorem E_ask (S : XS) (w sg hw v z : Int32) : x_ask S w sg hw v z = m_ask S w sg hw v z := by
  unfold x_ask m_ask
  rw [E_row]
  generalize h_in w 0 1 = p1
  generalize h_in sg 0 5 = p2
  generalize isClk S v = p3
  generalize isClk S z = p4
  cases p1 <;> cases p2 <;> cases p3 <;> cases p4 <;> simp only [Bool.true_and, Bool.false_and, Bool.and_false, Bool.and_true, if_false, if_true, Bool.false_eq_true]
  unfold askN
  by_cases h0 : hw = 0
  · subst h0; simp [hi_0]
  by_cases h1 : hw = 1
  · subst h1; simp [hi_1]
  by_cases h2 : hw = 2
  · subst h2; simp [hi_2]
  by_cases h3 : hw = 3
  · subst h3; simp [hi_3]
  by_cases h4 : hw = 4
  · subst h4; simp [hi_4]
  by_cases h5 : hw = 5
  · subst h5; simp [hi_5]
  · have hf : h_in hw 0 5 = false := by
      cases q : h_in hw 0 5 with
      | false => rfl
      | true => exact absurd (how_in q h0 h1 h2 h3 h4) h5
    simp [h0, h1, h2, h3, h4, h5, hf]
theorem E_tr (S : XS) (a : Nat) (h t : Int32) : trX S a h t = trM S a h t := by
  unfold trX trM
  cases be h (s_bs S a) <;> cases (cold S t && be h (s_rc S)) <;> simp only [if_true, if_false, Bool.false_eq_true, up_id] <;> rfl
theorem E_trial (S : XS) (hI : x_inv S) (v h t : Int32) : x_trial S v h t = m_trial S v h t := by
  unfold x_trial m_trial
  rw [E_rate, E_chill, E_tr]
  have h6 := hI.2 v.toNatClampNeg
  have e : decide (s_tr S v.toNatClampNeg < 6) = !decide (s_tr S v.toNatClampNeg = 6) := by
    rw [Bool.eq_iff_iff]; simp; omega
  rw [e]
  generalize isClk S v = p1
  generalize h_in h (-1) 999 = p2
  generalize h_in t (-99) 100 = p3
  generalize (!decide (s_tr S v.toNatClampNeg = 6)) = p4
  cases p1 <;> cases p2 <;> cases p3 <;> cases p4 <;> rfl
/-- what holds of the law's state -/
def lawI (S : XS) : Prop := x_inv S ∧ ∀ k, s_n S ≤ k → s_tr S k = 0 ∧ s_sl S k = false
theorem upN_id (f : Nat → Nat) (i : Nat) (h : f i = 0) : upN f i 0 = f := by
  funext j; unfold upN; by_cases e : j = i
  · subst e; simp [h]
  · simp [e]
theorem upB_id (f : Nat → Bool) (i : Nat) (h : f i = false) : upB f i false = f := by
  funext j; unfold upB; by_cases e : j = i
  · subst e; simp [h]
  · simp [e]
theorem E_admit (S : XS) (hI : lawI S) : x_admit S = m_admit S := by
  have h8 := hI.1.1
  have h0 := hI.2 (s_n S) (Nat.le_refl _)
  unfold x_admit m_admit
  by_cases h : s_n S = 8
  · simp [h]
  · have hlt : s_n S < 8 := by omega
    simp only [h, hlt, if_true, if_false]
    rw [upN_id _ _ h0.1, upB_id _ _ h0.2]
    rfl
theorem I_admit (S : XS) (hI : lawI S) : lawI (x_admit S).2 := by
  unfold x_admit
  by_cases h : s_n S < 8
  · simp only [h, if_true]
    exact ⟨⟨by show s_n S + 1 ≤ 8; omega, hI.1.2⟩, fun k hk => hI.2 k (by have : s_n S + 1 ≤ k := hk; omega)⟩
  · simp only [h, if_false]; exact hI
theorem I_prize (S : XS) (v : Int32) (hI : lawI S) : lawI (x_prize S v).2 := by
  unfold x_prize
  cases x_rate v
  · exact hI
  · exact hI
theorem I_frost (S : XS) (v : Int32) (hI : lawI S) : lawI (x_frost S v).2 := by
  unfold x_frost
  cases x_chill v
  · exact hI
  · exact hI
theorem clk_lt {S : XS} {v : Int32} (hI : x_inv S) (h : isClk S v = true) : v.toNatClampNeg < s_n S := by
  have h8 := hI.1
  obtain ⟨k, hk, rfl⟩ := isClk_ex h h8
  rw [nI_clamp (by omega)]
  exact hk
theorem I_tr {S S' : XS} (a v : Nat) (hI : lawI S) (ha : a < s_n S) (hv : v ≤ 6) (hn : s_n S' = s_n S) (ht : s_tr S' = upN (s_tr S) a v) (hs : s_sl S' = s_sl S) : lawI S' := by
  refine ⟨⟨by rw [hn]; exact hI.1.1, fun k => ?_⟩, fun k hk => ?_⟩
  · rw [ht]; unfold upN; have := hI.1.2 k; split <;> omega
  · rw [hn] at hk
    rw [ht, hs]
    have := hI.2 k hk
    refine ⟨?_, this.2⟩
    unfold upN
    rw [if_neg (by omega)]
    exact this.1
theorem I_trial (S : XS) (v h t : Int32) (hI : lawI S) : lawI (x_trial S v h t).2 := by
  unfold x_trial
  split
  · rename_i q
    simp only [Bool.and_eq_true, decide_eq_true_eq] at q
    refine I_tr v.toNatClampNeg (s_tr S v.toNatClampNeg + 1) hI (clk_lt hI.1 q.1.1.1) (by omega) ?_ ?_ ?_
    · rw [E_tr]; rfl
    · rw [E_tr]; rfl
    · rw [E_tr]; rfl
  · exact hI
theorem I_annul (S : XS) (v : Int32) (hI : lawI S) : lawI (x_annul S v).2 := by
  unfold x_annul
  split
  · rename_i q
    simp only [Bool.and_eq_true] at q
    have := hI.1.2 v.toNatClampNeg
    exact I_tr v.toNatClampNeg (s_tr S v.toNatClampNeg - 1) hI (clk_lt hI.1 q.1) (by omega) rfl rfl rfl
  · exact hI
theorem I_sl (S : XS) (a : Nat) (q : Bool) (hI : lawI S) (ha : a < s_n S) : lawI (a_sl S a q) := by
  refine ⟨hI.1, fun k hk => ?_⟩
  have hk : s_n S ≤ k := hk
  have h := hI.2 k hk
  refine ⟨h.1, ?_⟩
  show upB (s_sl S) a q k = false
  unfold upB
  rw [if_neg (by omega)]
  exact h.2
theorem I_ask (S : XS) (w sg hw v z : Int32) (hI : lawI S) : lawI (x_ask S w sg hw v z).2 := by
  unfold x_ask
  split
  · rename_i q
    simp only [Bool.and_eq_true] at q
    have hs := I_sl S v.toNatClampNeg (hc S w sg v.toNatClampNeg z.toNatClampNeg) hI (clk_lt hI.1 q.1.2)
    unfold askN
    by_cases h0 : hw = 0
    · simp only [h0, if_true]; exact hI
    by_cases h1 : hw = 1
    · simp only [h0, h1, if_true, if_false]; exact hI
    by_cases h2 : hw = 2
    · simp only [h0, h1, h2, if_true, if_false]; exact hI
    by_cases h3 : hw = 3
    · simp only [h0, h1, h2, h3, if_true, if_false]; exact hI
    by_cases h4 : hw = 4
    · simp only [h0, h1, h2, h3, h4, if_true, if_false]; exact hs
    · simp only [h0, h1, h2, h3, h4, if_false]; exact hI
  · exact hI
