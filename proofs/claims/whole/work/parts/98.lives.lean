/-! TOLD LIVES -/
theorem k_div {a d : Nat} (h0 : 0 < d) (ha : a < 2147483648) (hd : d < 2147483648) : nI a / nI d = nI (a / d) := pk_div (by omega) h0 (by omega)
/-- what comes of one thing told, if it can be -/
def sHap (d : zD) (k : Nat) : Option zD :=
  if k < 10000 then none
  else if 30000 ≤ k then (if k - 30000 < dn d ∧ dou d (k - 30000) < 6 then some (dDie d (k - 30000)) else none)
  else if k / 1000 % 10 < dn d ∧ dou d (k / 1000 % 10) < 6 then
    (if k < 20000 then (if k / 100 % 10 < 8 ∧ 1 ≤ k % 100 then some (sPress d (k / 1000 % 10) (k / 100 % 10) (nI (k % 100))).1 else none)
    else (if k / 100 % 10 < 6 ∧ dou d (k / 1000 % 10) ≤ k / 100 % 10 ∧ k % 100 < 8 then some (sRub d (k / 1000 % 10) (k / 100 % 10) (k % 100)) else none))
  else none
/-- from the i-th on, m things: the first that can't be, and the land then -/
def sLf (w : Nat → Nat) : Nat → Nat → zD → Option Nat × zD
  | _, 0, d => (none, d)
  | i, m + 1, d => match sHap d (w i) with
    | none => (some i, d)
    | some d' => sLf w (i + 1) m d'
section LIF
variable {P : Nat → Prop} {pk : Nat → Nat} {S S' T : zSt} {i s p n : Nat} {d d' : zD} {v : Int32}
theorem hap_lo {k : Nat} (h : k < 10000) : sHap d k = none := if_pos h
theorem hap_die {k : Nat} (h : 30000 ≤ k) (e1 : k - 30000 < dn d) (e2 : dou d (k - 30000) < 6) : sHap d k = some (dDie d (k - 30000)) := by
  unfold sHap
  rw [if_neg (by omega), if_pos h, if_pos ⟨e1, e2⟩]
theorem hap_dieN {k : Nat} (h : 30000 ≤ k) (e : ¬ (k - 30000 < dn d ∧ dou d (k - 30000) < 6)) : sHap d k = none := by
  unfold sHap
  rw [if_neg (by omega), if_pos h, if_neg e]
theorem hap_pr {k p m f : Nat} (h1 : 10000 ≤ k) (h2 : k < 20000) (hP : k / 1000 % 10 = p) (hM : k / 100 % 10 = m) (hF : k % 100 = f) (e1 : p < dn d) (e2 : dou d p < 6) (e3 : m < 8) (e4 : 1 ≤ f) : sHap d k = some (sPress d p m (nI f)).1 := by
  subst hP hM hF
  unfold sHap
  rw [if_neg (by omega), if_neg (by omega), if_pos ⟨e1, e2⟩, if_pos h2, if_pos ⟨e3, e4⟩]
theorem hap_prN {k p m f : Nat} (h1 : 10000 ≤ k) (h2 : k < 20000) (hP : k / 1000 % 10 = p) (hM : k / 100 % 10 = m) (hF : k % 100 = f) (e : ¬ (p < dn d ∧ dou d p < 6 ∧ m < 8 ∧ 1 ≤ f)) : sHap d k = none := by
  subst hP hM hF
  unfold sHap
  rw [if_neg (by omega), if_neg (by omega)]
  by_cases c : k / 1000 % 10 < dn d ∧ dou d (k / 1000 % 10) < 6
  · rw [if_pos c, if_pos h2, if_neg (fun z => e ⟨c.1, c.2, z.1, z.2⟩)]
  · rw [if_neg c]
theorem hap_ru {k p m f : Nat} (h1 : 20000 ≤ k) (h2 : k < 30000) (hP : k / 1000 % 10 = p) (hM : k / 100 % 10 = m) (hF : k % 100 = f) (e1 : p < dn d) (e2 : dou d p < 6) (e3 : m < 6) (e4 : dou d p ≤ m) (e5 : f < 8) : sHap d k = some (sRub d p m f) := by
  subst hP hM hF
  unfold sHap
  rw [if_neg (by omega), if_neg (by omega), if_pos ⟨e1, e2⟩, if_neg (by omega), if_pos ⟨e3, e4, e5⟩]
theorem hap_ruN {k p m f : Nat} (h1 : 20000 ≤ k) (h2 : k < 30000) (hP : k / 1000 % 10 = p) (hM : k / 100 % 10 = m) (hF : k % 100 = f) (e : ¬ (p < dn d ∧ dou d p < 6 ∧ m < 6 ∧ dou d p ≤ m ∧ f < 8)) : sHap d k = none := by
  subst hP hM hF
  unfold sHap
  rw [if_neg (by omega), if_neg (by omega)]
  by_cases c : k / 1000 % 10 < dn d ∧ dou d (k / 1000 % 10) < 6
  · rw [if_pos c, if_neg (by omega), if_neg (fun z => e ⟨c.1, c.2, z.1, z.2.1, z.2.2⟩)]
  · rw [if_neg c]
theorem hap_inv {k : Nat} (h : sHap d k = some d') : (30000 ≤ k ∧ k - 30000 < dn d ∧ dou d (k - 30000) < 6 ∧ d' = dDie d (k - 30000)) ∨ (10000 ≤ k ∧ k < 20000 ∧ ∃ p m f, k / 1000 % 10 = p ∧ k / 100 % 10 = m ∧ k % 100 = f ∧ p < dn d ∧ dou d p < 6 ∧ m < 8 ∧ 1 ≤ f ∧ d' = (sPress d p m (nI f)).1) ∨ (20000 ≤ k ∧ k < 30000 ∧ ∃ p m f, k / 1000 % 10 = p ∧ k / 100 % 10 = m ∧ k % 100 = f ∧ p < dn d ∧ dou d p < 6 ∧ m < 6 ∧ dou d p ≤ m ∧ f < 8 ∧ d' = sRub d p m f) := by
  by_cases c1 : k < 10000
  · rw [hap_lo c1] at h; cases h
  · by_cases c2 : 30000 ≤ k
    · by_cases e : k - 30000 < dn d ∧ dou d (k - 30000) < 6
      · rw [hap_die c2 e.1 e.2] at h
        exact Or.inl ⟨c2, e.1, e.2, (Option.some.inj h).symm⟩
      · rw [hap_dieN c2 e] at h; cases h
    · right
      by_cases c5 : k < 20000
      · by_cases e : k / 1000 % 10 < dn d ∧ dou d (k / 1000 % 10) < 6 ∧ k / 100 % 10 < 8 ∧ 1 ≤ k % 100
        · obtain ⟨e1, e2, e3, e4⟩ := e
          rw [hap_pr (by omega) c5 rfl rfl rfl e1 e2 e3 e4] at h
          exact Or.inl ⟨by omega, c5, _, _, _, rfl, rfl, rfl, e1, e2, e3, e4, (Option.some.inj h).symm⟩
        · rw [hap_prN (by omega) c5 rfl rfl rfl e] at h; cases h
      · by_cases e : k / 1000 % 10 < dn d ∧ dou d (k / 1000 % 10) < 6 ∧ k / 100 % 10 < 6 ∧ dou d (k / 1000 % 10) ≤ k / 100 % 10 ∧ k % 100 < 8
        · obtain ⟨e1, e2, e3, e4, e5⟩ := e
          rw [hap_ru (by omega) (by omega) rfl rfl rfl e1 e2 e3 e4 e5] at h
          exact Or.inr ⟨by omega, by omega, _, _, _, rfl, rfl, rfl, e1, e2, e3, e4, e5, (Option.some.inj h).symm⟩
        · rw [hap_ruN (by omega) (by omega) rfl rfl rfl e] at h; cases h
theorem hap_kk (K : KK d) {k : Nat} (h : sHap d k = some d') : KK d' ∧ dn d' = dn d ∧ (k < 30000 → dou d' = dou d) := by
  rcases hap_inv h with ⟨c, e1, e2, rfl⟩ | ⟨c1, c2, p, m, f, -, -, -, e1, e2, e3, e4, rfl⟩ | ⟨c1, c2, p, m, f, -, -, -, e1, e2, e3, e4, e5, rfl⟩
  · exact ⟨K.die e2, rfl, fun q => by omega⟩
  · have := press_alk (p := p) (d := d) e3 (nI f) (by omega)
    exact ⟨this.kk K, this.1, fun _ => this.2.2.2.2.1⟩
  · have := rub_alk (p := p) (d := d) e3 e5
    exact ⟨this.kk K, this.1, fun _ => this.2.2.2.2.1⟩
/-- the class' row of who is dead by then -/
def OU (i : Nat) (S : zSt) (d : zD) : Prop := ∀ p, p < 6 → zar S (60 + 3 * i + 2) p = nI (if p < dn d then dou d p else 6)
theorem l_canBe (pk : Nat → Nat) (K : KK d) (hO : OU i S d) {k : Nat} (hk : k < 2147483648) : (sHap d k = none ∧ M_X4_canBe pk S i (nI k) = some (nI 0)) ∨ ∃ d', sHap d k = some d' ∧ M_X4_canBe pk S i (nI k) = some (nI 1) := by
  have hn6 := K.1
  unfold M_X4_canBe
  by_cases c1 : k < 10000
  · exact Or.inl ⟨hap_lo c1, by simp (disch := omega) only [reduceIte, li, lo, k_leT, k_leF, k_ltT, k_ltF, k_eqT, k_eqF, c_cl, c_sub, nI_add, pk_mul, zin_nI, zg_true, ob_some, zm_none, zm_some, if_true, if_false, Bool.false_eq_true, d_t, d_f, ob_eta, ob_eta1, m_ltn, m_nlt, m_nle, m_len, m_ne, m_ne', k_mltT, k_mltF, k_mleT, k_mleF, k_meqT, k_meqF, m_neg]⟩
  · by_cases c2 : 30000 ≤ k
    · by_cases c3 : k < 30006
      · have o := hO (k - 30000) (by omega)
        by_cases e1 : k - 30000 < dn d
        · rw [if_pos e1] at o
          have ko := (K.pe e1).o
          by_cases e2 : dou d (k - 30000) < 6
          · exact Or.inr ⟨_, hap_die c2 e1 e2, by simp (disch := omega) only [reduceIte, li, lo, k_leT, k_leF, k_ltT, k_ltF, k_eqT, k_eqF, c_cl, c_sub, nI_add, pk_mul, zin_nI, zg_true, ob_some, zm_none, zm_some, if_true, if_false, Bool.false_eq_true, d_t, d_f, ob_eta, ob_eta1, m_ltn, m_nlt, m_nle, m_len, m_ne, m_ne', k_mltT, k_mltF, k_mleT, k_mleF, k_meqT, k_meqF, m_neg, o]⟩
          · exact Or.inl ⟨hap_dieN c2 (fun z => e2 z.2), by simp (disch := omega) only [reduceIte, li, lo, k_leT, k_leF, k_ltT, k_ltF, k_eqT, k_eqF, c_cl, c_sub, nI_add, pk_mul, zin_nI, zg_true, ob_some, zm_none, zm_some, if_true, if_false, Bool.false_eq_true, d_t, d_f, ob_eta, ob_eta1, m_ltn, m_nlt, m_nle, m_len, m_ne, m_ne', k_mltT, k_mltF, k_mleT, k_mleF, k_meqT, k_meqF, m_neg, o]⟩
        · rw [if_neg e1] at o
          exact Or.inl ⟨hap_dieN c2 (fun z => e1 z.1), by simp (disch := omega) only [reduceIte, li, lo, k_leT, k_leF, k_ltT, k_ltF, k_eqT, k_eqF, c_cl, c_sub, nI_add, pk_mul, zin_nI, zg_true, ob_some, zm_none, zm_some, if_true, if_false, Bool.false_eq_true, d_t, d_f, ob_eta, ob_eta1, m_ltn, m_nlt, m_nle, m_len, m_ne, m_ne', k_mltT, k_mltF, k_mleT, k_mleF, k_meqT, k_meqF, m_neg, o]⟩
      · exact Or.inl ⟨hap_dieN c2 (fun z => by omega), by simp (disch := omega) only [reduceIte, li, lo, k_leT, k_leF, k_ltT, k_ltF, k_eqT, k_eqF, c_cl, c_sub, nI_add, pk_mul, zin_nI, zg_true, ob_some, zm_none, zm_some, if_true, if_false, Bool.false_eq_true, d_t, d_f, ob_eta, ob_eta1, m_ltn, m_nlt, m_nle, m_len, m_ne, m_ne', k_mltT, k_mltF, k_mleT, k_mleF, k_meqT, k_meqF, m_neg]⟩
    · have q1 : k / 1000 - k / 1000 / 10 * 10 = k / 1000 % 10 := by omega
      have q2 : k / 100 - k / 100 / 10 * 10 = k / 100 % 10 := by omega
      have q3 : k - k / 100 * 100 = k % 100 := by omega
      have b1 : k / 1000 % 10 < 10 := by omega
      have b2 : k / 100 % 10 < 10 := by omega
      have b3 : k % 100 < 100 := by omega
      generalize hP : k / 1000 % 10 = p at *
      generalize hM : k / 100 % 10 = m at *
      generalize hF : k % 100 = f at *
      have nD : ∀ y, 8 ≤ y → y < 1000 → M_X11_isDeed pk S (nI y) = some (nI 0) := fun y a b => by unfold M_X11_isDeed; simp (disch := omega) only [reduceIte, li, lo, k_leT, k_leF, k_ltT, k_ltF, k_eqT, k_eqF, c_cl, c_sub, nI_add, pk_mul, zin_nI, zg_true, ob_some, zm_none, zm_some, if_true, if_false, Bool.false_eq_true, d_t, d_f, ob_eta, ob_eta1, m_ltn, m_nlt, m_nle, m_len, m_ne, m_ne', k_mltT, k_mltF, k_mleT, k_mleF, k_meqT, k_meqF, m_neg]
      have nC : ∀ y, 6 ≤ y → y < 1000 → M_X11_isCopy pk S (nI y) = some (nI 0) := fun y a b => by unfold M_X11_isCopy; simp (disch := omega) only [reduceIte, li, lo, k_leT, k_leF, k_ltT, k_ltF, k_eqT, k_eqF, c_cl, c_sub, nI_add, pk_mul, zin_nI, zg_true, ob_some, zm_none, zm_some, if_true, if_false, Bool.false_eq_true, d_t, d_f, ob_eta, ob_eta1, m_ltn, m_nlt, m_nle, m_len, m_ne, m_ne', k_mltT, k_mltF, k_mleT, k_mleF, k_meqT, k_meqF, m_neg]
      by_cases c4 : k < 20000
      · have no := fun e => hap_prN (d := d) (by omega) c4 hP hM hF e
        by_cases p6 : p < 6
        · have o := hO p p6
          by_cases e1 : p < dn d
          · rw [if_pos e1] at o
            have ko := (K.pe e1).o
            by_cases e2 : dou d p < 6
            · by_cases m8 : m < 8
              · by_cases f1 : 1 ≤ f
                · exact Or.inr ⟨_, hap_pr (by omega) c4 hP hM hF e1 e2 m8 f1, by simp (disch := omega) only [reduceIte, li, lo, k_leT, k_leF, k_ltT, k_ltF, k_eqT, k_eqF, c_cl, c_sub, nI_add, pk_mul, zin_nI, zg_true, ob_some, zm_none, zm_some, if_true, if_false, Bool.false_eq_true, d_t, d_f, ob_eta, ob_eta1, m_ltn, m_nlt, m_nle, m_len, m_ne, m_ne', k_mltT, k_mltF, k_mleT, k_mleF, k_meqT, k_meqF, m_neg, k_div, q1, q2, q3, o, t_isDeed pk S m8]⟩
                · exact Or.inl ⟨no (fun z => f1 z.2.2.2), by simp (disch := omega) only [reduceIte, li, lo, k_leT, k_leF, k_ltT, k_ltF, k_eqT, k_eqF, c_cl, c_sub, nI_add, pk_mul, zin_nI, zg_true, ob_some, zm_none, zm_some, if_true, if_false, Bool.false_eq_true, d_t, d_f, ob_eta, ob_eta1, m_ltn, m_nlt, m_nle, m_len, m_ne, m_ne', k_mltT, k_mltF, k_mleT, k_mleF, k_meqT, k_meqF, m_neg, k_div, q1, q2, q3, o, t_isDeed pk S m8]⟩
              · exact Or.inl ⟨no (fun z => m8 z.2.2.1), by simp (disch := omega) only [reduceIte, li, lo, k_leT, k_leF, k_ltT, k_ltF, k_eqT, k_eqF, c_cl, c_sub, nI_add, pk_mul, zin_nI, zg_true, ob_some, zm_none, zm_some, if_true, if_false, Bool.false_eq_true, d_t, d_f, ob_eta, ob_eta1, m_ltn, m_nlt, m_nle, m_len, m_ne, m_ne', k_mltT, k_mltF, k_mleT, k_mleF, k_meqT, k_meqF, m_neg, k_div, q1, q2, q3, o, nD m (by omega) (by omega)]⟩
            · exact Or.inl ⟨no (fun z => e2 z.2.1), by simp (disch := omega) only [reduceIte, li, lo, k_leT, k_leF, k_ltT, k_ltF, k_eqT, k_eqF, c_cl, c_sub, nI_add, pk_mul, zin_nI, zg_true, ob_some, zm_none, zm_some, if_true, if_false, Bool.false_eq_true, d_t, d_f, ob_eta, ob_eta1, m_ltn, m_nlt, m_nle, m_len, m_ne, m_ne', k_mltT, k_mltF, k_mleT, k_mleF, k_meqT, k_meqF, m_neg, k_div, q1, q2, q3, o]⟩
          · rw [if_neg e1] at o
            exact Or.inl ⟨no (fun z => e1 z.1), by simp (disch := omega) only [reduceIte, li, lo, k_leT, k_leF, k_ltT, k_ltF, k_eqT, k_eqF, c_cl, c_sub, nI_add, pk_mul, zin_nI, zg_true, ob_some, zm_none, zm_some, if_true, if_false, Bool.false_eq_true, d_t, d_f, ob_eta, ob_eta1, m_ltn, m_nlt, m_nle, m_len, m_ne, m_ne', k_mltT, k_mltF, k_mleT, k_mleF, k_meqT, k_meqF, m_neg, k_div, q1, q2, q3, o]⟩
        · exact Or.inl ⟨no (fun z => by omega), by simp (disch := omega) only [reduceIte, li, lo, k_leT, k_leF, k_ltT, k_ltF, k_eqT, k_eqF, c_cl, c_sub, nI_add, pk_mul, zin_nI, zg_true, ob_some, zm_none, zm_some, if_true, if_false, Bool.false_eq_true, d_t, d_f, ob_eta, ob_eta1, m_ltn, m_nlt, m_nle, m_len, m_ne, m_ne', k_mltT, k_mltF, k_mleT, k_mleF, k_meqT, k_meqF, m_neg, k_div, q1, q2, q3]⟩
      · have no := fun e => hap_ruN (d := d) (by omega) (by omega) hP hM hF e
        by_cases p6 : p < 6
        · have o := hO p p6
          by_cases e1 : p < dn d
          · rw [if_pos e1] at o
            have ko := (K.pe e1).o
            by_cases e2 : dou d p < 6
            · by_cases m6 : m < 6
              · by_cases mo : dou d p ≤ m
                · by_cases f8 : f < 8
                  · exact Or.inr ⟨_, hap_ru (by omega) (by omega) hP hM hF e1 e2 m6 mo f8, by simp (disch := omega) only [reduceIte, li, lo, k_leT, k_leF, k_ltT, k_ltF, k_eqT, k_eqF, c_cl, c_sub, nI_add, pk_mul, zin_nI, zg_true, ob_some, zm_none, zm_some, if_true, if_false, Bool.false_eq_true, d_t, d_f, ob_eta, ob_eta1, m_ltn, m_nlt, m_nle, m_len, m_ne, m_ne', k_mltT, k_mltF, k_mleT, k_mleF, k_meqT, k_meqF, m_neg, k_div, q1, q2, q3, o, t_isCopy pk S m6, t_isDeed pk S f8]⟩
                  · exact Or.inl ⟨no (fun z => f8 z.2.2.2.2), by simp (disch := omega) only [reduceIte, li, lo, k_leT, k_leF, k_ltT, k_ltF, k_eqT, k_eqF, c_cl, c_sub, nI_add, pk_mul, zin_nI, zg_true, ob_some, zm_none, zm_some, if_true, if_false, Bool.false_eq_true, d_t, d_f, ob_eta, ob_eta1, m_ltn, m_nlt, m_nle, m_len, m_ne, m_ne', k_mltT, k_mltF, k_mleT, k_mleF, k_meqT, k_meqF, m_neg, k_div, q1, q2, q3, o, t_isCopy pk S m6, nD f (by omega) (by omega)]⟩
                · exact Or.inl ⟨no (fun z => mo z.2.2.2.1), by simp (disch := omega) only [reduceIte, li, lo, k_leT, k_leF, k_ltT, k_ltF, k_eqT, k_eqF, c_cl, c_sub, nI_add, pk_mul, zin_nI, zg_true, ob_some, zm_none, zm_some, if_true, if_false, Bool.false_eq_true, d_t, d_f, ob_eta, ob_eta1, m_ltn, m_nlt, m_nle, m_len, m_ne, m_ne', k_mltT, k_mltF, k_mleT, k_mleF, k_meqT, k_meqF, m_neg, k_div, q1, q2, q3, o, t_isCopy pk S m6]⟩
              · exact Or.inl ⟨no (fun z => m6 z.2.2.1), by simp (disch := omega) only [reduceIte, li, lo, k_leT, k_leF, k_ltT, k_ltF, k_eqT, k_eqF, c_cl, c_sub, nI_add, pk_mul, zin_nI, zg_true, ob_some, zm_none, zm_some, if_true, if_false, Bool.false_eq_true, d_t, d_f, ob_eta, ob_eta1, m_ltn, m_nlt, m_nle, m_len, m_ne, m_ne', k_mltT, k_mltF, k_mleT, k_mleF, k_meqT, k_meqF, m_neg, k_div, q1, q2, q3, o, nC m (by omega) (by omega)]⟩
            · exact Or.inl ⟨no (fun z => e2 z.2.1), by simp (disch := omega) only [reduceIte, li, lo, k_leT, k_leF, k_ltT, k_ltF, k_eqT, k_eqF, c_cl, c_sub, nI_add, pk_mul, zin_nI, zg_true, ob_some, zm_none, zm_some, if_true, if_false, Bool.false_eq_true, d_t, d_f, ob_eta, ob_eta1, m_ltn, m_nlt, m_nle, m_len, m_ne, m_ne', k_mltT, k_mltF, k_mleT, k_mleF, k_meqT, k_meqF, m_neg, k_div, q1, q2, q3, o]⟩
          · rw [if_neg e1] at o
            exact Or.inl ⟨no (fun z => e1 z.1), by simp (disch := omega) only [reduceIte, li, lo, k_leT, k_leF, k_ltT, k_ltF, k_eqT, k_eqF, c_cl, c_sub, nI_add, pk_mul, zin_nI, zg_true, ob_some, zm_none, zm_some, if_true, if_false, Bool.false_eq_true, d_t, d_f, ob_eta, ob_eta1, m_ltn, m_nlt, m_nle, m_len, m_ne, m_ne', k_mltT, k_mltF, k_mleT, k_mleF, k_meqT, k_meqF, m_neg, k_div, q1, q2, q3, o]⟩
        · exact Or.inl ⟨no (fun z => by omega), by simp (disch := omega) only [reduceIte, li, lo, k_leT, k_leF, k_ltT, k_ltF, k_eqT, k_eqF, c_cl, c_sub, nI_add, pk_mul, zin_nI, zg_true, ob_some, zm_none, zm_some, if_true, if_false, Bool.false_eq_true, d_t, d_f, ob_eta, ob_eta1, m_ltn, m_nlt, m_nle, m_len, m_ne, m_ne', k_mltT, k_mltF, k_mleT, k_mleF, k_meqT, k_meqF, m_neg, k_div, q1, q2, q3]⟩
/-- as an int that is told: below 0 it can't be -/
def tN (v : Int32) : Nat := v.toNatClampNeg
theorem tN_c (v : Int32) : (v < nI 0 ∧ tN v = 0) ∨ ∃ k, k < 2147483648 ∧ v = nI k ∧ tN v = k := by
  by_cases h : v < nI 0
  · refine Or.inl ⟨h, ?_⟩
    have h : v < 0 := h
    rw [Int32.lt_iff_toInt_lt] at h
    unfold tN
    show v.toInt.toNat = 0
    have e0 : (0 : Int32).toInt = 0 := by decide
    omega
  · obtain ⟨k, hk, rfl⟩ := nI_of h
    exact Or.inr ⟨k, by omega, rfl, c_cl (by omega)⟩
theorem l_canBeV (pk : Nat → Nat) (K : KK d) (hO : OU i S d) (v : Int32) : (sHap d (tN v) = none ∧ M_X4_canBe pk S i v = some (nI 0)) ∨ ∃ d', sHap d (tN v) = some d' ∧ M_X4_canBe pk S i v = some (nI 1) := by
  rcases tN_c v with ⟨h, e⟩ | ⟨k, hk, rfl, e⟩
  · left
    rw [e]
    refine ⟨hap_lo (by decide), ?_⟩
    have h2 : v < nI 10000 := Int32.lt_trans h (by decide)
    unfold M_X4_canBe
    simp (disch := omega) only [reduceIte, li, lo, k_leT, k_leF, k_ltT, k_ltF, k_eqT, k_eqF, c_cl, c_sub, nI_add, pk_mul, zin_nI, zg_true, ob_some, zm_none, zm_some, if_true, if_false, Bool.false_eq_true, d_t, d_f, ob_eta, ob_eta1, m_ltn, m_nlt, m_nle, m_len, m_ne, m_ne', k_mltT, k_mltF, k_mleT, k_mleF, k_meqT, k_meqF, m_neg, h2]
  · rw [e]; exact l_canBe pk K hO hk
theorem r_hap (h : RR T d) (K : KK d) (v : Int32) : (sHap d (tN v) = none ∧ M_X12_happens T v = some (nI 0, T)) ∨ ∃ d' T', sHap d (tN v) = some d' ∧ M_X12_happens T v = some (nI 1, T') ∧ RR T' d' ∧ zFr (fun k => (4 ≤ k ∧ k ≤ 10) ∨ k = 16) T T' := by
  have hn6 := K.1
  rcases tN_c v with ⟨hv, e⟩ | ⟨k, hk, rfl, e⟩
  · left
    rw [e]
    refine ⟨hap_lo (by decide), ?_⟩
    have h2 : ¬ nI 10000 ≤ v := Int32.not_le.mpr (Int32.lt_trans hv (by decide))
    unfold M_X12_happens
    simp (disch := omega) only [reduceIte, li, lo, k_leT, k_leF, k_ltT, k_ltF, k_eqT, k_eqF, c_cl, c_sub, nI_add, pk_mul, zin_nI, zg_true, ob_some, zm_none, zm_some, if_true, if_false, Bool.false_eq_true, d_t, d_f, ob_eta, ob_eta1, m_ltn, m_nlt, m_nle, m_len, m_ne, m_ne', k_mltT, k_mltF, k_mleT, k_mleF, k_meqT, k_meqF, m_neg, h2]
  · rw [e]
    unfold M_X12_happens
    by_cases c1 : k < 10000
    · exact Or.inl ⟨hap_lo c1, by simp (disch := omega) only [reduceIte, li, lo, k_leT, k_leF, k_ltT, k_ltF, k_eqT, k_eqF, c_cl, c_sub, nI_add, pk_mul, zin_nI, zg_true, ob_some, zm_none, zm_some, if_true, if_false, Bool.false_eq_true, d_t, d_f, ob_eta, ob_eta1, m_ltn, m_nlt, m_nle, m_len, m_ne, m_ne', k_mltT, k_mltF, k_mleT, k_mleF, k_meqT, k_meqF, m_neg]⟩
    · by_cases c2 : 30000 ≤ k
      · by_cases c4 : k < 40000
        · have d3 : k / 10000 = 3 := by omega
          by_cases e1 : k - 30000 < dn d
          · have ip := r_perY h.1 (by omega) e1
            have k7 := (h.pe e1).ou
            have ko := (K.pe e1).o
            by_cases e2 : dou d (k - 30000) < 6
            · right
              refine ⟨_, zAs T 7 (k - 30000) (nI (dou d (k - 30000) + 1)), hap_die c2 e1 e2, ?_, h.die, zFr_As (by omega)⟩
              simp (disch := omega) only [reduceIte, li, lo, k_leT, k_leF, k_ltT, k_ltF, k_eqT, k_eqF, c_cl, c_sub, nI_add, pk_mul, zin_nI, zg_true, ob_some, zm_none, zm_some, if_true, if_false, Bool.false_eq_true, d_t, d_f, ob_eta, ob_eta1, m_ltn, m_nlt, m_nle, m_len, m_ne, m_ne', k_mltT, k_mltF, k_mleT, k_mleF, k_meqT, k_meqF, m_neg, k_div, d3, ip, k7]
            · exact Or.inl ⟨hap_dieN c2 (fun z => e2 z.2), by simp (disch := omega) only [reduceIte, li, lo, k_leT, k_leF, k_ltT, k_ltF, k_eqT, k_eqF, c_cl, c_sub, nI_add, pk_mul, zin_nI, zg_true, ob_some, zm_none, zm_some, if_true, if_false, Bool.false_eq_true, d_t, d_f, ob_eta, ob_eta1, m_ltn, m_nlt, m_nle, m_len, m_ne, m_ne', k_mltT, k_mltF, k_mleT, k_mleF, k_meqT, k_meqF, m_neg, k_div, d3, ip, k7]⟩
          · have ip := r_perN h.1 (by omega) (x := nI (k - 30000)) (Or.inr (nI_le (by omega) (by omega)))
            exact Or.inl ⟨hap_dieN c2 (fun z => e1 z.1), by simp (disch := omega) only [reduceIte, li, lo, k_leT, k_leF, k_ltT, k_ltF, k_eqT, k_eqF, c_cl, c_sub, nI_add, pk_mul, zin_nI, zg_true, ob_some, zm_none, zm_some, if_true, if_false, Bool.false_eq_true, d_t, d_f, ob_eta, ob_eta1, m_ltn, m_nlt, m_nle, m_len, m_ne, m_ne', k_mltT, k_mltF, k_mleT, k_mleF, k_meqT, k_meqF, m_neg, k_div, d3, ip]⟩
        · exact Or.inl ⟨hap_dieN c2 (fun z => by omega), by simp (disch := omega) only [reduceIte, li, lo, k_leT, k_leF, k_ltT, k_ltF, k_eqT, k_eqF, c_cl, c_sub, nI_add, pk_mul, zin_nI, zg_true, ob_some, zm_none, zm_some, if_true, if_false, Bool.false_eq_true, d_t, d_f, ob_eta, ob_eta1, m_ltn, m_nlt, m_nle, m_len, m_ne, m_ne', k_mltT, k_mltF, k_mleT, k_mleF, k_meqT, k_meqF, m_neg, k_div]⟩
      · have q1 : k / 1000 - k / 1000 / 10 * 10 = k / 1000 % 10 := by omega
        have q2 : k / 100 - k / 100 / 10 * 10 = k / 100 % 10 := by omega
        have q3 : k - k / 100 * 100 = k % 100 := by omega
        have b1 : k / 1000 % 10 < 10 := by omega
        have b2 : k / 100 % 10 < 10 := by omega
        have b3 : k % 100 < 100 := by omega
        generalize hP : k / 1000 % 10 = p at *
        generalize hM : k / 100 % 10 = m at *
        generalize hF : k % 100 = f at *
        by_cases c5 : k < 20000
        · have no := fun e => hap_prN (d := d) (by omega) c5 hP hM hF e
          have d1 : k / 10000 = 1 := by omega
          by_cases e1 : p < dn d
          · have ip := r_perY h.1 (by omega) e1
            have k7 := (h.pe e1).ou
            have ko := (K.pe e1).o
            have hp6 : p < 6 := by omega
            by_cases m8 : m < 8
            · by_cases f1 : 1 ≤ f
              · by_cases e2 : dou d p < 6
                · right
                  obtain ⟨T', r1, r2, r3⟩ := r_press h K (p := p) e1 m8 (nI f)
                  refine ⟨_, T', hap_pr (by omega) c5 hP hM hF e1 e2 m8 f1, ?_, r2, r3.mono (fun k z => by unfold zQ9 at z; omega)⟩
                  simp (disch := omega) only [reduceIte, li, lo, k_leT, k_leF, k_ltT, k_ltF, k_eqT, k_eqF, c_cl, c_sub, nI_add, pk_mul, zin_nI, zg_true, ob_some, zm_none, zm_some, if_true, if_false, Bool.false_eq_true, d_t, d_f, ob_eta, ob_eta1, m_ltn, m_nlt, m_nle, m_len, m_ne, m_ne', k_mltT, k_mltF, k_mleT, k_mleF, k_meqT, k_meqF, m_neg, k_div, d1, q1, q2, q3, ip, k7, M_X12_happens_B148, r1]
                · exact Or.inl ⟨no (fun z => e2 z.2.1), by simp (disch := omega) only [reduceIte, li, lo, k_leT, k_leF, k_ltT, k_ltF, k_eqT, k_eqF, c_cl, c_sub, nI_add, pk_mul, zin_nI, zg_true, ob_some, zm_none, zm_some, if_true, if_false, Bool.false_eq_true, d_t, d_f, ob_eta, ob_eta1, m_ltn, m_nlt, m_nle, m_len, m_ne, m_ne', k_mltT, k_mltF, k_mleT, k_mleF, k_meqT, k_meqF, m_neg, k_div, d1, q1, q2, q3, ip, k7]⟩
              · exact Or.inl ⟨no (fun z => f1 z.2.2.2), by simp (disch := omega) only [reduceIte, li, lo, k_leT, k_leF, k_ltT, k_ltF, k_eqT, k_eqF, c_cl, c_sub, nI_add, pk_mul, zin_nI, zg_true, ob_some, zm_none, zm_some, if_true, if_false, Bool.false_eq_true, d_t, d_f, ob_eta, ob_eta1, m_ltn, m_nlt, m_nle, m_len, m_ne, m_ne', k_mltT, k_mltF, k_mleT, k_mleF, k_meqT, k_meqF, m_neg, k_div, d1, q1, q2, q3, ip]⟩
            · exact Or.inl ⟨no (fun z => m8 z.2.2.1), by simp (disch := omega) only [reduceIte, li, lo, k_leT, k_leF, k_ltT, k_ltF, k_eqT, k_eqF, c_cl, c_sub, nI_add, pk_mul, zin_nI, zg_true, ob_some, zm_none, zm_some, if_true, if_false, Bool.false_eq_true, d_t, d_f, ob_eta, ob_eta1, m_ltn, m_nlt, m_nle, m_len, m_ne, m_ne', k_mltT, k_mltF, k_mleT, k_mleF, k_meqT, k_meqF, m_neg, k_div, d1, q1, q2, q3, ip]⟩
          · have ip := r_perN h.1 (by omega) (x := nI p) (Or.inr (nI_le (by omega) (by omega)))
            exact Or.inl ⟨no (fun z => e1 z.1), by simp (disch := omega) only [reduceIte, li, lo, k_leT, k_leF, k_ltT, k_ltF, k_eqT, k_eqF, c_cl, c_sub, nI_add, pk_mul, zin_nI, zg_true, ob_some, zm_none, zm_some, if_true, if_false, Bool.false_eq_true, d_t, d_f, ob_eta, ob_eta1, m_ltn, m_nlt, m_nle, m_len, m_ne, m_ne', k_mltT, k_mltF, k_mleT, k_mleF, k_meqT, k_meqF, m_neg, k_div, d1, q1, q2, q3, ip]⟩
        · have no := fun e => hap_ruN (d := d) (by omega) (by omega) hP hM hF e
          have d2 : k / 10000 = 2 := by omega
          by_cases e1 : p < dn d
          · have ip := r_perY h.1 (by omega) e1
            have k7 := (h.pe e1).ou
            have ko := (K.pe e1).o
            have hp6 : p < 6 := by omega
            by_cases m6 : m < 6
            · have il := r_lives (d := d) k7 hp6 ko m6
              by_cases mo : m < dou d p
              · rw [if_pos mo] at il
                exact Or.inl ⟨no (fun z => by omega), by simp (disch := omega) only [reduceIte, li, lo, k_leT, k_leF, k_ltT, k_ltF, k_eqT, k_eqF, c_cl, c_sub, nI_add, pk_mul, zin_nI, zg_true, ob_some, zm_none, zm_some, if_true, if_false, Bool.false_eq_true, d_t, d_f, ob_eta, ob_eta1, m_ltn, m_nlt, m_nle, m_len, m_ne, m_ne', k_mltT, k_mltF, k_mleT, k_mleF, k_meqT, k_meqF, m_neg, k_div, d2, q1, q2, q3, ip, il]⟩
              · rw [if_neg mo] at il
                by_cases f8 : f < 8
                · right
                  obtain ⟨T', r1, r2, r3⟩ := r_rub h hn6 (p := p) e1 m6 f8
                  refine ⟨_, T', hap_ru (by omega) (by omega) hP hM hF e1 (by omega) m6 (by omega) f8, ?_, r2, r3.mono (fun k z => by omega)⟩
                  simp (disch := omega) only [reduceIte, li, lo, k_leT, k_leF, k_ltT, k_ltF, k_eqT, k_eqF, c_cl, c_sub, nI_add, pk_mul, zin_nI, zg_true, ob_some, zm_none, zm_some, if_true, if_false, Bool.false_eq_true, d_t, d_f, ob_eta, ob_eta1, m_ltn, m_nlt, m_nle, m_len, m_ne, m_ne', k_mltT, k_mltF, k_mleT, k_mleF, k_meqT, k_meqF, m_neg, k_div, d2, q1, q2, q3, ip, il, M_X12_happens_B148, r1]
                · exact Or.inl ⟨no (fun z => f8 z.2.2.2.2), by simp (disch := omega) only [reduceIte, li, lo, k_leT, k_leF, k_ltT, k_ltF, k_eqT, k_eqF, c_cl, c_sub, nI_add, pk_mul, zin_nI, zg_true, ob_some, zm_none, zm_some, if_true, if_false, Bool.false_eq_true, d_t, d_f, ob_eta, ob_eta1, m_ltn, m_nlt, m_nle, m_len, m_ne, m_ne', k_mltT, k_mltF, k_mleT, k_mleF, k_meqT, k_meqF, m_neg, k_div, d2, q1, q2, q3, ip, il]⟩
            · have il := r_livesN (T := T) (r_isCopyN (T := T) (x := nI m) (Or.inr (nI_lt (by omega) (by omega)))) (nI p)
              exact Or.inl ⟨no (fun z => m6 z.2.2.1), by simp (disch := omega) only [reduceIte, li, lo, k_leT, k_leF, k_ltT, k_ltF, k_eqT, k_eqF, c_cl, c_sub, nI_add, pk_mul, zin_nI, zg_true, ob_some, zm_none, zm_some, if_true, if_false, Bool.false_eq_true, d_t, d_f, ob_eta, ob_eta1, m_ltn, m_nlt, m_nle, m_len, m_ne, m_ne', k_mltT, k_mltF, k_mleT, k_mleF, k_meqT, k_meqF, m_neg, k_div, d2, q1, q2, q3, ip, il]⟩
          · have ip := r_perN h.1 (by omega) (x := nI p) (Or.inr (nI_le (by omega) (by omega)))
            exact Or.inl ⟨no (fun z => e1 z.1), by simp (disch := omega) only [reduceIte, li, lo, k_leT, k_leF, k_ltT, k_ltF, k_eqT, k_eqF, c_cl, c_sub, nI_add, pk_mul, zin_nI, zg_true, ob_some, zm_none, zm_some, if_true, if_false, Bool.false_eq_true, d_t, d_f, ob_eta, ob_eta1, m_ltn, m_nlt, m_nle, m_len, m_ne, m_ne', k_mltT, k_mltF, k_mleT, k_mleF, k_meqT, k_meqF, m_neg, k_div, d2, q1, q2, q3, ip]⟩
/-- what a shelf's row tells -/
def wv (S : zSt) (s i : Nat) : Nat := tN (Int64.toInt32 (zlo S 3 (160 * s + i)))
def oI (o : Option Nat) : Int32 := match o with
  | none => -nI 1
  | some i => nI i
theorem r_happen (w : Nat → Nat) {s m : Nat} (hs : s < 8) (hm : m ≤ 160) : ∀ (r i n : Nat) (T : zSt) (d : zD), i + r = m → r < n → RR T d → KK d → (∀ j, j < 160 → wv T s j = w j) → ∃ T', M_X12_happen_B2 n T (nI s) (nI m) (nI i) = some (oI (sLf w i r d).1, T') ∧ RR T' (sLf w i r d).2 ∧ zFr (fun k => (4 ≤ k ∧ k ≤ 10) ∨ k = 16) T T' := by
  intro r
  induction r with
  | zero =>
    intro i n T d h1 h2 hR K hw
    obtain ⟨n, rfl⟩ : ∃ k, n = k + 1 := ⟨n - 1, by omega⟩
    obtain rfl : i = m := by omega
    refine ⟨T, ?_, hR, zFr.rf⟩
    rw [M_X12_happen_B2]
    simp (disch := omega) only [reduceIte, li, lo, k_leT, k_leF, k_ltT, k_ltF, k_eqT, k_eqF, c_cl, c_sub, nI_add, pk_mul, zin_nI, zg_true, ob_some, zm_none, zm_some, if_true, if_false, Bool.false_eq_true, d_t, d_f, ob_eta, ob_eta1, m_ltn, m_nlt, m_nle, m_len, m_ne, m_ne', k_mltT, k_mltF, k_mleT, k_mleF, k_meqT, k_meqF, m_neg]
    rfl
  | succ r ih =>
    intro i n T d h1 h2 hR K hw
    obtain ⟨n, rfl⟩ : ∃ k, n = k + 1 := ⟨n - 1, by omega⟩
    have ta : M_X12_toldAt T (nI s) (nI i) = some (Int64.toInt32 (zlo T 3 (160 * s + i))) := by unfold M_X12_toldAt; simp (disch := omega) only [reduceIte, li, lo, k_leT, k_leF, k_ltT, k_ltF, k_eqT, k_eqF, c_cl, c_sub, nI_add, pk_mul, zin_nI, zg_true, ob_some, zm_none, zm_some, if_true, if_false, Bool.false_eq_true, d_t, d_f, ob_eta, ob_eta1, m_ltn, m_nlt, m_nle, m_len, m_ne, m_ne', k_mltT, k_mltF, k_mleT, k_mleF, k_meqT, k_meqF, m_neg]
    have hi := hw i (by omega)
    unfold wv at hi
    rcases r_hap hR K (Int64.toInt32 (zlo T 3 (160 * s + i))) with ⟨e1, e2⟩ | ⟨d', T1, e1, e2, r1, f1⟩
    · rw [hi] at e1
      refine ⟨T, ?_, ?_, zFr.rf⟩
      · rw [M_X12_happen_B2]
        unfold sLf
        rw [e1]
        simp (disch := omega) only [↓ob_some, ↓zm_some, ↓zm_none, ↓zg_true, ↓zg_in, ↓(ob_of ta), ↓(ob_of e2), reduceIte, li, lo, k_leT, k_leF, k_ltT, k_ltF, k_eqT, k_eqF, c_cl, c_sub, nI_add, pk_mul, zin_nI, zg_true, ob_some, zm_none, zm_some, if_true, if_false, Bool.false_eq_true, d_t, d_f, ob_eta, ob_eta1, m_ltn, m_nlt, m_nle, m_len, m_ne, m_ne', k_mltT, k_mltF, k_mleT, k_mleF, k_meqT, k_meqF, m_neg]
        rfl
      · unfold sLf
        rw [e1]
        exact hR
    · rw [hi] at e1
      obtain ⟨T2, e3, r2, f2⟩ := ih (i + 1) n T1 d' (by omega) (by omega) r1 (hap_kk K e1).1 (fun j hj => by rw [← hw j hj]; unfold wv; rw [f1.lo (by omega)])
      refine ⟨T2, ?_, ?_, f1.trans f2⟩
      · rw [M_X12_happen_B2]
        unfold sLf
        rw [e1]
        simp (disch := omega) only [↓ob_some, ↓zm_some, ↓zm_none, ↓zg_true, ↓zg_in, ↓(ob_of ta), ↓(ob_of e2), reduceIte, li, lo, k_leT, k_leF, k_ltT, k_ltF, k_eqT, k_eqF, c_cl, c_sub, nI_add, pk_mul, zin_nI, zg_true, ob_some, zm_none, zm_some, if_true, if_false, Bool.false_eq_true, d_t, d_f, ob_eta, ob_eta1, m_ltn, m_nlt, m_nle, m_len, m_ne, m_ne', k_mltT, k_mltF, k_mleT, k_mleF, k_meqT, k_meqF, m_neg]
        exact e3
      · unfold sLf
        rw [e1]
        exact r2
/-- the row of shelf s, as the class reads it -/
def rowOk (pk : Nat → Nat) (S : zSt) (s m : Nat) (w : Nat → Nat) : Prop := ∀ S', zsc S' (40 + 2 * s) = zsc S (40 + 2 * s) → zlo S' (40 + 2 * s + 1) = zlo S (40 + 2 * s + 1) → ∀ j, j < m → ∃ v, M_X7_intAt pk S' s (nI j) = some v ∧ tN v = w j
theorem row_ok {m t : Nat} (hm : m ≤ 160) (ht : t < 4) (e1 : zsc S (40 + 2 * s) 1 = nI (100 + t)) (e2 : zsc S (40 + 2 * s) 2 = nI m) (e3 : ∀ j, j < 160 → zlo S (40 + 2 * s + 1) j = zlo S 3 (160 * s + j)) : rowOk pk S s m (wv S s) := by
  intro S' q1 q2 j hj
  have e4 : zsc S' (40 + 2 * s) 1 = nI (100 + t) := by rw [q1]; exact e1
  have e5 : zsc S' (40 + 2 * s) 2 = nI m := by rw [q1]; exact e2
  refine ⟨Int64.toInt32 (zlo S 3 (160 * s + j)), ?_, rfl⟩
  have e6 : zlo S' (40 + 2 * s + 1) j = zlo S 3 (160 * s + j) := by rw [q2]; exact e3 j (by omega)
  unfold M_X7_intAt M_X7_elementAt M_X7_hasElement M_X7_hasRow
  simp (disch := omega) only [reduceIte, li, lo, k_leT, k_leF, k_ltT, k_ltF, k_eqT, k_eqF, c_cl, c_sub, nI_add, pk_mul, zin_nI, zg_true, ob_some, zm_none, zm_some, if_true, if_false, Bool.false_eq_true, d_t, d_f, ob_eta, ob_eta1, m_ltn, m_nlt, m_nle, m_len, m_ne, m_ne', k_mltT, k_mltF, k_mleT, k_mleF, k_meqT, k_meqF, m_neg, e4, e5, e6]
end LIF
