/-! MORE CALLS ABOUT ONE PERSON; presses, rubs, dyings in truth; what is told of all -/
theorem cR (x : Int32) (a b : Nat) (hab : a ≤ b) (hb : b < 1000) : (x < nI a) ∨ (¬ x < nI a ∧ nI b < x ∧ ¬ x ≤ nI b) ∨ ∃ j, a ≤ j ∧ j ≤ b ∧ x = nI j := by
  by_cases h1 : x < nI a
  · exact Or.inl h1
  · by_cases h2 : nI b < x
    · exact Or.inr (Or.inl ⟨h1, h2, Int32.not_le.mpr h2⟩)
    · refine Or.inr (Or.inr ?_)
      have h0 : ¬ x < nI 0 := fun q => h1 (Int32.lt_of_lt_of_le q (nI_le (Nat.zero_le _) (by omega)))
      rcases pk_ix x (n := b + 1) (by omega) with q | q | ⟨j, hj, rfl⟩
      · exact absurd q h0
      · exact absurd (Int32.lt_of_lt_of_le (nI_lt (Nat.lt_succ_self b) (by omega)) q) h2
      · rw [c_lt (by omega) (by omega)] at h1
        exact ⟨j, by omega, by omega, rfl⟩
def zUp (k : Nat) : Prop := zZ 0 k ∨ k = 60 ∨ k = 0 ∨ (4 ≤ k ∧ k ≤ 10) ∨ zIr k
section STEP2
variable {P : Nat → Prop} {pk : Nat → Nat} {S S1 S2 T : zSt} {i n p x c : Nat} {d d' : zD}
theorem Inv.up (h : Inv pk S d) (f : zFr P S S2) (hP : ∀ k, P k → zUp k) (h15 : zsc S2 0 15 = zsc S 0 15) (h17 : zsc S2 0 17 = zsc S 0 17) (h20 : zsc S2 0 20 = zsc S 0 20) (K' : KK d') (hn : dn d' = dn d) (L' : LL 0 pk S2 d') (R' : RR S2 d') (P' : PK pk S2) : Inv pk S2 d' := by
  have hq : ∀ k, ¬ zUp k → ¬ P k := fun k q r => q (hP k r)
  unfold zUp zIr zZ at hq
  refine ⟨K', L', R', P', ?_, h.tr.fr f h17 (hq _ (by omega)) (hq _ (by omega)) (hq _ (by omega)), h.rf.fr f (hq _ (by omega)) (hq _ (by omega)), ?_, h.im.fr f h20 (by rw [f.sc (hq _ (by omega))]) (hq _ (by omega)) (hq _ (by omega)) (fun k a b => hq _ (by omega))⟩
  · rw [hn]
    exact h.sh.fr f (hq _ (by omega)) (hq _ (by omega)) (hq _ (by omega)) (fun k a b => hq _ (by omega))
  · rw [f.sc (hq 20 (by omega)), h15]
    exact h.fa
/-- a change of persons: first the class', then the reference's -/
theorem Inv.up2 (h : Inv pk S d) {P2 : Nat → Prop} (f1 : zFr (zZ 0) S S1) (f2 : zFr P2 S1 S2) (hP : ∀ k, P2 k → (4 ≤ k ∧ k ≤ 10) ∨ k = 16) (K' : KK d') (hn : dn d' = dn d) (L' : LL 0 pk S1 d') (R' : RR S2 d') (P' : PK pk S1) : Inv pk S2 d' := by
  have hq : ∀ k, ¬ ((4 ≤ k ∧ k ≤ 10) ∨ k = 16) → ¬ P2 k := fun k q r => q (hP k r)
  have f : zFr zUp S S2 := (f1.mono (fun k q => Or.inl q)).trans (f2.mono (fun k q => by have := hP k q; unfold zIr; omega))
  have c0 : zsc S2 0 = zsc S 0 := (f2.sc (hq 0 (by omega))).trans (f1.sc (by unfold zZ; omega))
  exact h.up f (fun k q => q) (by rw [c0]) (by rw [c0]) (by rw [c0]) K' hn (L'.fr K'.1 f2 (hq _ (by omega)) (fun k a b => hq _ (by omega))) R' (P'.fr f2 (fun q _ => hq _ (by omega)))
theorem f100 (T : zSt) (h : RR S d) (f : zFr (zZ 0) S T) : RR T d := h.fr0 f (fun k a => by unfold zZ; omega)
theorem s_got (h : Inv pk S d) (x1 x2 x3 : Int32) : zStp pk (M_X11_got pk S x1 x2 x3) (fun T => M_X12_got T x1 x2 x3) := by
  unfold M_X11_got M_X12_got M_X11_got_B41 M_X12_got_B33
  rcases cPer h x1 with ⟨a1, b1, -⟩ | ⟨p, hp, rfl, a1, b1, h6, ok⟩
  · exact st_no h 1 (by decide) (by decide) (by simp (disch := omega) only [li, lo, c_le, c_lt, c_eq, c_cl, c_sub, nI_add, pk_mul, zin_nI, zg_true, ob_some, zm_none, zm_some, if_pos, if_neg, if_true, if_false, Bool.false_eq_true, d_t, d_f, ob_eta, ob_eta1, m_ltn, m_nlt, m_nle, m_len, m_ne, m_ne', m_mlt, m_mle, m_meq, m_neg, a1]) (by simp (disch := omega) only [li, lo, c_le, c_lt, c_eq, c_cl, c_sub, nI_add, pk_mul, zin_nI, zg_true, ob_some, zm_none, zm_some, if_pos, if_neg, if_true, if_false, Bool.false_eq_true, d_t, d_f, ob_eta, ob_eta1, m_ltn, m_nlt, m_nle, m_len, m_ne, m_ne', m_mlt, m_mle, m_meq, m_neg, b1 (zR1 S 1) rfl])
  · have hl := h.l.pe hp
    have hr := h.r.pe hp
    have kp := h.k.pe hp
    have ho := kp.o
    have hr6 : zar (zR1 S 6) 7 p = nI (dou d p) := by rw [r1_a (by decide)]; exact hr.ou
    rcases cCopy x2 with ⟨a2, b2, -⟩ | ⟨c, hc, rfl⟩
    · exact st_no h 6 (by decide) (by decide) (by simp (disch := omega) only [li, lo, c_le, c_lt, c_eq, c_cl, c_sub, nI_add, pk_mul, zin_nI, zg_true, ob_some, zm_none, zm_some, if_pos, if_neg, if_true, if_false, Bool.false_eq_true, d_t, d_f, ob_eta, ob_eta1, m_ltn, m_nlt, m_nle, m_len, m_ne, m_ne', m_mlt, m_mle, m_meq, m_neg, a1, ok, l_isLeftN hl ho (a2 pk S)]) (by simp (disch := omega) only [li, lo, c_le, c_lt, c_eq, c_cl, c_sub, nI_add, pk_mul, zin_nI, zg_true, ob_some, zm_none, zm_some, if_pos, if_neg, if_true, if_false, Bool.false_eq_true, d_t, d_f, ob_eta, ob_eta1, m_ltn, m_nlt, m_nle, m_len, m_ne, m_ne', m_mlt, m_mle, m_meq, m_neg, b1 (zR1 S 6) rfl, r_livesN (b2 (zR1 S 6))])
    · by_cases e : c < dou d p
      · exact st_no h 6 (by decide) (by decide) (by simp (disch := omega) only [li, lo, c_le, c_lt, c_eq, c_cl, c_sub, nI_add, pk_mul, zin_nI, zg_true, ob_some, zm_none, zm_some, if_pos, if_neg, if_true, if_false, Bool.false_eq_true, d_t, d_f, ob_eta, ob_eta1, m_ltn, m_nlt, m_nle, m_len, m_ne, m_ne', m_mlt, m_mle, m_meq, m_neg, a1, ok, l_isLeft hl ho hc]) (by simp (disch := omega) only [li, lo, c_le, c_lt, c_eq, c_cl, c_sub, nI_add, pk_mul, zin_nI, zg_true, ob_some, zm_none, zm_some, if_pos, if_neg, if_true, if_false, Bool.false_eq_true, d_t, d_f, ob_eta, ob_eta1, m_ltn, m_nlt, m_nle, m_len, m_ne, m_ne', m_mlt, m_mle, m_meq, m_neg, b1 (zR1 S 6) rfl, r_lives hr6 h6 ho hc])
      · rcases cR x3 1 99 (by decide) (by decide) with q | ⟨q1, q2, q3⟩ | ⟨j, j1, j2, rfl⟩
        · exact st_no h 6 (by decide) (by decide) (by simp (disch := omega) only [li, lo, c_le, c_lt, c_eq, c_cl, c_sub, nI_add, pk_mul, zin_nI, zg_true, ob_some, zm_none, zm_some, if_pos, if_neg, if_true, if_false, Bool.false_eq_true, d_t, d_f, ob_eta, ob_eta1, m_ltn, m_nlt, m_nle, m_len, m_ne, m_ne', m_mlt, m_mle, m_meq, m_neg, a1, ok, l_isLeft hl ho hc, q]) (by simp (disch := omega) only [li, lo, c_le, c_lt, c_eq, c_cl, c_sub, nI_add, pk_mul, zin_nI, zg_true, ob_some, zm_none, zm_some, if_pos, if_neg, if_true, if_false, Bool.false_eq_true, d_t, d_f, ob_eta, ob_eta1, m_ltn, m_nlt, m_nle, m_len, m_ne, m_ne', m_mlt, m_mle, m_meq, m_neg, b1 (zR1 S 6) rfl, r_lives hr6 h6 ho hc, w_lo (zR1 S 6) q])
        · exact st_no h 6 (by decide) (by decide) (by simp (disch := omega) only [li, lo, c_le, c_lt, c_eq, c_cl, c_sub, nI_add, pk_mul, zin_nI, zg_true, ob_some, zm_none, zm_some, if_pos, if_neg, if_true, if_false, Bool.false_eq_true, d_t, d_f, ob_eta, ob_eta1, m_ltn, m_nlt, m_nle, m_len, m_ne, m_ne', m_mlt, m_mle, m_meq, m_neg, a1, ok, l_isLeft hl ho hc, q1, q3]) (by simp (disch := omega) only [li, lo, c_le, c_lt, c_eq, c_cl, c_sub, nI_add, pk_mul, zin_nI, zg_true, ob_some, zm_none, zm_some, if_pos, if_neg, if_true, if_false, Bool.false_eq_true, d_t, d_f, ob_eta, ob_eta1, m_ltn, m_nlt, m_nle, m_len, m_ne, m_ne', m_mlt, m_mle, m_meq, m_neg, b1 (zR1 S 6) rfl, r_lives hr6 h6 ho hc, w_hi (zR1 S 6) q2])
        · obtain ⟨T', e1, f1, g1⟩ := r_gives hr kp h6 (nI j)
          refine ⟨dGot d p (nI j) (c - dou d p), S, T', ?_, ?_, d, h.mv0 f1 (fun k q => by unfold zIr; omega)⟩
          · simp (disch := omega) only [li, lo, c_le, c_lt, c_eq, c_cl, c_sub, nI_add, pk_mul, zin_nI, zg_true, ob_some, zm_none, zm_some, if_pos, if_neg, if_true, if_false, Bool.false_eq_true, d_t, d_f, ob_eta, ob_eta1, m_ltn, m_nlt, m_nle, m_len, m_ne, m_ne', m_mlt, m_mle, m_meq, m_neg, a1, ok, l_isLeft hl ho hc, l_gotBy hl kp hc (show dou d p ≤ c by omega)]
          · have g2 := g1 c hc
            rw [if_neg e] at g2
            simp (disch := omega) only [li, lo, c_le, c_lt, c_eq, c_cl, c_sub, nI_add, pk_mul, zin_nI, zg_true, ob_some, zm_none, zm_some, if_pos, if_neg, if_true, if_false, Bool.false_eq_true, d_t, d_f, ob_eta, ob_eta1, m_ltn, m_nlt, m_nle, m_len, m_ne, m_ne', m_mlt, m_mle, m_meq, m_neg, b1 S rfl, r_lives hr.ou h6 ho hc, w_n (a := 1) (b := 99) S j1 j2 (by decide), e1, g2]
def sMendA (d : zD) (p : Nat) (le : Int32) : Int32 := sFo (fun acc x => acc + sMend d p le x) 0 8 0
theorem s_mend (h : Inv pk S d) (x1 x2 : Int32) : zStp pk (M_X11_mend pk S x1 x2) (fun T => M_X12_mend T x1 x2) := by
  unfold M_X11_mend M_X12_mend
  rcases cPer h x1 with ⟨a1, b1, -⟩ | ⟨p, hp, rfl, a1, b1, h6, ok⟩
  · exact st_no h 1 (by decide) (by decide) (by simp (disch := omega) only [li, lo, c_le, c_lt, c_eq, c_cl, c_sub, nI_add, pk_mul, zin_nI, zg_true, ob_some, zm_none, zm_some, if_pos, if_neg, if_true, if_false, Bool.false_eq_true, d_t, d_f, ob_eta, ob_eta1, m_ltn, m_nlt, m_nle, m_len, m_ne, m_ne', m_mlt, m_mle, m_meq, m_neg, a1]) (by simp (disch := omega) only [li, lo, c_le, c_lt, c_eq, c_cl, c_sub, nI_add, pk_mul, zin_nI, zg_true, ob_some, zm_none, zm_some, if_pos, if_neg, if_true, if_false, Bool.false_eq_true, d_t, d_f, ob_eta, ob_eta1, m_ltn, m_nlt, m_nle, m_len, m_ne, m_ne', m_mlt, m_mle, m_meq, m_neg, b1 (zR1 S 1) rfl])
  · have hl := h.l.pe hp
    have hr := h.r.pe hp
    have kp := h.k.pe hp
    rcases cDeed x2 with ⟨a2, b2, q⟩ | ⟨c, hc, rfl⟩
    · by_cases e : x2 = -nI 1
      · subst e
        have w : M_X12_within S (-nI 1) (-nI 1) (nI 7) = some (nI 1) := w_in S (Int32.lt_irrefl) (by decide)
        have l1 : M_X11_mend_B30 pk zF S (some (6 * 0 + p)) (nI 0) (nI 0) = some (sMendA d p (dle d), S) := by
          unfold sMendA
          refine lp (fun n acc i => M_X11_mend_B30 pk n S (some (6 * 0 + p)) acc i) (fun acc x => acc + sMend d p (dle d) x) (fun a => (a, S)) 8 (fun n acc => ?_) (fun n acc i hi => ?_) 8 0 zF (nI 0) rfl (by decide)
          · simp (disch := omega) only [li, lo, c_le, c_lt, c_eq, c_cl, c_sub, nI_add, pk_mul, zin_nI, zg_true, ob_some, zm_none, zm_some, if_pos, if_neg, if_true, if_false, Bool.false_eq_true, d_t, d_f, ob_eta, ob_eta1, m_ltn, m_nlt, m_nle, m_len, m_ne, m_ne', m_mlt, m_mle, m_meq, m_neg, M_X11_mend_B30, ok]
          · simp (disch := omega) only [li, lo, c_le, c_lt, c_eq, c_cl, c_sub, nI_add, pk_mul, zin_nI, zg_true, ob_some, zm_none, zm_some, if_pos, if_neg, if_true, if_false, Bool.false_eq_true, d_t, d_f, ob_eta, ob_eta1, m_ltn, m_nlt, m_nle, m_len, m_ne, m_ne', m_mlt, m_mle, m_meq, m_neg, M_X11_mend_B30, ok, l_rubsToMend hl kp hi, h.le1]
        have l2 : M_X12_mend_B48 zF S (nI p) (nI 0) (nI 0) = some (sMendA d p (dle d), S) := by
          unfold sMendA
          refine lp (fun n acc i => M_X12_mend_B48 n S (nI p) acc i) (fun acc x => acc + sMend d p (dle d) x) (fun a => (a, S)) 8 (fun n acc => ?_) (fun n acc i hi => ?_) 8 0 zF (nI 0) rfl (by decide)
          · simp (disch := omega) only [li, lo, c_le, c_lt, c_eq, c_cl, c_sub, nI_add, pk_mul, zin_nI, zg_true, ob_some, zm_none, zm_some, if_pos, if_neg, if_true, if_false, Bool.false_eq_true, d_t, d_f, ob_eta, ob_eta1, m_ltn, m_nlt, m_nle, m_len, m_ne, m_ne', m_mlt, m_mle, m_meq, m_neg, M_X12_mend_B48]
          · simp (disch := omega) only [li, lo, c_le, c_lt, c_eq, c_cl, c_sub, nI_add, pk_mul, zin_nI, zg_true, ob_some, zm_none, zm_some, if_pos, if_neg, if_true, if_false, Bool.false_eq_true, d_t, d_f, ob_eta, ob_eta1, m_ltn, m_nlt, m_nle, m_len, m_ne, m_ne', m_mlt, m_mle, m_meq, m_neg, M_X12_mend_B48, r_mends hr kp h6 hi, h.le2]
        exact st_eq h (sMendA d p (dle d)) (by simp (disch := omega) only [li, lo, c_le, c_lt, c_eq, c_cl, c_sub, nI_add, pk_mul, zin_nI, zg_true, ob_some, zm_none, zm_some, if_pos, if_neg, if_true, if_false, Bool.false_eq_true, d_t, d_f, ob_eta, ob_eta1, m_ltn, m_nlt, m_nle, m_len, m_ne, m_ne', m_mlt, m_mle, m_meq, m_neg, a1, ok, l1]) (by simp (disch := omega) only [li, lo, c_le, c_lt, c_eq, c_cl, c_sub, nI_add, pk_mul, zin_nI, zg_true, ob_some, zm_none, zm_some, if_pos, if_neg, if_true, if_false, Bool.false_eq_true, d_t, d_f, ob_eta, ob_eta1, m_ltn, m_nlt, m_nle, m_len, m_ne, m_ne', m_mlt, m_mle, m_meq, m_neg, b1 S rfl, w, l2])
      · have w : M_X12_within (zR1 S 6) x2 (-nI 1) (nI 7) = some (nI 0) := by
          rcases q with q | q
          · apply w_lo
            rw [Int32.lt_iff_toInt_lt] at q ⊢
            have e2 : x2.toInt ≠ (-nI 1).toInt := fun z => e (Int32.toInt_inj.mp z)
            have e3 : (-nI 1).toInt = -1 := by decide
            have e4 : (nI 0).toInt = 0 := by decide
            omega
          · exact w_hi _ (Int32.lt_of_lt_of_le (show nI 7 < nI 8 by decide) q)
        exact st_no h 6 (by decide) (by decide) (by simp (disch := omega) only [li, lo, c_le, c_lt, c_eq, c_cl, c_sub, nI_add, pk_mul, zin_nI, zg_true, ob_some, zm_none, zm_some, if_pos, if_neg, if_true, if_false, Bool.false_eq_true, d_t, d_f, ob_eta, ob_eta1, m_ltn, m_nlt, m_nle, m_len, m_ne, m_ne', m_mlt, m_mle, m_meq, m_neg, a1, ok, e, a2]) (by simp (disch := omega) only [li, lo, c_le, c_lt, c_eq, c_cl, c_sub, nI_add, pk_mul, zin_nI, zg_true, ob_some, zm_none, zm_some, if_pos, if_neg, if_true, if_false, Bool.false_eq_true, d_t, d_f, ob_eta, ob_eta1, m_ltn, m_nlt, m_nle, m_len, m_ne, m_ne', m_mlt, m_mle, m_meq, m_neg, b1 (zR1 S 6) rfl, w])
    · have w : M_X12_within S (nI c) (-nI 1) (nI 7) = some (nI 1) := w_in S (by rw [m_nlt (by decide) (by omega)]; exact id) (by rw [c_lt (by decide) (by omega)]; omega)
      exact st_eq h (sMend d p (dle d) c) (by simp (disch := omega) only [li, lo, c_le, c_lt, c_eq, c_cl, c_sub, nI_add, pk_mul, zin_nI, zg_true, ob_some, zm_none, zm_some, if_pos, if_neg, if_true, if_false, Bool.false_eq_true, d_t, d_f, ob_eta, ob_eta1, m_ltn, m_nlt, m_nle, m_len, m_ne, m_ne', m_mlt, m_mle, m_meq, m_neg, a1, ok, t_isDeed pk S hc, l_rubsToMend hl kp hc, h.le1]) (by simp (disch := omega) only [li, lo, c_le, c_lt, c_eq, c_cl, c_sub, nI_add, pk_mul, zin_nI, zg_true, ob_some, zm_none, zm_some, if_pos, if_neg, if_true, if_false, Bool.false_eq_true, d_t, d_f, ob_eta, ob_eta1, m_ltn, m_nlt, m_nle, m_len, m_ne, m_ne', m_mlt, m_mle, m_meq, m_neg, b1 S rfl, w, r_mends hr kp h6 hc, h.le2])
theorem s_press (h : Inv pk S d) (x1 x2 x3 : Int32) : zStp pk (M_X11_press pk S x1 x2 x3) (fun T => M_X12_press T x1 x2 x3) := by
  unfold M_X11_press M_X12_press M_X11_press_B47 M_X12_press_B52
  rcases cPer h x1 with ⟨a1, b1, -⟩ | ⟨p, hp, rfl, a1, b1, h6, ok⟩
  · exact st_no h 1 (by decide) (by decide) (by simp (disch := omega) only [li, lo, c_le, c_lt, c_eq, c_cl, c_sub, nI_add, pk_mul, zin_nI, zg_true, ob_some, zm_none, zm_some, if_pos, if_neg, if_true, if_false, Bool.false_eq_true, d_t, d_f, ob_eta, ob_eta1, m_ltn, m_nlt, m_nle, m_len, m_ne, m_ne', m_mlt, m_mle, m_meq, m_neg, a1]) (by simp (disch := omega) only [li, lo, c_le, c_lt, c_eq, c_cl, c_sub, nI_add, pk_mul, zin_nI, zg_true, ob_some, zm_none, zm_some, if_pos, if_neg, if_true, if_false, Bool.false_eq_true, d_t, d_f, ob_eta, ob_eta1, m_ltn, m_nlt, m_nle, m_len, m_ne, m_ne', m_mlt, m_mle, m_meq, m_neg, b1 (zR1 S 1) rfl])
  · have hl := h.l.pe hp
    have hr := h.r.pe hp
    have kp := h.k.pe hp
    have ho := kp.o
    have hr6 : zar (zR1 S 6) 7 p = nI (dou d p) := by rw [r1_a (by decide)]; exact hr.ou
    rcases cDeed x2 with ⟨a2, b2, -⟩ | ⟨c, hc, rfl⟩
    · exact st_no h 6 (by decide) (by decide) (by simp (disch := omega) only [li, lo, c_le, c_lt, c_eq, c_cl, c_sub, nI_add, pk_mul, zin_nI, zg_true, ob_some, zm_none, zm_some, if_pos, if_neg, if_true, if_false, Bool.false_eq_true, d_t, d_f, ob_eta, ob_eta1, m_ltn, m_nlt, m_nle, m_len, m_ne, m_ne', m_mlt, m_mle, m_meq, m_neg, a1, ok, a2]) (by simp (disch := omega) only [li, lo, c_le, c_lt, c_eq, c_cl, c_sub, nI_add, pk_mul, zin_nI, zg_true, ob_some, zm_none, zm_some, if_pos, if_neg, if_true, if_false, Bool.false_eq_true, d_t, d_f, ob_eta, ob_eta1, m_ltn, m_nlt, m_nle, m_len, m_ne, m_ne', m_mlt, m_mle, m_meq, m_neg, b1 (zR1 S 6) rfl, b2])
    · rcases cR x3 1 99 (by decide) (by decide) with q | ⟨q1, q2, q3⟩ | ⟨j, j1, j2, rfl⟩
      · exact st_no h 6 (by decide) (by decide) (by simp (disch := omega) only [li, lo, c_le, c_lt, c_eq, c_cl, c_sub, nI_add, pk_mul, zin_nI, zg_true, ob_some, zm_none, zm_some, if_pos, if_neg, if_true, if_false, Bool.false_eq_true, d_t, d_f, ob_eta, ob_eta1, m_ltn, m_nlt, m_nle, m_len, m_ne, m_ne', m_mlt, m_mle, m_meq, m_neg, a1, ok, t_isDeed pk S hc, q]) (by simp (disch := omega) only [li, lo, c_le, c_lt, c_eq, c_cl, c_sub, nI_add, pk_mul, zin_nI, zg_true, ob_some, zm_none, zm_some, if_pos, if_neg, if_true, if_false, Bool.false_eq_true, d_t, d_f, ob_eta, ob_eta1, m_ltn, m_nlt, m_nle, m_len, m_ne, m_ne', m_mlt, m_mle, m_meq, m_neg, b1 (zR1 S 6) rfl, r_isDeedY hc, w_lo (zR1 S 6) q])
      · exact st_no h 6 (by decide) (by decide) (by simp (disch := omega) only [li, lo, c_le, c_lt, c_eq, c_cl, c_sub, nI_add, pk_mul, zin_nI, zg_true, ob_some, zm_none, zm_some, if_pos, if_neg, if_true, if_false, Bool.false_eq_true, d_t, d_f, ob_eta, ob_eta1, m_ltn, m_nlt, m_nle, m_len, m_ne, m_ne', m_mlt, m_mle, m_meq, m_neg, a1, ok, t_isDeed pk S hc, q1, q2]) (by simp (disch := omega) only [li, lo, c_le, c_lt, c_eq, c_cl, c_sub, nI_add, pk_mul, zin_nI, zg_true, ob_some, zm_none, zm_some, if_pos, if_neg, if_true, if_false, Bool.false_eq_true, d_t, d_f, ob_eta, ob_eta1, m_ltn, m_nlt, m_nle, m_len, m_ne, m_ne', m_mlt, m_mle, m_meq, m_neg, b1 (zR1 S 6) rfl, r_isDeedY hc, w_hi (zR1 S 6) q2])
      · by_cases e : dou d p < 6
        · obtain ⟨S', e1, L', f1, P'⟩ := l_press h.l h.k h.pe hp hc (not_lt0 (k := j) (by omega))
          have hR1 := f100 S' h.r f1
          obtain ⟨T', e2, R', f2⟩ := r_press hR1 h.k hp hc (nI j)
          have al := press_alk (p := p) (d := d) hc (nI j) ho
          refine ⟨(sPress d p c (nI j)).2, S', T', ?_, ?_, (sPress d p c (nI j)).1, h.up2 f1 f2 (fun k q => by unfold zQ9 at q; omega) (al.kk h.k) al.1 L' R' P'⟩
          · simp (disch := omega) only [li, lo, c_le, c_lt, c_eq, c_cl, c_sub, nI_add, pk_mul, zin_nI, zg_true, ob_some, zm_none, zm_some, if_pos, if_neg, if_true, if_false, Bool.false_eq_true, d_t, d_f, ob_eta, ob_eta1, m_ltn, m_nlt, m_nle, m_len, m_ne, m_ne', m_mlt, m_mle, m_meq, m_neg, a1, ok, t_isDeed pk S hc, l_isGone hl ho, e1]
          · have hb := b1 S' (by rw [f1.sc (by unfold zZ; omega)])
            simp (disch := omega) only [li, lo, c_le, c_lt, c_eq, c_cl, c_sub, nI_add, pk_mul, zin_nI, zg_true, ob_some, zm_none, zm_some, if_pos, if_neg, if_true, if_false, Bool.false_eq_true, d_t, d_f, ob_eta, ob_eta1, m_ltn, m_nlt, m_nle, m_len, m_ne, m_ne', m_mlt, m_mle, m_meq, m_neg, hb, r_isDeedY hc, w_n (a := 1) (b := 99) S' j1 j2 (by decide), (hR1.pe hp).ou, e2]
        · exact st_no h 6 (by decide) (by decide) (by simp (disch := omega) only [li, lo, c_le, c_lt, c_eq, c_cl, c_sub, nI_add, pk_mul, zin_nI, zg_true, ob_some, zm_none, zm_some, if_pos, if_neg, if_true, if_false, Bool.false_eq_true, d_t, d_f, ob_eta, ob_eta1, m_ltn, m_nlt, m_nle, m_len, m_ne, m_ne', m_mlt, m_mle, m_meq, m_neg, a1, ok, t_isDeed pk S hc, l_isGone hl ho]) (by simp (disch := omega) only [li, lo, c_le, c_lt, c_eq, c_cl, c_sub, nI_add, pk_mul, zin_nI, zg_true, ob_some, zm_none, zm_some, if_pos, if_neg, if_true, if_false, Bool.false_eq_true, d_t, d_f, ob_eta, ob_eta1, m_ltn, m_nlt, m_nle, m_len, m_ne, m_ne', m_mlt, m_mle, m_meq, m_neg, b1 (zR1 S 6) rfl, r_isDeedY hc, w_n (a := 1) (b := 99) (zR1 S 6) j1 j2 (by decide), hr6])
theorem s_rub (h : Inv pk S d) (x1 x2 x3 : Int32) : zStp pk (M_X11_rub pk S x1 x2 x3) (fun T => M_X12_rub T x1 x2 x3) := by
  unfold M_X11_rub M_X12_rub M_X11_rub_B37 M_X12_rub_B40
  rcases cPer h x1 with ⟨a1, b1, -⟩ | ⟨p, hp, rfl, a1, b1, h6, ok⟩
  · exact st_no h 1 (by decide) (by decide) (by simp (disch := omega) only [li, lo, c_le, c_lt, c_eq, c_cl, c_sub, nI_add, pk_mul, zin_nI, zg_true, ob_some, zm_none, zm_some, if_pos, if_neg, if_true, if_false, Bool.false_eq_true, d_t, d_f, ob_eta, ob_eta1, m_ltn, m_nlt, m_nle, m_len, m_ne, m_ne', m_mlt, m_mle, m_meq, m_neg, a1]) (by simp (disch := omega) only [li, lo, c_le, c_lt, c_eq, c_cl, c_sub, nI_add, pk_mul, zin_nI, zg_true, ob_some, zm_none, zm_some, if_pos, if_neg, if_true, if_false, Bool.false_eq_true, d_t, d_f, ob_eta, ob_eta1, m_ltn, m_nlt, m_nle, m_len, m_ne, m_ne', m_mlt, m_mle, m_meq, m_neg, b1 (zR1 S 1) rfl])
  · have hl := h.l.pe hp
    have hr := h.r.pe hp
    have kp := h.k.pe hp
    have ho := kp.o
    have hr6 : zar (zR1 S 6) 7 p = nI (dou d p) := by rw [r1_a (by decide)]; exact hr.ou
    rcases cCopy x2 with ⟨a2, b2, -⟩ | ⟨c, hc, rfl⟩
    · exact st_no h 6 (by decide) (by decide) (by simp (disch := omega) only [li, lo, c_le, c_lt, c_eq, c_cl, c_sub, nI_add, pk_mul, zin_nI, zg_true, ob_some, zm_none, zm_some, if_pos, if_neg, if_true, if_false, Bool.false_eq_true, d_t, d_f, ob_eta, ob_eta1, m_ltn, m_nlt, m_nle, m_len, m_ne, m_ne', m_mlt, m_mle, m_meq, m_neg, a1, ok, l_isLeftN hl ho (a2 pk S)]) (by simp (disch := omega) only [li, lo, c_le, c_lt, c_eq, c_cl, c_sub, nI_add, pk_mul, zin_nI, zg_true, ob_some, zm_none, zm_some, if_pos, if_neg, if_true, if_false, Bool.false_eq_true, d_t, d_f, ob_eta, ob_eta1, m_ltn, m_nlt, m_nle, m_len, m_ne, m_ne', m_mlt, m_mle, m_meq, m_neg, b1 (zR1 S 6) rfl, r_livesN (b2 (zR1 S 6))])
    · by_cases e : c < dou d p
      · exact st_no h 6 (by decide) (by decide) (by simp (disch := omega) only [li, lo, c_le, c_lt, c_eq, c_cl, c_sub, nI_add, pk_mul, zin_nI, zg_true, ob_some, zm_none, zm_some, if_pos, if_neg, if_true, if_false, Bool.false_eq_true, d_t, d_f, ob_eta, ob_eta1, m_ltn, m_nlt, m_nle, m_len, m_ne, m_ne', m_mlt, m_mle, m_meq, m_neg, a1, ok, l_isLeft hl ho hc]) (by simp (disch := omega) only [li, lo, c_le, c_lt, c_eq, c_cl, c_sub, nI_add, pk_mul, zin_nI, zg_true, ob_some, zm_none, zm_some, if_pos, if_neg, if_true, if_false, Bool.false_eq_true, d_t, d_f, ob_eta, ob_eta1, m_ltn, m_nlt, m_nle, m_len, m_ne, m_ne', m_mlt, m_mle, m_meq, m_neg, b1 (zR1 S 6) rfl, r_lives hr6 h6 ho hc])
      · rcases cDeed x3 with ⟨a3, b3, -⟩ | ⟨x, hx, rfl⟩
        · exact st_no h 6 (by decide) (by decide) (by simp (disch := omega) only [li, lo, c_le, c_lt, c_eq, c_cl, c_sub, nI_add, pk_mul, zin_nI, zg_true, ob_some, zm_none, zm_some, if_pos, if_neg, if_true, if_false, Bool.false_eq_true, d_t, d_f, ob_eta, ob_eta1, m_ltn, m_nlt, m_nle, m_len, m_ne, m_ne', m_mlt, m_mle, m_meq, m_neg, a1, ok, l_isLeft hl ho hc, a3]) (by simp (disch := omega) only [li, lo, c_le, c_lt, c_eq, c_cl, c_sub, nI_add, pk_mul, zin_nI, zg_true, ob_some, zm_none, zm_some, if_pos, if_neg, if_true, if_false, Bool.false_eq_true, d_t, d_f, ob_eta, ob_eta1, m_ltn, m_nlt, m_nle, m_len, m_ne, m_ne', m_mlt, m_mle, m_meq, m_neg, b1 (zR1 S 6) rfl, r_lives hr6 h6 ho hc, b3])
        · obtain ⟨S', e1, L', f1, P'⟩ := l_rub h.l h.k.1 h.pe hp hc hx
          have f1 := f1.mono (Q := zZ 0) (fun k q => q.1)
          have hR1 := f100 S' h.r f1
          obtain ⟨T', e2, R', f2⟩ := r_rub hR1 h.k.1 hp hc hx
          have al := rub_alk (p := p) (d := d) hc hx
          refine ⟨dv d p (8 * c + x), S', T', ?_, ?_, sRub d p c x, h.up2 f1 f2 (fun k q => by omega) (al.kk h.k) al.1 L' R' P'⟩
          · simp (disch := omega) only [li, lo, c_le, c_lt, c_eq, c_cl, c_sub, nI_add, pk_mul, zin_nI, zg_true, ob_some, zm_none, zm_some, if_pos, if_neg, if_true, if_false, Bool.false_eq_true, d_t, d_f, ob_eta, ob_eta1, m_ltn, m_nlt, m_nle, m_len, m_ne, m_ne', m_mlt, m_mle, m_meq, m_neg, a1, ok, l_isLeft hl ho hc, t_isDeed pk S hx, e1]
          · have hb := b1 S' (by rw [f1.sc (by unfold zZ; omega)])
            simp (disch := omega) only [li, lo, c_le, c_lt, c_eq, c_cl, c_sub, nI_add, pk_mul, zin_nI, zg_true, ob_some, zm_none, zm_some, if_pos, if_neg, if_true, if_false, Bool.false_eq_true, d_t, d_f, ob_eta, ob_eta1, m_ltn, m_nlt, m_nle, m_len, m_ne, m_ne', m_mlt, m_mle, m_meq, m_neg, hb, r_lives (hR1.pe hp).ou h6 ho hc, r_isDeedY hx, e2]
theorem s_dies (h : Inv pk S d) (x1 : Int32) : zStp pk (M_X11_dies pk S x1) (fun T => M_X12_dies T x1) := by
  unfold M_X11_dies M_X12_dies
  rcases cPer h x1 with ⟨a1, b1, -⟩ | ⟨p, hp, rfl, a1, b1, h6, ok⟩
  · exact st_no h 1 (by decide) (by decide) (by simp (disch := omega) only [li, lo, c_le, c_lt, c_eq, c_cl, c_sub, nI_add, pk_mul, zin_nI, zg_true, ob_some, zm_none, zm_some, if_pos, if_neg, if_true, if_false, Bool.false_eq_true, d_t, d_f, ob_eta, ob_eta1, m_ltn, m_nlt, m_nle, m_len, m_ne, m_ne', m_mlt, m_mle, m_meq, m_neg, a1]) (by simp (disch := omega) only [li, lo, c_le, c_lt, c_eq, c_cl, c_sub, nI_add, pk_mul, zin_nI, zg_true, ob_some, zm_none, zm_some, if_pos, if_neg, if_true, if_false, Bool.false_eq_true, d_t, d_f, ob_eta, ob_eta1, m_ltn, m_nlt, m_nle, m_len, m_ne, m_ne', m_mlt, m_mle, m_meq, m_neg, b1 (zR1 S 1) rfl])
  · have hl := h.l.pe hp
    have hr := h.r.pe hp
    have kp := h.k.pe hp
    have ho := kp.o
    have hr6 : zar (zR1 S 6) 7 p = nI (dou d p) := by rw [r1_a (by decide)]; exact hr.ou
    by_cases e : dou d p < 6
    · have f1 : zFr (zZ 0) S (zP S (100 + 4 * (6 * 0 + p)) 8 (nI (dou d p + 1))) := zFr_P (by unfold zZ; omega)
      have hR1 := f100 _ h.r f1
      have f2 : zFr (fun k => k = 7) (zP S (100 + 4 * (6 * 0 + p)) 8 (nI (dou d p + 1))) (zAs (zP S (100 + 4 * (6 * 0 + p)) 8 (nI (dou d p + 1))) 7 p (nI (dou d p + 1))) := zFr_As rfl
      refine ⟨nI (dou d p + 1), zP S (100 + 4 * (6 * 0 + p)) 8 (nI (dou d p + 1)), _, ?_, ?_, dDie d p, h.up2 f1 f2 (fun k q => by omega) (h.k.die e) rfl h.l.die hR1.die h.pe.die⟩
      · simp (disch := omega) only [li, lo, c_le, c_lt, c_eq, c_cl, c_sub, nI_add, pk_mul, zin_nI, zg_true, ob_some, zm_none, zm_some, if_pos, if_neg, if_true, if_false, Bool.false_eq_true, d_t, d_f, ob_eta, ob_eta1, m_ltn, m_nlt, m_nle, m_len, m_ne, m_ne', m_mlt, m_mle, m_meq, m_neg, a1, ok, l_isGone hl ho, hl.ou, p_y]
      · have hb := b1 (zP S (100 + 4 * (6 * 0 + p)) 8 (nI (dou d p + 1))) (by rw [f1.sc (by unfold zZ; omega)])
        simp (disch := omega) only [li, lo, c_le, c_lt, c_eq, c_cl, c_sub, nI_add, pk_mul, zin_nI, zg_true, ob_some, zm_none, zm_some, if_pos, if_neg, if_true, if_false, Bool.false_eq_true, d_t, d_f, ob_eta, ob_eta1, m_ltn, m_nlt, m_nle, m_len, m_ne, m_ne', m_mlt, m_mle, m_meq, m_neg, hb, (hR1.pe hp).ou]
    · exact st_no h 6 (by decide) (by decide) (by simp (disch := omega) only [li, lo, c_le, c_lt, c_eq, c_cl, c_sub, nI_add, pk_mul, zin_nI, zg_true, ob_some, zm_none, zm_some, if_pos, if_neg, if_true, if_false, Bool.false_eq_true, d_t, d_f, ob_eta, ob_eta1, m_ltn, m_nlt, m_nle, m_len, m_ne, m_ne', m_mlt, m_mle, m_meq, m_neg, a1, ok, l_isGone hl ho]) (by simp (disch := omega) only [li, lo, c_le, c_lt, c_eq, c_cl, c_sub, nI_add, pk_mul, zin_nI, zg_true, ob_some, zm_none, zm_some, if_pos, if_neg, if_true, if_false, Bool.false_eq_true, d_t, d_f, ob_eta, ob_eta1, m_ltn, m_nlt, m_nle, m_len, m_ne, m_ne', m_mlt, m_mle, m_meq, m_neg, b1 (zR1 S 6) rfl, hr6])
theorem s_seed (h : Inv pk S d) (x1 : Int32) : zStp pk (M_X11_seed pk S x1) (fun T => M_X12_seed T x1) := by
  have hf : zFr (fun k => k = 60 ∨ k = 0) S (zP (zP S 60 5 x1) 0 12 x1) := (zFr_P (Or.inl rfl)).trans (zFr_P (Or.inr rfl))
  refine ⟨dse d, zP S 60 5 x1, zP (zP S 60 5 x1) 0 12 x1, ?_, ?_, (dn d, dk d, dou d, dle d, x1, dv d), ?_⟩
  · unfold M_X11_seed
    rw [h.se1]
  · show some (zsc (zP S 60 5 x1) 0 12, _) = _
    rw [p_n (by decide), h.r.2.2.1]
  · refine ⟨h.k, ⟨h.l.1, h.l.2.1, rfl, fun p hp => (h.l.pe hp).fr hf (fun c hc => by omega)⟩, ⟨h.r.1, h.r.2.1, rfl, fun p hp => (h.r.pe hp).fr hf (fun k _ _ => by omega)⟩, h.pe.fr hf (fun q _ => by omega), h.sh.fr hf (by omega) (by omega) (by omega) (fun k _ _ => by omega), h.tr.fr hf rfl (by omega) (by omega) (by omega), h.rf.fr hf (by omega) (by omega), h.fa, h.im.fr hf rfl rfl (by omega) (by omega) (fun k _ _ => by omega)⟩
def zStq {α : Type} (o1 o2 : Option α) : Prop := ∃ r, o1 = some r ∧ o2 = some r
theorem s_fault (h : Inv pk S d) : zStq (M_X11_fault pk S) (M_X12_fault S) := ⟨_, rfl, by unfold M_X12_fault; rw [← h.fa]⟩
theorem s_trace (h : Inv pk S d) (x1 : Int32) : zStq (M_X11_trace pk S x1) (M_X12_trace S x1) := by
  obtain ⟨t, ht, e1, e2, e3⟩ := h.tr
  unfold M_X11_trace M_X9_bodyAt M_X12_trace
  rcases ix x1 20 (by decide) (by decide) with ⟨q, -⟩ | ⟨q1, -, q2, q3, q4, q5⟩ | ⟨j, hj, rfl⟩
  · exact ⟨-nI 1, by simp (disch := omega) only [li, lo, c_le, c_lt, c_eq, c_cl, c_sub, nI_add, pk_mul, zin_nI, zg_true, ob_some, zm_none, zm_some, if_pos, if_neg, if_true, if_false, Bool.false_eq_true, d_t, d_f, ob_eta, ob_eta1, m_ltn, m_nlt, m_nle, m_len, m_ne, m_ne', m_mlt, m_mle, m_meq, m_neg, q], by simp (disch := omega) only [li, lo, c_le, c_lt, c_eq, c_cl, c_sub, nI_add, pk_mul, zin_nI, zg_true, ob_some, zm_none, zm_some, if_pos, if_neg, if_true, if_false, Bool.false_eq_true, d_t, d_f, ob_eta, ob_eta1, m_ltn, m_nlt, m_nle, m_len, m_ne, m_ne', m_mlt, m_mle, m_meq, m_neg, q]⟩
  · by_cases e : nI t ≤ x1
    · exact ⟨-nI 1, by simp (disch := omega) only [li, lo, c_le, c_lt, c_eq, c_cl, c_sub, nI_add, pk_mul, zin_nI, zg_true, ob_some, zm_none, zm_some, if_pos, if_neg, if_true, if_false, Bool.false_eq_true, d_t, d_f, ob_eta, ob_eta1, m_ltn, m_nlt, m_nle, m_len, m_ne, m_ne', m_mlt, m_mle, m_meq, m_neg, q1, e1, e], by simp (disch := omega) only [li, lo, c_le, c_lt, c_eq, c_cl, c_sub, nI_add, pk_mul, zin_nI, zg_true, ob_some, zm_none, zm_some, if_pos, if_neg, if_true, if_false, Bool.false_eq_true, d_t, d_f, ob_eta, ob_eta1, m_ltn, m_nlt, m_nle, m_len, m_ne, m_ne', m_mlt, m_mle, m_meq, m_neg, q1, e2, e]⟩
    · exact ⟨-nI 1, by simp (disch := omega) only [li, lo, c_le, c_lt, c_eq, c_cl, c_sub, nI_add, pk_mul, zin_nI, zg_true, ob_some, zm_none, zm_some, if_pos, if_neg, if_true, if_false, Bool.false_eq_true, d_t, d_f, ob_eta, ob_eta1, m_ltn, m_nlt, m_nle, m_len, m_ne, m_ne', m_mlt, m_mle, m_meq, m_neg, q1, e1, e, q2], by simp (disch := omega) only [li, lo, c_le, c_lt, c_eq, c_cl, c_sub, nI_add, pk_mul, zin_nI, zg_true, ob_some, zm_none, zm_some, if_pos, if_neg, if_true, if_false, Bool.false_eq_true, d_t, d_f, ob_eta, ob_eta1, m_ltn, m_nlt, m_nle, m_len, m_ne, m_ne', m_mlt, m_mle, m_meq, m_neg, q1, e2, e, q2]⟩
  · by_cases e : t ≤ j
    · exact ⟨-nI 1, by simp (disch := omega) only [li, lo, c_le, c_lt, c_eq, c_cl, c_sub, nI_add, pk_mul, zin_nI, zg_true, ob_some, zm_none, zm_some, if_pos, if_neg, if_true, if_false, Bool.false_eq_true, d_t, d_f, ob_eta, ob_eta1, m_ltn, m_nlt, m_nle, m_len, m_ne, m_ne', m_mlt, m_mle, m_meq, m_neg, e1], by simp (disch := omega) only [li, lo, c_le, c_lt, c_eq, c_cl, c_sub, nI_add, pk_mul, zin_nI, zg_true, ob_some, zm_none, zm_some, if_pos, if_neg, if_true, if_false, Bool.false_eq_true, d_t, d_f, ob_eta, ob_eta1, m_ltn, m_nlt, m_nle, m_len, m_ne, m_ne', m_mlt, m_mle, m_meq, m_neg, e2]⟩
    · exact ⟨zar S 12 j, by simp (disch := omega) only [li, lo, c_le, c_lt, c_eq, c_cl, c_sub, nI_add, pk_mul, zin_nI, zg_true, ob_some, zm_none, zm_some, if_pos, if_neg, if_true, if_false, Bool.false_eq_true, d_t, d_f, ob_eta, ob_eta1, m_ltn, m_nlt, m_nle, m_len, m_ne, m_ne', m_mlt, m_mle, m_meq, m_neg, e1, e3 j hj], by simp (disch := omega) only [li, lo, c_le, c_lt, c_eq, c_cl, c_sub, nI_add, pk_mul, zin_nI, zg_true, ob_some, zm_none, zm_some, if_pos, if_neg, if_true, if_false, Bool.false_eq_true, d_t, d_f, ob_eta, ob_eta1, m_ltn, m_nlt, m_nle, m_len, m_ne, m_ne', m_mlt, m_mle, m_meq, m_neg, e2]⟩
end STEP2
