/-! SHELVES -/
section SHE
variable {pk : Nat → Nat} {S T : zSt} {s p m : Nat} {d : zD}
theorem w_lenN (T : zSt) {x : Int32} (hm : m < 1000) (hx : x < nI 0 ∨ nI m ≤ x) : M_X12_within T x (nI 0) (nI m - nI 1) = some (nI 0) := by
  by_cases e : x < nI 0
  · exact w_lo T e
  · apply w_hi
    have h2 := hx.resolve_left e
    rcases m with _ | n
    · have h3 : (nI 0 - nI 1 : Int32) < nI 0 := by decide
      exact Int32.lt_of_lt_of_le h3 h2
    · rw [show nI (n + 1) - nI 1 = nI n from nI_pred n]
      exact Int32.lt_of_lt_of_le (by rw [c_lt (by omega) (by omega)]; omega) h2
theorem cShelf (pk : Nat → Nat) (S : zSt) (x : Int32) : (M_X11_shelfAt pk S x = some none ∧ (∀ T, M_X12_within T x (nI 0) (nI 7) = some (nI 0))) ∨ ∃ s, s < 8 ∧ x = nI s ∧ M_X11_shelfAt pk S x = some (some s) ∧ (∀ T, M_X12_within T x (nI 0) (nI 7) = some (nI 1)) ∧ decide (s < 8) = true := by
  unfold M_X11_shelfAt M_X11_shelfAt_B10
  rcases ix x 8 (by decide) (by decide) with ⟨q, -⟩ | ⟨q1, -, q2, q3, q4, q5⟩ | ⟨j, hj, rfl⟩
  · exact Or.inl ⟨by simp (disch := omega) only [reduceIte, li, lo, k_leT, k_leF, k_ltT, k_ltF, k_eqT, k_eqF, c_cl, c_sub, nI_add, pk_mul, zin_nI, zg_true, ob_some, zm_none, zm_some, if_true, if_false, Bool.false_eq_true, d_t, d_f, ob_eta, ob_eta1, m_ltn, m_nlt, m_nle, m_len, m_ne, m_ne', k_mltT, k_mltF, k_mleT, k_mleF, k_meqT, k_meqF, m_neg, q], fun T => w_lo T q⟩
  · exact Or.inl ⟨by simp (disch := omega) only [reduceIte, li, lo, k_leT, k_leF, k_ltT, k_ltF, k_eqT, k_eqF, c_cl, c_sub, nI_add, pk_mul, zin_nI, zg_true, ob_some, zm_none, zm_some, if_true, if_false, Bool.false_eq_true, d_t, d_f, ob_eta, ob_eta1, m_ltn, m_nlt, m_nle, m_len, m_ne, m_ne', k_mltT, k_mltF, k_mleT, k_mleF, k_meqT, k_meqF, m_neg, q1, q4], fun T => w_hi T q3⟩
  · exact Or.inr ⟨j, hj, rfl, by simp (disch := omega) only [reduceIte, li, lo, k_leT, k_leF, k_ltT, k_ltF, k_eqT, k_eqF, c_cl, c_sub, nI_add, pk_mul, zin_nI, zg_true, ob_some, zm_none, zm_some, if_true, if_false, Bool.false_eq_true, d_t, d_f, ob_eta, ob_eta1, m_ltn, m_nlt, m_nle, m_len, m_ne, m_ne', k_mltT, k_mltF, k_mleT, k_mleF, k_meqT, k_meqF, m_neg], fun T => w_n (a := 0) (b := 7) T (Nat.zero_le _) (by omega) (by decide), decide_eq_true hj⟩
theorem hSh (h : Inv pk S d) (hs : s < 8) : ∃ m hd, m ≤ 160 ∧ zsc S (40 + 2 * s) 1 = hd ∧ zar S 1 s = hd ∧ zsc S (40 + 2 * s) 2 = nI m ∧ zar S 2 s = nI m ∧ (∀ j, j < 160 → zlo S (40 + 2 * s + 1) j = zlo S 3 (160 * s + j)) ∧ (hd = -nI 1 ∨ (∃ p, p < dn d ∧ p < 6 ∧ hd = nI p) ∨ ∃ t, t < 4 ∧ hd = nI (100 + t)) := by
  obtain ⟨m, a, b, c, e, f, g⟩ := h.sh s hs
  refine ⟨m, zar S 1 s, a, b, rfl, c, e, f, ?_⟩
  rcases g with g | ⟨p, hp, g⟩ | g
  · exact Or.inl g
  · exact Or.inr (Or.inl ⟨p, hp, by have := h.k.1; omega, g⟩)
  · exact Or.inr (Or.inr g)
theorem s_holds (h : Inv pk S d) (x1 : Int32) : zStq (M_X11_holds pk S x1) (M_X12_holds S x1) := by
  unfold M_X11_holds M_X12_holds
  rcases cShelf pk S x1 with ⟨a1, b1⟩ | ⟨s, hs, rfl, a1, b1, c1⟩
  · exact ⟨-nI 1, by simp (disch := omega) only [reduceIte, li, lo, k_leT, k_leF, k_ltT, k_ltF, k_eqT, k_eqF, c_cl, c_sub, nI_add, pk_mul, zin_nI, zg_true, ob_some, zm_none, zm_some, if_true, if_false, Bool.false_eq_true, d_t, d_f, ob_eta, ob_eta1, m_ltn, m_nlt, m_nle, m_len, m_ne, m_ne', k_mltT, k_mltF, k_mleT, k_mleF, k_meqT, k_meqF, m_neg, a1], by simp (disch := omega) only [reduceIte, li, lo, k_leT, k_leF, k_ltT, k_ltF, k_eqT, k_eqF, c_cl, c_sub, nI_add, pk_mul, zin_nI, zg_true, ob_some, zm_none, zm_some, if_true, if_false, Bool.false_eq_true, d_t, d_f, ob_eta, ob_eta1, m_ltn, m_nlt, m_nle, m_len, m_ne, m_ne', k_mltT, k_mltF, k_mleT, k_mleF, k_meqT, k_meqF, m_neg, b1]⟩
  · obtain ⟨m, hd, -, e1, e2, -⟩ := hSh h hs
    exact ⟨hd, by simp (disch := omega) only [reduceIte, li, lo, k_leT, k_leF, k_ltT, k_ltF, k_eqT, k_eqF, c_cl, c_sub, nI_add, pk_mul, zin_nI, zg_true, ob_some, zm_none, zm_some, if_true, if_false, Bool.false_eq_true, d_t, d_f, ob_eta, ob_eta1, m_ltn, m_nlt, m_nle, m_len, m_ne, m_ne', k_mltT, k_mltF, k_mleT, k_mleF, k_meqT, k_meqF, m_neg, a1, c1, e1], by simp (disch := omega) only [reduceIte, li, lo, k_leT, k_leF, k_ltT, k_ltF, k_eqT, k_eqF, c_cl, c_sub, nI_add, pk_mul, zin_nI, zg_true, ob_some, zm_none, zm_some, if_true, if_false, Bool.false_eq_true, d_t, d_f, ob_eta, ob_eta1, m_ltn, m_nlt, m_nle, m_len, m_ne, m_ne', k_mltT, k_mltF, k_mleT, k_mleF, k_meqT, k_meqF, m_neg, b1, e2]⟩
theorem s_element (h : Inv pk S d) (x1 x2 : Int32) : zStq (M_X11_element pk S x1 x2) (M_X12_element S x1 x2) := by
  unfold M_X11_element M_X12_element M_X12_element_B49 M_X7_elementAt M_X7_hasElement M_X7_hasRow M_X12_isRow
  rcases cShelf pk S x1 with ⟨a1, b1⟩ | ⟨s, hs, rfl, a1, b1, c1⟩
  · exact ⟨0, by simp (disch := omega) only [reduceIte, li, lo, k_leT, k_leF, k_ltT, k_ltF, k_eqT, k_eqF, c_cl, c_sub, nI_add, pk_mul, zin_nI, zg_true, ob_some, zm_none, zm_some, if_true, if_false, Bool.false_eq_true, d_t, d_f, ob_eta, ob_eta1, m_ltn, m_nlt, m_nle, m_len, m_ne, m_ne', k_mltT, k_mltF, k_mleT, k_mleF, k_meqT, k_meqF, m_neg, a1], by simp (disch := omega) only [reduceIte, li, lo, k_leT, k_leF, k_ltT, k_ltF, k_eqT, k_eqF, c_cl, c_sub, nI_add, pk_mul, zin_nI, zg_true, ob_some, zm_none, zm_some, if_true, if_false, Bool.false_eq_true, d_t, d_f, ob_eta, ob_eta1, m_ltn, m_nlt, m_nle, m_len, m_ne, m_ne', k_mltT, k_mltF, k_mleT, k_mleF, k_meqT, k_meqF, m_neg, b1]⟩
  · obtain ⟨m, hd, hm, e1, e2, e3, e4, e5, g⟩ := hSh h hs
    rcases g with rfl | ⟨p, hp, h6, rfl⟩ | ⟨t, ht, rfl⟩
    · exact ⟨0, by simp (disch := omega) only [reduceIte, li, lo, k_leT, k_leF, k_ltT, k_ltF, k_eqT, k_eqF, c_cl, c_sub, nI_add, pk_mul, zin_nI, zg_true, ob_some, zm_none, zm_some, if_true, if_false, Bool.false_eq_true, d_t, d_f, ob_eta, ob_eta1, m_ltn, m_nlt, m_nle, m_len, m_ne, m_ne', k_mltT, k_mltF, k_mleT, k_mleF, k_meqT, k_meqF, m_neg, a1, c1, e1], by simp (disch := omega) only [reduceIte, li, lo, k_leT, k_leF, k_ltT, k_ltF, k_eqT, k_eqF, c_cl, c_sub, nI_add, pk_mul, zin_nI, zg_true, ob_some, zm_none, zm_some, if_true, if_false, Bool.false_eq_true, d_t, d_f, ob_eta, ob_eta1, m_ltn, m_nlt, m_nle, m_len, m_ne, m_ne', k_mltT, k_mltF, k_mleT, k_mleF, k_meqT, k_meqF, m_neg, b1, e2]⟩
    · exact ⟨0, by simp (disch := omega) only [reduceIte, li, lo, k_leT, k_leF, k_ltT, k_ltF, k_eqT, k_eqF, c_cl, c_sub, nI_add, pk_mul, zin_nI, zg_true, ob_some, zm_none, zm_some, if_true, if_false, Bool.false_eq_true, d_t, d_f, ob_eta, ob_eta1, m_ltn, m_nlt, m_nle, m_len, m_ne, m_ne', k_mltT, k_mltF, k_mleT, k_mleF, k_meqT, k_meqF, m_neg, a1, c1, e1], by simp (disch := omega) only [reduceIte, li, lo, k_leT, k_leF, k_ltT, k_ltF, k_eqT, k_eqF, c_cl, c_sub, nI_add, pk_mul, zin_nI, zg_true, ob_some, zm_none, zm_some, if_true, if_false, Bool.false_eq_true, d_t, d_f, ob_eta, ob_eta1, m_ltn, m_nlt, m_nle, m_len, m_ne, m_ne', k_mltT, k_mltF, k_mleT, k_mleF, k_meqT, k_meqF, m_neg, b1, e2]⟩
    · rcases pk_ix x2 (n := m) (by omega) with q | q | ⟨j, hj, rfl⟩
      · have q : x2 < nI 0 := q
        exact ⟨0, by simp (disch := omega) only [reduceIte, li, lo, k_leT, k_leF, k_ltT, k_ltF, k_eqT, k_eqF, c_cl, c_sub, nI_add, pk_mul, zin_nI, zg_true, ob_some, zm_none, zm_some, if_true, if_false, Bool.false_eq_true, d_t, d_f, ob_eta, ob_eta1, m_ltn, m_nlt, m_nle, m_len, m_ne, m_ne', k_mltT, k_mltF, k_mleT, k_mleF, k_meqT, k_meqF, m_neg, a1, c1, e1, q], by simp (disch := omega) only [reduceIte, li, lo, k_leT, k_leF, k_ltT, k_ltF, k_eqT, k_eqF, c_cl, c_sub, nI_add, pk_mul, zin_nI, zg_true, ob_some, zm_none, zm_some, if_true, if_false, Bool.false_eq_true, d_t, d_f, ob_eta, ob_eta1, m_ltn, m_nlt, m_nle, m_len, m_ne, m_ne', k_mltT, k_mltF, k_mleT, k_mleF, k_meqT, k_meqF, m_neg, b1, e2, e4, w_lenN S (show m < 1000 by omega) (Or.inl q)]⟩
      · refine ⟨0, ?_, by simp (disch := omega) only [reduceIte, li, lo, k_leT, k_leF, k_ltT, k_ltF, k_eqT, k_eqF, c_cl, c_sub, nI_add, pk_mul, zin_nI, zg_true, ob_some, zm_none, zm_some, if_true, if_false, Bool.false_eq_true, d_t, d_f, ob_eta, ob_eta1, m_ltn, m_nlt, m_nle, m_len, m_ne, m_ne', k_mltT, k_mltF, k_mleT, k_mleF, k_meqT, k_meqF, m_neg, b1, e2, e4, w_lenN S (show m < 1000 by omega) (Or.inr q)]⟩
        by_cases q2 : x2 < nI 0
        · simp (disch := omega) only [reduceIte, li, lo, k_leT, k_leF, k_ltT, k_ltF, k_eqT, k_eqF, c_cl, c_sub, nI_add, pk_mul, zin_nI, zg_true, ob_some, zm_none, zm_some, if_true, if_false, Bool.false_eq_true, d_t, d_f, ob_eta, ob_eta1, m_ltn, m_nlt, m_nle, m_len, m_ne, m_ne', k_mltT, k_mltF, k_mleT, k_mleF, k_meqT, k_meqF, m_neg, a1, c1, e1, q2]
        · simp (disch := omega) only [reduceIte, li, lo, k_leT, k_leF, k_ltT, k_ltF, k_eqT, k_eqF, c_cl, c_sub, nI_add, pk_mul, zin_nI, zg_true, ob_some, zm_none, zm_some, if_true, if_false, Bool.false_eq_true, d_t, d_f, ob_eta, ob_eta1, m_ltn, m_nlt, m_nle, m_len, m_ne, m_ne', k_mltT, k_mltF, k_mleT, k_mleF, k_meqT, k_meqF, m_neg, a1, c1, e1, q2, e3, q]
      · have w := w_n (a := 0) (b := m - 1) S (Nat.zero_le _) (show j ≤ m - 1 by omega) (by omega)
        exact ⟨zlo S 3 (160 * s + j), by simp (disch := omega) only [reduceIte, li, lo, k_leT, k_leF, k_ltT, k_ltF, k_eqT, k_eqF, c_cl, c_sub, nI_add, pk_mul, zin_nI, zg_true, ob_some, zm_none, zm_some, if_true, if_false, Bool.false_eq_true, d_t, d_f, ob_eta, ob_eta1, m_ltn, m_nlt, m_nle, m_len, m_ne, m_ne', k_mltT, k_mltF, k_mleT, k_mleF, k_meqT, k_meqF, m_neg, a1, c1, e1, e3, e5 j (show j < 160 by omega)], by simp (disch := omega) only [reduceIte, li, lo, k_leT, k_leF, k_ltT, k_ltF, k_eqT, k_eqF, c_cl, c_sub, nI_add, pk_mul, zin_nI, zg_true, ob_some, zm_none, zm_some, if_true, if_false, Bool.false_eq_true, d_t, d_f, ob_eta, ob_eta1, m_ltn, m_nlt, m_nle, m_len, m_ne, m_ne', k_mltT, k_mltF, k_mleT, k_mleF, k_meqT, k_meqF, m_neg, b1, e2, e4, w]⟩
theorem s_show (h : Inv pk S d) (x1 x2 : Int32) : zStp pk (M_X11_show pk S x1 x2) (fun T => M_X12_show T x1 x2) := by
  unfold M_X11_show M_X12_show M_X11_show_B26 M_X12_show_B23 M_X11_show_B32 M_X12_show_B29
  rcases cShelf pk S x1 with ⟨a1, b1⟩ | ⟨s, hs, rfl, a1, b1, c1⟩
  · exact st_no h 1 (by decide) (by decide) (by simp (disch := omega) only [reduceIte, li, lo, k_leT, k_leF, k_ltT, k_ltF, k_eqT, k_eqF, c_cl, c_sub, nI_add, pk_mul, zin_nI, zg_true, ob_some, zm_none, zm_some, if_true, if_false, Bool.false_eq_true, d_t, d_f, ob_eta, ob_eta1, m_ltn, m_nlt, m_nle, m_len, m_ne, m_ne', k_mltT, k_mltF, k_mleT, k_mleF, k_meqT, k_meqF, m_neg, a1]) (by simp (disch := omega) only [reduceIte, li, lo, k_leT, k_leF, k_ltT, k_ltF, k_eqT, k_eqF, c_cl, c_sub, nI_add, pk_mul, zin_nI, zg_true, ob_some, zm_none, zm_some, if_true, if_false, Bool.false_eq_true, d_t, d_f, ob_eta, ob_eta1, m_ltn, m_nlt, m_nle, m_len, m_ne, m_ne', k_mltT, k_mltF, k_mleT, k_mleF, k_meqT, k_meqF, m_neg, b1])
  · have hf : ∀ v, zFr (fun k => k = 40 + 2 * s ∨ k = 1) S (zAs (zP S (40 + 2 * s) 1 v) 1 s v) := fun v => (zFr_P (Or.inl rfl)).trans (zFr_As (Or.inr rfl))
    have hI : ∀ v, (v = -nI 1 ∨ (∃ p, p < dn d ∧ v = nI p)) → Inv pk (zAs (zP S (40 + 2 * s) 1 v) 1 s v) d := by
      intro v hv
      have hf := hf v
      refine ⟨h.k, h.l.fr h.k.1 hf (by omega) (fun k a b => by omega), h.r.fr hf (by rw [hf.sc (by omega)]) (by rw [hf.sc (by omega)]) (by rw [hf.sc (by omega)]) (fun k a b => by omega), h.pe.fr hf (fun q _ => by omega), ?_, h.tr.fr hf (by rw [hf.sc (by omega)]) (by omega) (by omega) (by omega), h.rf.fr hf (by omega) (by omega), ?_, h.im.fr hf (by rw [hf.sc (by omega)]) (by rw [hf.sc (by omega)]) (by omega) (by omega) (fun k a b => by omega)⟩
      · intro s' hs'
        obtain ⟨m, a, b, c, e, f, g⟩ := h.sh s' hs'
        refine ⟨m, a, ?_, ?_, by rw [as_n (by decide)]; exact e, fun j hj => f j hj, ?_⟩
        · rw [as_s, as_y]
          by_cases e : s' = s
          · subst e; rw [p_y, if_pos rfl, pk_us]
          · rw [p_n (by omega), pk_un e]; exact b
        · rw [as_s]
          by_cases e : s' = s
          · subst e; rw [p_y, if_neg (by decide)]; exact c
          · rw [p_n (by omega)]; exact c
        · rw [as_y]
          by_cases e : s' = s
          · subst e; rw [pk_us]
            rcases hv with hv | hv
            · exact Or.inl hv
            · exact Or.inr (Or.inl hv)
          · rw [pk_un e]; exact g
      · rw [hf.sc (by omega), hf.sc (by omega)]; exact h.fa
    by_cases e : x2 = -nI 1
    · subst e
      exact ⟨nI 0, zP S (40 + 2 * s) 1 (-nI 1), zAs (zP S (40 + 2 * s) 1 (-nI 1)) 1 s (-nI 1), by simp (disch := omega) only [reduceIte, li, lo, k_leT, k_leF, k_ltT, k_ltF, k_eqT, k_eqF, c_cl, c_sub, nI_add, pk_mul, zin_nI, zg_true, ob_some, zm_none, zm_some, if_true, if_false, Bool.false_eq_true, d_t, d_f, ob_eta, ob_eta1, m_ltn, m_nlt, m_nle, m_len, m_ne, m_ne', k_mltT, k_mltF, k_mleT, k_mleF, k_meqT, k_meqF, m_neg, a1, c1], by simp (disch := omega) only [reduceIte, li, lo, k_leT, k_leF, k_ltT, k_ltF, k_eqT, k_eqF, c_cl, c_sub, nI_add, pk_mul, zin_nI, zg_true, ob_some, zm_none, zm_some, if_true, if_false, Bool.false_eq_true, d_t, d_f, ob_eta, ob_eta1, m_ltn, m_nlt, m_nle, m_len, m_ne, m_ne', k_mltT, k_mltF, k_mleT, k_mleF, k_meqT, k_meqF, m_neg, b1], d, hI _ (Or.inl rfl)⟩
    · rcases cPer h x2 with ⟨a2, b2, -⟩ | ⟨p, hp, rfl, a2, b2, h6, ok⟩
      · exact st_no h 1 (by decide) (by decide) (by simp (disch := omega) only [reduceIte, li, lo, k_leT, k_leF, k_ltT, k_ltF, k_eqT, k_eqF, c_cl, c_sub, nI_add, pk_mul, zin_nI, zg_true, ob_some, zm_none, zm_some, if_true, if_false, Bool.false_eq_true, d_t, d_f, ob_eta, ob_eta1, m_ltn, m_nlt, m_nle, m_len, m_ne, m_ne', k_mltT, k_mltF, k_mleT, k_mleF, k_meqT, k_meqF, m_neg, a1, c1, e, a2]) (by simp (disch := omega) only [reduceIte, li, lo, k_leT, k_leF, k_ltT, k_ltF, k_eqT, k_eqF, c_cl, c_sub, nI_add, pk_mul, zin_nI, zg_true, ob_some, zm_none, zm_some, if_true, if_false, Bool.false_eq_true, d_t, d_f, ob_eta, ob_eta1, m_ltn, m_nlt, m_nle, m_len, m_ne, m_ne', k_mltT, k_mltF, k_mleT, k_mleF, k_meqT, k_meqF, m_neg, b1, e, b2 (zR1 S 1) rfl])
      · have b3 := b2 (zP S (40 + 2 * s) 1 (nI p)) (by rw [p_n (by omega)])
        exact ⟨nI 1, zP S (40 + 2 * s) 1 (nI p), zAs (zP S (40 + 2 * s) 1 (nI p)) 1 s (nI p), by simp (disch := omega) only [reduceIte, li, lo, k_leT, k_leF, k_ltT, k_ltF, k_eqT, k_eqF, c_cl, c_sub, nI_add, pk_mul, zin_nI, zg_true, ob_some, zm_none, zm_some, if_true, if_false, Bool.false_eq_true, d_t, d_f, ob_eta, ob_eta1, m_ltn, m_nlt, m_nle, m_len, m_ne, m_ne', k_mltT, k_mltF, k_mleT, k_mleF, k_meqT, k_meqF, m_neg, a1, c1, a2, ok], by simp (disch := omega) only [reduceIte, li, lo, k_leT, k_leF, k_ltT, k_ltF, k_eqT, k_eqF, c_cl, c_sub, nI_add, pk_mul, zin_nI, zg_true, ob_some, zm_none, zm_some, if_true, if_false, Bool.false_eq_true, d_t, d_f, ob_eta, ob_eta1, m_ltn, m_nlt, m_nle, m_len, m_ne, m_ne', k_mltT, k_mltF, k_mleT, k_mleF, k_meqT, k_meqF, m_neg, b1, b3], d, hI _ (Or.inr ⟨p, hp, rfl⟩)⟩
/-! kinds -/
def und (k j : Nat) : Nat := if j = 0 then 1 else if j = k then 1 else if (k = 3 ∧ j = 2) ∨ (k = 5 ∧ j = 4) ∨ (k = 6 ∧ j = 1) then 1 else 0
theorem seven {P : Nat → Prop} (h0 : P 0) (h1 : P 1) (h2 : P 2) (h3 : P 3) (h4 : P 4) (h5 : P 5) (h6 : P 6) {k : Nat} (h : k ≤ 6) : P k := by
  match k, h with
  | 0, _ => exact h0
  | 1, _ => exact h1
  | 2, _ => exact h2
  | 3, _ => exact h3
  | 4, _ => exact h4
  | 5, _ => exact h5
  | 6, _ => exact h6
theorem r_isUnder (T : zSt) {k j : Nat} (hk : k ≤ 6) (hj : j ≤ 6) : M_X12_isUnder T (nI k) (nI j) = some (nI (und k j)) := by
  revert j
  refine seven (P := fun k => ∀ {j : Nat}, j ≤ 6 → M_X12_isUnder T (nI k) (nI j) = some (nI (und k j))) ?_ ?_ ?_ ?_ ?_ ?_ ?_ hk <;> intro j hj <;> refine seven (P := fun j => M_X12_isUnder T _ (nI j) = some (nI (und _ j))) ?_ ?_ ?_ ?_ ?_ ?_ ?_ hj <;> rfl
theorem l_isOfKind {q : Nat} (h : Lp pk S q d p) (k : Kp d p) {j : Nat} (hj : j ≤ 6) : M_X11_isOfKind pk S q (nI j) = some (nI (und (dk d p) j)) := by
  have hh := h.pq
  have kk := k.1
  generalize dk d p = k at hh kk
  revert hh
  revert j
  refine seven (P := fun k => ∀ {j : Nat}, j ≤ 6 → pk q = kcn k → M_X11_isOfKind pk S q (nI j) = some (nI (und k j))) ?_ ?_ ?_ ?_ ?_ ?_ ?_ kk <;> intro j hj hh <;> refine seven (P := fun j => M_X11_isOfKind pk S q (nI j) = some (nI (und _ j))) ?_ ?_ ?_ ?_ ?_ ?_ ?_ hj <;> (unfold M_X11_isOfKind zis_X8 zis_X2 zis_X10 zis_X3 zis_X0 zis_X1; rw [hh]; rfl)
theorem und_01 (k j : Nat) : und k j = 0 ∨ und k j = 1 := by
  unfold und
  split
  · exact Or.inr rfl
  · split
    · exact Or.inr rfl
    · split
      · exact Or.inr rfl
      · exact Or.inl rfl
theorem s_says (h : Inv pk S d) (x1 x2 : Int32) : zStp pk (M_X11_says pk S x1 x2) (fun T => M_X12_says T x1 x2) := by
  unfold M_X11_says M_X12_says M_X11_says_B20 M_X12_says_B20
  rcases cShelf pk S x1 with ⟨a1, b1⟩ | ⟨s, hs, rfl, a1, b1, c1⟩
  · exact st_no h 1 (by decide) (by decide) (by simp (disch := omega) only [↓ob_some, ↓zm_some, ↓zm_none, ↓zg_true, ↓zg_in, ↓(ob_of a1), reduceIte, li, lo, k_leT, k_leF, k_ltT, k_ltF, k_eqT, k_eqF, c_cl, c_sub, nI_add, pk_mul, zin_nI, zg_true, ob_some, zm_none, zm_some, if_true, if_false, Bool.false_eq_true, d_t, d_f, ob_eta, ob_eta1, m_ltn, m_nlt, m_nle, m_len, m_ne, m_ne', k_mltT, k_mltF, k_mleT, k_mleF, k_meqT, k_meqF, m_neg]) (by simp (disch := omega) only [↓ob_some, ↓zm_some, ↓zm_none, ↓zg_true, ↓zg_in, ↓(ob_of (b1 (zR1 S 1))), reduceIte, li, lo, k_leT, k_leF, k_ltT, k_ltF, k_eqT, k_eqF, c_cl, c_sub, nI_add, pk_mul, zin_nI, zg_true, ob_some, zm_none, zm_some, if_true, if_false, Bool.false_eq_true, d_t, d_f, ob_eta, ob_eta1, m_ltn, m_nlt, m_nle, m_len, m_ne, m_ne', k_mltT, k_mltF, k_mleT, k_mleF, k_meqT, k_meqF, m_neg])
  · rcases ix x2 7 (by decide) (by decide) with ⟨q, -⟩ | ⟨q1, -, q2, q3, q4, q5⟩ | ⟨j, hj, rfl⟩
    · exact st_no h 1 (by decide) (by decide) (by simp (disch := omega) only [↓ob_some, ↓zm_some, ↓zm_none, ↓zg_true, ↓zg_in, ↓(ob_of a1), ↓(zg_of c1), q, reduceIte, li, lo, k_leT, k_leF, k_ltT, k_ltF, k_eqT, k_eqF, c_cl, c_sub, nI_add, pk_mul, zin_nI, zg_true, ob_some, zm_none, zm_some, if_true, if_false, Bool.false_eq_true, d_t, d_f, ob_eta, ob_eta1, m_ltn, m_nlt, m_nle, m_len, m_ne, m_ne', k_mltT, k_mltF, k_mleT, k_mleF, k_meqT, k_meqF, m_neg]) (by simp (disch := omega) only [↓ob_some, ↓zm_some, ↓zm_none, ↓zg_true, ↓zg_in, ↓(ob_of (b1 (zR1 S 1))), ↓(ob_of (w_lo (b := nI 6) (zR1 S 1) q)), reduceIte, li, lo, k_leT, k_leF, k_ltT, k_ltF, k_eqT, k_eqF, c_cl, c_sub, nI_add, pk_mul, zin_nI, zg_true, ob_some, zm_none, zm_some, if_true, if_false, Bool.false_eq_true, d_t, d_f, ob_eta, ob_eta1, m_ltn, m_nlt, m_nle, m_len, m_ne, m_ne', k_mltT, k_mltF, k_mleT, k_mleF, k_meqT, k_meqF, m_neg])
    · exact st_no h 1 (by decide) (by decide) (by simp (disch := omega) only [↓ob_some, ↓zm_some, ↓zm_none, ↓zg_true, ↓zg_in, ↓(ob_of a1), ↓(zg_of c1), q1, q4, reduceIte, li, lo, k_leT, k_leF, k_ltT, k_ltF, k_eqT, k_eqF, c_cl, c_sub, nI_add, pk_mul, zin_nI, zg_true, ob_some, zm_none, zm_some, if_true, if_false, Bool.false_eq_true, d_t, d_f, ob_eta, ob_eta1, m_ltn, m_nlt, m_nle, m_len, m_ne, m_ne', k_mltT, k_mltF, k_mleT, k_mleF, k_meqT, k_meqF, m_neg]) (by simp (disch := omega) only [↓ob_some, ↓zm_some, ↓zm_none, ↓zg_true, ↓zg_in, ↓(ob_of (b1 (zR1 S 1))), ↓(ob_of (w_hi (a := nI 0) (zR1 S 1) (show nI 6 < x2 from q3))), reduceIte, li, lo, k_leT, k_leF, k_ltT, k_ltF, k_eqT, k_eqF, c_cl, c_sub, nI_add, pk_mul, zin_nI, zg_true, ob_some, zm_none, zm_some, if_true, if_false, Bool.false_eq_true, d_t, d_f, ob_eta, ob_eta1, m_ltn, m_nlt, m_nle, m_len, m_ne, m_ne', k_mltT, k_mltF, k_mleT, k_mleF, k_meqT, k_meqF, m_neg])
    · have w := fun T => w_n (a := 0) (b := 6) T (Nat.zero_le _) (show j ≤ 6 by omega) (by decide)
      obtain ⟨m, hd, hm, e1, e2, e3, e4, e5, g⟩ := hSh h hs
      have e6 : ∀ c, zar (zR1 S c) 1 s = hd := fun c => (congrFun (r1_a (by decide)) s).trans e2
      rcases g with rfl | ⟨p, hp, h6, rfl⟩ | ⟨t, ht, rfl⟩
      · have a2 := l_perN h.l (x := -nI 1) (Or.inl (m_lt0 (by decide) (by decide)))
        have hr0 : M_X7_hasRow pk S s = some (nI 0) := by unfold M_X7_hasRow; simp (disch := omega) only [reduceIte, li, lo, k_leT, k_leF, k_ltT, k_ltF, k_eqT, k_eqF, c_cl, c_sub, nI_add, pk_mul, zin_nI, zg_true, ob_some, zm_none, zm_some, if_true, if_false, Bool.false_eq_true, d_t, d_f, ob_eta, ob_eta1, m_ltn, m_nlt, m_nle, m_len, m_ne, m_ne', k_mltT, k_mltF, k_mleT, k_mleF, k_meqT, k_meqF, m_neg, e1]
        have e6 := e6 3
        exact st_no h 3 (by decide) (by decide) (by simp (disch := omega) only [↓ob_some, ↓zm_some, ↓zm_none, ↓zg_true, ↓zg_in, ↓(ob_of a1), ↓(zg_of c1), ↓(ob_of hr0), e1, ↓(ob_of a2), reduceIte, li, lo, k_leT, k_leF, k_ltT, k_ltF, k_eqT, k_eqF, c_cl, c_sub, nI_add, pk_mul, zin_nI, zg_true, ob_some, zm_none, zm_some, if_true, if_false, Bool.false_eq_true, d_t, d_f, ob_eta, ob_eta1, m_ltn, m_nlt, m_nle, m_len, m_ne, m_ne', k_mltT, k_mltF, k_mleT, k_mleF, k_meqT, k_meqF, m_neg]) (by simp (disch := omega) only [↓ob_some, ↓zm_some, ↓zm_none, ↓zg_true, ↓zg_in, ↓(ob_of (b1 (zR1 S 3))), ↓(ob_of (w (zR1 S 3))), e6, M_X12_says_B65, reduceIte, li, lo, k_leT, k_leF, k_ltT, k_ltF, k_eqT, k_eqF, c_cl, c_sub, nI_add, pk_mul, zin_nI, zg_true, ob_some, zm_none, zm_some, if_true, if_false, Bool.false_eq_true, d_t, d_f, ob_eta, ob_eta1, m_ltn, m_nlt, m_nle, m_len, m_ne, m_ne', k_mltT, k_mltF, k_mleT, k_mleF, k_meqT, k_meqF, m_neg])
      · have hl := h.l.pe hp
        have hr := h.r.pe hp
        have kp := h.k.pe hp
        have a2 := l_perY h.l h.k.1 hp
        have ok := hl.ok (show 6 * 0 + p < 18 by omega)
        have ik := l_isOfKind hl kp (j := j) (by omega)
        have iu := fun T => r_isUnder T kp.1 (j := j) (by omega)
        have kn : zar (zR1 S 2) 4 p = nI (dk d p) := (congrFun (r1_a (by decide)) p).trans hr.knd
        have kd := kp.1
        have hr0 : M_X7_hasRow pk S s = some (nI 0) := by unfold M_X7_hasRow; simp (disch := omega) only [reduceIte, li, lo, k_leT, k_leF, k_ltT, k_ltF, k_eqT, k_eqF, c_cl, c_sub, nI_add, pk_mul, zin_nI, zg_true, ob_some, zm_none, zm_some, if_true, if_false, Bool.false_eq_true, d_t, d_f, ob_eta, ob_eta1, m_ltn, m_nlt, m_nle, m_len, m_ne, m_ne', k_mltT, k_mltF, k_mleT, k_mleF, k_meqT, k_meqF, m_neg, e1]
        have ir0 : ∀ T, zar T 1 s = nI p → M_X12_isRow T (nI s) = some (nI 0) := fun T hT => by unfold M_X12_isRow; simp (disch := omega) only [reduceIte, li, lo, k_leT, k_leF, k_ltT, k_ltF, k_eqT, k_eqF, c_cl, c_sub, nI_add, pk_mul, zin_nI, zg_true, ob_some, zm_none, zm_some, if_true, if_false, Bool.false_eq_true, d_t, d_f, ob_eta, ob_eta1, m_ltn, m_nlt, m_nle, m_len, m_ne, m_ne', k_mltT, k_mltF, k_mleT, k_mleF, k_meqT, k_meqF, m_neg, hT]
        rcases und_01 (dk d p) j with u | u
        · rw [u] at ik iu
          have e6 := e6 2
          exact st_no h 2 (by decide) (by decide) (by simp (disch := omega) only [↓ob_some, ↓zm_some, ↓zm_none, ↓zg_true, ↓zg_in, ↓(ob_of a1), ↓(zg_of c1), ↓(ob_of hr0), e1, ↓(ob_of a2), ↓(zg_of ok), ↓(ob_of ik), reduceIte, li, lo, k_leT, k_leF, k_ltT, k_ltF, k_eqT, k_eqF, c_cl, c_sub, nI_add, pk_mul, zin_nI, zg_true, ob_some, zm_none, zm_some, if_true, if_false, Bool.false_eq_true, d_t, d_f, ob_eta, ob_eta1, m_ltn, m_nlt, m_nle, m_len, m_ne, m_ne', k_mltT, k_mltF, k_mleT, k_mleF, k_meqT, k_meqF, m_neg]) (by simp (disch := omega) only [↓ob_some, ↓zm_some, ↓zm_none, ↓zg_true, ↓zg_in, ↓(ob_of (b1 (zR1 S 2))), ↓(ob_of (w (zR1 S 2))), e6, ↓(ob_of (ir0 (zR1 S 2) e6)), kn, ↓(ob_of (iu (zR1 S 2))), M_X12_says_B58, reduceIte, li, lo, k_leT, k_leF, k_ltT, k_ltF, k_eqT, k_eqF, c_cl, c_sub, nI_add, pk_mul, zin_nI, zg_true, ob_some, zm_none, zm_some, if_true, if_false, Bool.false_eq_true, d_t, d_f, ob_eta, ob_eta1, m_ltn, m_nlt, m_nle, m_len, m_ne, m_ne', k_mltT, k_mltF, k_mleT, k_mleF, k_meqT, k_meqF, m_neg])
        · rw [u] at ik iu
          have v5 := l_lossAt hl kp (show 5 < 100 by decide)
          have v1 := l_lossAt hl kp (show 1 < 100 by decide)
          have z5 := r_lossAt hr kp h6 (show 5 < 100 by decide)
          have z1 := r_lossAt hr kp h6 (show 1 < 100 by decide)
          have ho := hl.ou
          have hth := hl.th
          have hou2 := hr.ou
          have hth2 := hr.th
          have hknd := hr.knd
          have hj : j = 0 ∨ j = 1 ∨ j = 2 ∨ j = 3 ∨ j = 4 ∨ j = 5 ∨ j = 6 := by omega
          have ir0 := ir0 S e2
          have b1 := b1 S
          have w := w S
          have iu := iu S
          rcases hj with rfl | rfl | rfl | rfl | rfl | rfl | rfl
          · exact st_eq h (dv d p 61) (by simp (disch := omega) only [↓ob_some, ↓zm_some, ↓zm_none, ↓zg_true, ↓zg_in, ↓(ob_of a1), ↓(zg_of c1), ↓(ob_of hr0), e1, ↓(ob_of a2), ↓(zg_of ok), ↓(ob_of ik), hth, reduceIte, li, lo, k_leT, k_leF, k_ltT, k_ltF, k_eqT, k_eqF, c_cl, c_sub, nI_add, pk_mul, zin_nI, zg_true, ob_some, zm_none, zm_some, if_true, if_false, Bool.false_eq_true, d_t, d_f, ob_eta, ob_eta1, m_ltn, m_nlt, m_nle, m_len, m_ne, m_ne', k_mltT, k_mltF, k_mleT, k_mleF, k_meqT, k_meqF, m_neg]) (by simp (disch := omega) only [↓ob_some, ↓zm_some, ↓zm_none, ↓zg_true, ↓zg_in, ↓(ob_of b1), ↓(ob_of w), e2, ↓(ob_of ir0), hknd, ↓(ob_of iu), M_X12_says_B65, hth2, reduceIte, li, lo, k_leT, k_leF, k_ltT, k_ltF, k_eqT, k_eqF, c_cl, c_sub, nI_add, pk_mul, zin_nI, zg_true, ob_some, zm_none, zm_some, if_true, if_false, Bool.false_eq_true, d_t, d_f, ob_eta, ob_eta1, m_ltn, m_nlt, m_nle, m_len, m_ne, m_ne', k_mltT, k_mltF, k_mleT, k_mleF, k_meqT, k_meqF, m_neg])
          · exact st_eq h (nI (dou d p)) (by simp (disch := omega) only [↓ob_some, ↓zm_some, ↓zm_none, ↓zg_true, ↓zg_in, ↓(ob_of a1), ↓(zg_of c1), ↓(ob_of hr0), e1, ↓(ob_of a2), ↓(zg_of ok), ↓(ob_of ik), M_X11_says_B130, ho, reduceIte, li, lo, k_leT, k_leF, k_ltT, k_ltF, k_eqT, k_eqF, c_cl, c_sub, nI_add, pk_mul, zin_nI, zg_true, ob_some, zm_none, zm_some, if_true, if_false, Bool.false_eq_true, d_t, d_f, ob_eta, ob_eta1, m_ltn, m_nlt, m_nle, m_len, m_ne, m_ne', k_mltT, k_mltF, k_mleT, k_mleF, k_meqT, k_meqF, m_neg]) (by simp (disch := omega) only [↓ob_some, ↓zm_some, ↓zm_none, ↓zg_true, ↓zg_in, ↓(ob_of b1), ↓(ob_of w), e2, ↓(ob_of ir0), hknd, ↓(ob_of iu), M_X12_says_B65, M_X12_says_B127, hou2, reduceIte, li, lo, k_leT, k_leF, k_ltT, k_ltF, k_eqT, k_eqF, c_cl, c_sub, nI_add, pk_mul, zin_nI, zg_true, ob_some, zm_none, zm_some, if_true, if_false, Bool.false_eq_true, d_t, d_f, ob_eta, ob_eta1, m_ltn, m_nlt, m_nle, m_len, m_ne, m_ne', k_mltT, k_mltF, k_mleT, k_mleF, k_meqT, k_meqF, m_neg])
          · exact st_eq h (dLoss d p 5) (by simp (disch := omega) only [↓ob_some, ↓zm_some, ↓zm_none, ↓zg_true, ↓zg_in, ↓(ob_of a1), ↓(zg_of c1), ↓(ob_of hr0), e1, ↓(ob_of a2), ↓(zg_of ok), ↓(ob_of ik), M_X11_says_B136, v5, reduceIte, li, lo, k_leT, k_leF, k_ltT, k_ltF, k_eqT, k_eqF, c_cl, c_sub, nI_add, pk_mul, zin_nI, zg_true, ob_some, zm_none, zm_some, if_true, if_false, Bool.false_eq_true, d_t, d_f, ob_eta, ob_eta1, m_ltn, m_nlt, m_nle, m_len, m_ne, m_ne', k_mltT, k_mltF, k_mleT, k_mleF, k_meqT, k_meqF, m_neg]) (by simp (disch := omega) only [↓ob_some, ↓zm_some, ↓zm_none, ↓zg_true, ↓zg_in, ↓(ob_of b1), ↓(ob_of w), e2, ↓(ob_of ir0), hknd, ↓(ob_of iu), M_X12_says_B65, M_X12_says_B134, z5, reduceIte, li, lo, k_leT, k_leF, k_ltT, k_ltF, k_eqT, k_eqF, c_cl, c_sub, nI_add, pk_mul, zin_nI, zg_true, ob_some, zm_none, zm_some, if_true, if_false, Bool.false_eq_true, d_t, d_f, ob_eta, ob_eta1, m_ltn, m_nlt, m_nle, m_len, m_ne, m_ne', k_mltT, k_mltF, k_mleT, k_mleF, k_meqT, k_meqF, m_neg])
          · exact st_eq h (dLoss d p 5) (by simp (disch := omega) only [↓ob_some, ↓zm_some, ↓zm_none, ↓zg_true, ↓zg_in, ↓(ob_of a1), ↓(zg_of c1), ↓(ob_of hr0), e1, ↓(ob_of a2), ↓(zg_of ok), ↓(ob_of ik), M_X11_says_B136, v5, reduceIte, li, lo, k_leT, k_leF, k_ltT, k_ltF, k_eqT, k_eqF, c_cl, c_sub, nI_add, pk_mul, zin_nI, zg_true, ob_some, zm_none, zm_some, if_true, if_false, Bool.false_eq_true, d_t, d_f, ob_eta, ob_eta1, m_ltn, m_nlt, m_nle, m_len, m_ne, m_ne', k_mltT, k_mltF, k_mleT, k_mleF, k_meqT, k_meqF, m_neg]) (by simp (disch := omega) only [↓ob_some, ↓zm_some, ↓zm_none, ↓zg_true, ↓zg_in, ↓(ob_of b1), ↓(ob_of w), e2, ↓(ob_of ir0), hknd, ↓(ob_of iu), M_X12_says_B65, M_X12_says_B134, z5, reduceIte, li, lo, k_leT, k_leF, k_ltT, k_ltF, k_eqT, k_eqF, c_cl, c_sub, nI_add, pk_mul, zin_nI, zg_true, ob_some, zm_none, zm_some, if_true, if_false, Bool.false_eq_true, d_t, d_f, ob_eta, ob_eta1, m_ltn, m_nlt, m_nle, m_len, m_ne, m_ne', k_mltT, k_mltF, k_mleT, k_mleF, k_meqT, k_meqF, m_neg])
          · exact st_eq h (dLoss d p 1) (by simp (disch := omega) only [↓ob_some, ↓zm_some, ↓zm_none, ↓zg_true, ↓zg_in, ↓(ob_of a1), ↓(zg_of c1), ↓(ob_of hr0), e1, ↓(ob_of a2), ↓(zg_of ok), ↓(ob_of ik), M_X11_says_B143, v1, reduceIte, li, lo, k_leT, k_leF, k_ltT, k_ltF, k_eqT, k_eqF, c_cl, c_sub, nI_add, pk_mul, zin_nI, zg_true, ob_some, zm_none, zm_some, if_true, if_false, Bool.false_eq_true, d_t, d_f, ob_eta, ob_eta1, m_ltn, m_nlt, m_nle, m_len, m_ne, m_ne', k_mltT, k_mltF, k_mleT, k_mleF, k_meqT, k_meqF, m_neg]) (by simp (disch := omega) only [↓ob_some, ↓zm_some, ↓zm_none, ↓zg_true, ↓zg_in, ↓(ob_of b1), ↓(ob_of w), e2, ↓(ob_of ir0), hknd, ↓(ob_of iu), M_X12_says_B65, M_X12_says_B141, z1, reduceIte, li, lo, k_leT, k_leF, k_ltT, k_ltF, k_eqT, k_eqF, c_cl, c_sub, nI_add, pk_mul, zin_nI, zg_true, ob_some, zm_none, zm_some, if_true, if_false, Bool.false_eq_true, d_t, d_f, ob_eta, ob_eta1, m_ltn, m_nlt, m_nle, m_len, m_ne, m_ne', k_mltT, k_mltF, k_mleT, k_mleF, k_meqT, k_meqF, m_neg])
          · exact st_eq h (dLoss d p 1) (by simp (disch := omega) only [↓ob_some, ↓zm_some, ↓zm_none, ↓zg_true, ↓zg_in, ↓(ob_of a1), ↓(zg_of c1), ↓(ob_of hr0), e1, ↓(ob_of a2), ↓(zg_of ok), ↓(ob_of ik), M_X11_says_B143, v1, reduceIte, li, lo, k_leT, k_leF, k_ltT, k_ltF, k_eqT, k_eqF, c_cl, c_sub, nI_add, pk_mul, zin_nI, zg_true, ob_some, zm_none, zm_some, if_true, if_false, Bool.false_eq_true, d_t, d_f, ob_eta, ob_eta1, m_ltn, m_nlt, m_nle, m_len, m_ne, m_ne', k_mltT, k_mltF, k_mleT, k_mleF, k_meqT, k_meqF, m_neg]) (by simp (disch := omega) only [↓ob_some, ↓zm_some, ↓zm_none, ↓zg_true, ↓zg_in, ↓(ob_of b1), ↓(ob_of w), e2, ↓(ob_of ir0), hknd, ↓(ob_of iu), M_X12_says_B65, M_X12_says_B141, z1, reduceIte, li, lo, k_leT, k_leF, k_ltT, k_ltF, k_eqT, k_eqF, c_cl, c_sub, nI_add, pk_mul, zin_nI, zg_true, ob_some, zm_none, zm_some, if_true, if_false, Bool.false_eq_true, d_t, d_f, ob_eta, ob_eta1, m_ltn, m_nlt, m_nle, m_len, m_ne, m_ne', k_mltT, k_mltF, k_mleT, k_mleF, k_meqT, k_meqF, m_neg])
          · exact st_eq h (nI (dou d p)) (by simp (disch := omega) only [↓ob_some, ↓zm_some, ↓zm_none, ↓zg_true, ↓zg_in, ↓(ob_of a1), ↓(zg_of c1), ↓(ob_of hr0), e1, ↓(ob_of a2), ↓(zg_of ok), ↓(ob_of ik), M_X11_says_B130, ho, reduceIte, li, lo, k_leT, k_leF, k_ltT, k_ltF, k_eqT, k_eqF, c_cl, c_sub, nI_add, pk_mul, zin_nI, zg_true, ob_some, zm_none, zm_some, if_true, if_false, Bool.false_eq_true, d_t, d_f, ob_eta, ob_eta1, m_ltn, m_nlt, m_nle, m_len, m_ne, m_ne', k_mltT, k_mltF, k_mleT, k_mleF, k_meqT, k_meqF, m_neg]) (by simp (disch := omega) only [↓ob_some, ↓zm_some, ↓zm_none, ↓zg_true, ↓zg_in, ↓(ob_of b1), ↓(ob_of w), e2, ↓(ob_of ir0), hknd, ↓(ob_of iu), M_X12_says_B65, M_X12_says_B127, hou2, reduceIte, li, lo, k_leT, k_leF, k_ltT, k_ltF, k_eqT, k_eqF, c_cl, c_sub, nI_add, pk_mul, zin_nI, zg_true, ob_some, zm_none, zm_some, if_true, if_false, Bool.false_eq_true, d_t, d_f, ob_eta, ob_eta1, m_ltn, m_nlt, m_nle, m_len, m_ne, m_ne', k_mltT, k_mltF, k_mleT, k_mleF, k_meqT, k_meqF, m_neg])
      · have hr1 : M_X7_hasRow pk S s = some (nI 1) := by unfold M_X7_hasRow; simp (disch := omega) only [reduceIte, li, lo, k_leT, k_leF, k_ltT, k_ltF, k_eqT, k_eqF, c_cl, c_sub, nI_add, pk_mul, zin_nI, zg_true, ob_some, zm_none, zm_some, if_true, if_false, Bool.false_eq_true, d_t, d_f, ob_eta, ob_eta1, m_ltn, m_nlt, m_nle, m_len, m_ne, m_ne', k_mltT, k_mltF, k_mleT, k_mleF, k_meqT, k_meqF, m_neg, e1]
        have e6 := e6 2
        have ir1 : M_X12_isRow (zR1 S 2) (nI s) = some (nI 1) := by unfold M_X12_isRow; simp (disch := omega) only [reduceIte, li, lo, k_leT, k_leF, k_ltT, k_ltF, k_eqT, k_eqF, c_cl, c_sub, nI_add, pk_mul, zin_nI, zg_true, ob_some, zm_none, zm_some, if_true, if_false, Bool.false_eq_true, d_t, d_f, ob_eta, ob_eta1, m_ltn, m_nlt, m_nle, m_len, m_ne, m_ne', k_mltT, k_mltF, k_mleT, k_mleF, k_meqT, k_meqF, m_neg, e6]
        exact st_no h 2 (by decide) (by decide) (by simp (disch := omega) only [↓ob_some, ↓zm_some, ↓zm_none, ↓zg_true, ↓zg_in, ↓(ob_of a1), ↓(zg_of c1), ↓(ob_of hr1), reduceIte, li, lo, k_leT, k_leF, k_ltT, k_ltF, k_eqT, k_eqF, c_cl, c_sub, nI_add, pk_mul, zin_nI, zg_true, ob_some, zm_none, zm_some, if_true, if_false, Bool.false_eq_true, d_t, d_f, ob_eta, ob_eta1, m_ltn, m_nlt, m_nle, m_len, m_ne, m_ne', k_mltT, k_mltF, k_mleT, k_mleF, k_meqT, k_meqF, m_neg]) (by simp (disch := omega) only [↓ob_some, ↓zm_some, ↓zm_none, ↓zg_true, ↓zg_in, ↓(ob_of (b1 (zR1 S 2))), ↓(ob_of (w (zR1 S 2))), e6, ↓(ob_of ir1), M_X12_says_B58, reduceIte, li, lo, k_leT, k_leF, k_ltT, k_ltF, k_eqT, k_eqF, c_cl, c_sub, nI_add, pk_mul, zin_nI, zg_true, ob_some, zm_none, zm_some, if_true, if_false, Bool.false_eq_true, d_t, d_f, ob_eta, ob_eta1, m_ltn, m_nlt, m_nle, m_len, m_ne, m_ne', k_mltT, k_mltF, k_mleT, k_mleF, k_meqT, k_meqF, m_neg])
end SHE
