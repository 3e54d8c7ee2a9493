/-! ROWS: new ones, one element, many -/
section ROW
variable {P : Nat → Prop} {pk : Nat → Nat} {S S' T : zSt} {s p m n : Nat} {d : zD}
theorem l_fillL (k0 n0 : Nat) (v : Int64) (hn : n0 < 4000) (S : zSt) : ∃ S', M_J7_fill_d0a16 S k0 n0 v = some S' ∧ zFr (fun k => k = k0) S S' ∧ ∀ j, j < n0 → zlo S' k0 j = v := by
  have key := lpR (fun n (a : zSt) z => M_J7_fill_d0a16_B6 k0 n0 n a v z (nI n0)) (fun (u : Unit) _ => u) (fun z a _ => zFr (fun k => k = k0) S a ∧ ∀ j, j < z → zlo a k0 j = v) (fun _ o => ∃ S', o = some S' ∧ zFr (fun k => k = k0) S S' ∧ ∀ j, j < n0 → zlo S' k0 j = v) n0 (fun n a c hR => ?_) (fun n a c z hz hR => ?_) n0 0 zF S () ⟨zFr.rf, fun j hj => absurd hj (Nat.not_lt_zero _)⟩ (by omega) (by show _ < 4096; omega)
  · exact key
  · exact ⟨a, by simp (disch := omega) only [reduceIte, li, lo, k_leT, k_leF, k_ltT, k_ltF, k_eqT, k_eqF, c_cl, c_sub, nI_add, pk_mul, zin_nI, zg_true, ob_some, zm_none, zm_some, if_true, if_false, Bool.false_eq_true, d_t, d_f, ob_eta, ob_eta1, m_ltn, m_nlt, m_nle, m_len, m_ne, m_ne', k_mltT, k_mltF, k_mleT, k_mleF, k_meqT, k_meqF, m_neg, M_J7_fill_d0a16_B6], hR⟩
  · refine ⟨zLs a k0 z v, ⟨hR.1.trans (zFr_Ls rfl), fun j hj => ?_⟩, by simp (disch := omega) only [reduceIte, li, lo, k_leT, k_leF, k_ltT, k_ltF, k_eqT, k_eqF, c_cl, c_sub, nI_add, pk_mul, zin_nI, zg_true, ob_some, zm_none, zm_some, if_true, if_false, Bool.false_eq_true, d_t, d_f, ob_eta, ob_eta1, m_ltn, m_nlt, m_nle, m_len, m_ne, m_ne', k_mltT, k_mltF, k_mleT, k_mleF, k_meqT, k_meqF, m_neg, M_J7_fill_d0a16_B6]⟩
    rw [ls_y]
    by_cases e : j = z
    · subst e; rw [pk_uLs]
    · rw [pk_uLn e]; exact hR.2 j (by omega)
theorem l_fillI (k0 n0 : Nat) (v : Int32) (hn : n0 < 4000) (S : zSt) : ∃ S', M_J7_fill_53178 S k0 n0 v = some S' ∧ zFr (fun k => k = k0) S S' ∧ ∀ j, j < n0 → zar S' k0 j = v := by
  have key := lpR (fun n (a : zSt) z => M_J7_fill_53178_B5 k0 n0 n a v z (nI n0)) (fun (u : Unit) _ => u) (fun z a _ => zFr (fun k => k = k0) S a ∧ ∀ j, j < z → zar a k0 j = v) (fun _ o => ∃ S', o = some S' ∧ zFr (fun k => k = k0) S S' ∧ ∀ j, j < n0 → zar S' k0 j = v) n0 (fun n a c hR => ?_) (fun n a c z hz hR => ?_) n0 0 zF S () ⟨zFr.rf, fun j hj => absurd hj (Nat.not_lt_zero _)⟩ (by omega) (by show _ < 4096; omega)
  · exact key
  · exact ⟨a, by simp (disch := omega) only [reduceIte, li, lo, k_leT, k_leF, k_ltT, k_ltF, k_eqT, k_eqF, c_cl, c_sub, nI_add, pk_mul, zin_nI, zg_true, ob_some, zm_none, zm_some, if_true, if_false, Bool.false_eq_true, d_t, d_f, ob_eta, ob_eta1, m_ltn, m_nlt, m_nle, m_len, m_ne, m_ne', k_mltT, k_mltF, k_mleT, k_mleF, k_meqT, k_meqF, m_neg, M_J7_fill_53178_B5], hR⟩
  · refine ⟨zAs a k0 z v, ⟨hR.1.trans (zFr_As rfl), fun j hj => ?_⟩, by simp (disch := omega) only [reduceIte, li, lo, k_leT, k_leF, k_ltT, k_ltF, k_eqT, k_eqF, c_cl, c_sub, nI_add, pk_mul, zin_nI, zg_true, ob_some, zm_none, zm_some, if_true, if_false, Bool.false_eq_true, d_t, d_f, ob_eta, ob_eta1, m_ltn, m_nlt, m_nle, m_len, m_ne, m_ne', k_mltT, k_mltF, k_mleT, k_mleF, k_meqT, k_meqF, m_neg, M_J7_fill_53178_B5]⟩
    rw [as_y]
    by_cases e : j = z
    · subst e; rw [pk_us]
    · rw [pk_un e]; exact hR.2 j (by omega)
theorem r_fillL (T : zSt) (hs : s < 8) : ∃ T', M_X12_row_B77 zF T (nI s) (nI 0) = some (nI 1, T') ∧ zFr (fun k => k = 3) T T' ∧ ∀ j, zlo T' 3 j = if 160 * s ≤ j ∧ j < 160 * s + 160 then 0 else zlo T 3 j := by
  have key := lpR (fun n (a : zSt) z => M_X12_row_B77 n a (nI s) z) (fun (u : Unit) _ => u) (fun z a _ => zFr (fun k => k = 3) T a ∧ ∀ j, zlo a 3 j = if 160 * s ≤ j ∧ j < 160 * s + z then 0 else zlo T 3 j) (fun _ o => ∃ T', o = some (nI 1, T') ∧ zFr (fun k => k = 3) T T' ∧ ∀ j, zlo T' 3 j = if 160 * s ≤ j ∧ j < 160 * s + 160 then 0 else zlo T 3 j) 160 (fun n a c hR => ?_) (fun n a c z hz hR => ?_) 160 0 zF T () ⟨zFr.rf, fun j => ?_⟩ (by omega) (by show _ < 4096; omega)
  · exact key
  · exact ⟨a, by simp (disch := omega) only [reduceIte, li, lo, k_leT, k_leF, k_ltT, k_ltF, k_eqT, k_eqF, c_cl, c_sub, nI_add, pk_mul, zin_nI, zg_true, ob_some, zm_none, zm_some, if_true, if_false, Bool.false_eq_true, d_t, d_f, ob_eta, ob_eta1, m_ltn, m_nlt, m_nle, m_len, m_ne, m_ne', k_mltT, k_mltF, k_mleT, k_mleF, k_meqT, k_meqF, m_neg, M_X12_row_B77], hR⟩
  · refine ⟨zLs a 3 (160 * s + z) 0, ⟨hR.1.trans (zFr_Ls rfl), fun j => ?_⟩, by simp (disch := omega) only [reduceIte, li, lo, k_leT, k_leF, k_ltT, k_ltF, k_eqT, k_eqF, c_cl, c_sub, nI_add, pk_mul, zin_nI, zg_true, ob_some, zm_none, zm_some, if_true, if_false, Bool.false_eq_true, d_t, d_f, ob_eta, ob_eta1, m_ltn, m_nlt, m_nle, m_len, m_ne, m_ne', k_mltT, k_mltF, k_mleT, k_mleF, k_meqT, k_meqF, m_neg, M_X12_row_B77]⟩
    rw [ls_y]
    by_cases e : j = 160 * s + z
    · subst e; rw [pk_uLs, if_pos (by omega)]
    · rw [pk_uLn e, hR.2 j]
      by_cases e2 : 160 * s ≤ j ∧ j < 160 * s + z
      · rw [if_pos e2, if_pos (by omega)]
      · rw [if_neg e2, if_neg (by omega)]
  · rw [if_neg (by omega)]
/-- shelf s becomes another -/
theorem Inv.she (h : Inv pk S d) (hs : s < 8) (hf : zFr (fun k => k = 40 + 2 * s ∨ k = 40 + 2 * s + 1 ∨ k = 1 ∨ k = 2 ∨ k = 3) S S') (hm : m ≤ 160) (e1 : zsc S' (40 + 2 * s) 1 = zar S' 1 s) (e2 : zsc S' (40 + 2 * s) 2 = nI m) (e3 : zar S' 2 s = nI m) (e4 : ∀ j, j < 160 → zlo S' (40 + 2 * s + 1) j = zlo S' 3 (160 * s + j)) (e5 : zar S' 1 s = -nI 1 ∨ (∃ p, p < dn d ∧ zar S' 1 s = nI p) ∨ ∃ t, t < 4 ∧ zar S' 1 s = nI (100 + t)) (o1 : ∀ j, j ≠ s → zar S' 1 j = zar S 1 j) (o2 : ∀ j, j ≠ s → zar S' 2 j = zar S 2 j) (o3 : ∀ s' j, s' ≠ s → j < 160 → zlo S' 3 (160 * s' + j) = zlo S 3 (160 * s' + j)) : Inv pk S' d := by
  refine ⟨h.k, h.l.fr h.k.1 hf (by omega) (fun k a b => by omega), h.r.fr hf (by rw [hf.sc (by omega)]) (by rw [hf.sc (by omega)]) (by rw [hf.sc (by omega)]) (fun k a b => by omega), h.pe.fr hf (fun q _ => by omega), ?_, h.tr.fr hf (by rw [hf.sc (by omega)]) (by omega) (by omega) (by omega), h.rf.fr hf (by omega) (by omega), ?_, h.im.fr hf (by rw [hf.sc (by omega)]) (by rw [hf.sc (by omega)]) (by omega) (by omega) (fun k a b => by omega)⟩
  · intro s' hs'
    by_cases e : s' = s
    · subst e
      exact ⟨m, hm, e1, e2, e3, e4, e5⟩
    · obtain ⟨m', a, b, c, e', f, g⟩ := h.sh s' hs'
      refine ⟨m', a, ?_, ?_, ?_, fun j hj => ?_, ?_⟩
      · rw [hf.sc (by omega), o1 s' e]; exact b
      · rw [hf.sc (by omega)]; exact c
      · rw [o2 s' e]; exact e'
      · rw [hf.lo (by omega), o3 s' j e hj]; exact f j hj
      · rw [o1 s' e]; exact g
  · rw [hf.sc (by omega), hf.sc (by omega)]; exact h.fa
theorem s_row (h : Inv pk S d) (x1 x2 x3 : Int32) : zStp pk (M_X11_row pk S x1 x2 x3) (fun T => M_X12_row T x1 x2 x3) := by
  unfold M_X11_row M_X12_row M_X11_row_B38
  rcases cShelf pk S x1 with ⟨a1, b1⟩ | ⟨s, hs, rfl, a1, b1, c1⟩
  · exact st_no h 1 (by decide) (by decide) (by simp (disch := omega) only [↓ob_some, ↓zm_some, ↓zm_none, ↓zg_true, ↓zg_in, ↓(ob_of a1), reduceIte, li, lo, k_leT, k_leF, k_ltT, k_ltF, k_eqT, k_eqF, c_cl, c_sub, nI_add, pk_mul, zin_nI, zg_true, ob_some, zm_none, zm_some, if_true, if_false, Bool.false_eq_true, d_t, d_f, ob_eta, ob_eta1, m_ltn, m_nlt, m_nle, m_len, m_ne, m_ne', k_mltT, k_mltF, k_mleT, k_mleF, k_meqT, k_meqF, m_neg]) (by simp (disch := omega) only [↓ob_some, ↓zm_some, ↓zm_none, ↓zg_true, ↓zg_in, ↓(ob_of (b1 (zR1 S 1))), reduceIte, li, lo, k_leT, k_leF, k_ltT, k_ltF, k_eqT, k_eqF, c_cl, c_sub, nI_add, pk_mul, zin_nI, zg_true, ob_some, zm_none, zm_some, if_true, if_false, Bool.false_eq_true, d_t, d_f, ob_eta, ob_eta1, m_ltn, m_nlt, m_nle, m_len, m_ne, m_ne', k_mltT, k_mltF, k_mleT, k_mleF, k_meqT, k_meqF, m_neg])
  · by_cases n0 : x3 < nI 0
    · have n1 : ¬ nI 0 ≤ x3 := Int32.not_le.mpr n0
      exact st_no h 4 (by decide) (by decide) (by simp (disch := omega) only [↓ob_some, ↓zm_some, ↓zm_none, ↓zg_true, ↓zg_in, ↓(ob_of a1), ↓(zg_of c1), n1, reduceIte, li, lo, k_leT, k_leF, k_ltT, k_ltF, k_eqT, k_eqF, c_cl, c_sub, nI_add, pk_mul, zin_nI, zg_true, ob_some, zm_none, zm_some, if_true, if_false, Bool.false_eq_true, d_t, d_f, ob_eta, ob_eta1, m_ltn, m_nlt, m_nle, m_len, m_ne, m_ne', k_mltT, k_mltF, k_mleT, k_mleF, k_meqT, k_meqF, m_neg]) (by simp (disch := omega) only [↓ob_some, ↓zm_some, ↓zm_none, ↓zg_true, ↓zg_in, ↓(ob_of (b1 (zR1 S 4))), n1, reduceIte, li, lo, k_leT, k_leF, k_ltT, k_ltF, k_eqT, k_eqF, c_cl, c_sub, nI_add, pk_mul, zin_nI, zg_true, ob_some, zm_none, zm_some, if_true, if_false, Bool.false_eq_true, d_t, d_f, ob_eta, ob_eta1, m_ltn, m_nlt, m_nle, m_len, m_ne, m_ne', k_mltT, k_mltF, k_mleT, k_mleF, k_meqT, k_meqF, m_neg])
    · obtain ⟨n, hn, rfl⟩ := nI_of n0
      rcases ix x2 4 (by decide) (by decide) with ⟨q, -⟩ | ⟨q1, -, q2, q3, q4, q5⟩ | ⟨t, ht, rfl⟩
      · exact st_no h 6 (by decide) (by decide) (by simp (disch := omega) only [↓ob_some, ↓zm_some, ↓zm_none, ↓zg_true, ↓zg_in, ↓(ob_of a1), ↓(zg_of c1), q, reduceIte, li, lo, k_leT, k_leF, k_ltT, k_ltF, k_eqT, k_eqF, c_cl, c_sub, nI_add, pk_mul, zin_nI, zg_true, ob_some, zm_none, zm_some, if_true, if_false, Bool.false_eq_true, d_t, d_f, ob_eta, ob_eta1, m_ltn, m_nlt, m_nle, m_len, m_ne, m_ne', k_mltT, k_mltF, k_mleT, k_mleF, k_meqT, k_meqF, m_neg]) (by simp (disch := omega) only [↓ob_some, ↓zm_some, ↓zm_none, ↓zg_true, ↓zg_in, ↓(ob_of (b1 (zR1 S 6))), ↓(ob_of (w_lo (b := nI 3) (zR1 S 6) q)), reduceIte, li, lo, k_leT, k_leF, k_ltT, k_ltF, k_eqT, k_eqF, c_cl, c_sub, nI_add, pk_mul, zin_nI, zg_true, ob_some, zm_none, zm_some, if_true, if_false, Bool.false_eq_true, d_t, d_f, ob_eta, ob_eta1, m_ltn, m_nlt, m_nle, m_len, m_ne, m_ne', k_mltT, k_mltF, k_mleT, k_mleF, k_meqT, k_meqF, m_neg])
      · exact st_no h 6 (by decide) (by decide) (by simp (disch := omega) only [↓ob_some, ↓zm_some, ↓zm_none, ↓zg_true, ↓zg_in, ↓(ob_of a1), ↓(zg_of c1), q1, q4, reduceIte, li, lo, k_leT, k_leF, k_ltT, k_ltF, k_eqT, k_eqF, c_cl, c_sub, nI_add, pk_mul, zin_nI, zg_true, ob_some, zm_none, zm_some, if_true, if_false, Bool.false_eq_true, d_t, d_f, ob_eta, ob_eta1, m_ltn, m_nlt, m_nle, m_len, m_ne, m_ne', k_mltT, k_mltF, k_mleT, k_mleF, k_meqT, k_meqF, m_neg]) (by simp (disch := omega) only [↓ob_some, ↓zm_some, ↓zm_none, ↓zg_true, ↓zg_in, ↓(ob_of (b1 (zR1 S 6))), ↓(ob_of (w_hi (a := nI 0) (zR1 S 6) (show nI 3 < x2 from q3))), reduceIte, li, lo, k_leT, k_leF, k_ltT, k_ltF, k_eqT, k_eqF, c_cl, c_sub, nI_add, pk_mul, zin_nI, zg_true, ob_some, zm_none, zm_some, if_true, if_false, Bool.false_eq_true, d_t, d_f, ob_eta, ob_eta1, m_ltn, m_nlt, m_nle, m_len, m_ne, m_ne', k_mltT, k_mltF, k_mleT, k_mleF, k_meqT, k_meqF, m_neg])
      · have w := fun T => w_n (a := 0) (b := 3) T (Nat.zero_le _) (show t ≤ 3 by omega) (by decide)
        by_cases n2 : n ≤ 160
        · obtain ⟨S1, e1, f1, g1⟩ := l_fillL (40 + 2 * s + 1) 160 0 (by decide) (zP (zP S (40 + 2 * s) 1 (nI (100 + t))) (40 + 2 * s) 2 (nI n))
          obtain ⟨T1, e2, f2, g2⟩ := r_fillL (s := s) (zAs (zAs S1 1 s (nI (100 + t))) 2 s (nI n)) hs
          have tr : M_X7_takeRow pk S s (nI t) (nI n) = some S1 := by
            unfold M_X7_takeRow
            have ee : (if (160 : Int32) < nI n then (160 : Int32) else nI n) = nI n := if_neg (nI_nlt n2 (by decide))
            rw [ee, show (100 : Int32) + nI t = nI (100 + t) from nI_add 100 t, e1]
            rfl
          have F1 : zFr (fun k => k = 40 + 2 * s ∨ k = 40 + 2 * s + 1 ∨ k = 1 ∨ k = 2 ∨ k = 3) S S1 := ((zFr_P (Or.inl rfl)).trans (zFr_P (Or.inl rfl))).trans (f1.mono (fun k q => Or.inr (Or.inl q)))
          have F2 : zFr (fun k => k = 40 + 2 * s ∨ k = 40 + 2 * s + 1 ∨ k = 1 ∨ k = 2 ∨ k = 3) S1 T1 := ((zFr_As (by omega)).trans (zFr_As (by omega))).trans (f2.mono (fun k q => by omega))
          have z1 : zsc S1 (40 + 2 * s) = zsc (zP (zP S (40 + 2 * s) 1 (nI (100 + t))) (40 + 2 * s) 2 (nI n)) (40 + 2 * s) := f1.sc (by omega)
          have z2 : zsc T1 (40 + 2 * s) = zsc S1 (40 + 2 * s) := f2.sc (by omega)
          have z3 : zar T1 1 = zar (zAs (zAs S1 1 s (nI (100 + t))) 2 s (nI n)) 1 := f2.ar (by omega)
          have z4 : zar T1 2 = zar (zAs (zAs S1 1 s (nI (100 + t))) 2 s (nI n)) 2 := f2.ar (by omega)
          have z5 : zlo T1 (40 + 2 * s + 1) = zlo S1 (40 + 2 * s + 1) := f2.lo (by omega)
          have z6 : zlo S1 3 = zlo S 3 := f1.lo (by omega)
          have h1 : zar T1 1 s = nI (100 + t) := by rw [z3, as_n (by decide), as_y, pk_us]
          refine ⟨nI 1, S1, T1, by simp (disch := omega) only [↓ob_some, ↓zm_some, ↓zm_none, ↓zg_true, ↓zg_in, ↓(ob_of a1), ↓(zg_of c1), tr, reduceIte, li, lo, k_leT, k_leF, k_ltT, k_ltF, k_eqT, k_eqF, c_cl, c_sub, nI_add, pk_mul, zin_nI, zg_true, ob_some, zm_none, zm_some, if_true, if_false, Bool.false_eq_true, d_t, d_f, ob_eta, ob_eta1, m_ltn, m_nlt, m_nle, m_len, m_ne, m_ne', k_mltT, k_mltF, k_mleT, k_mleF, k_meqT, k_meqF, m_neg], by simp (disch := omega) only [↓ob_some, ↓zm_some, ↓zm_none, ↓zg_true, ↓zg_in, ↓(ob_of (b1 S1)), ↓(ob_of (w S1)), e2, reduceIte, li, lo, k_leT, k_leF, k_ltT, k_ltF, k_eqT, k_eqF, c_cl, c_sub, nI_add, pk_mul, zin_nI, zg_true, ob_some, zm_none, zm_some, if_true, if_false, Bool.false_eq_true, d_t, d_f, ob_eta, ob_eta1, m_ltn, m_nlt, m_nle, m_len, m_ne, m_ne', k_mltT, k_mltF, k_mleT, k_mleF, k_meqT, k_meqF, m_neg], d, h.she hs (F1.trans F2) n2 ?_ ?_ ?_ (fun j hj => ?_) (Or.inr (Or.inr ⟨t, ht, h1⟩)) (fun j hj => ?_) (fun j hj => ?_) (fun s' j hs' hj => ?_)⟩
          · rw [h1, z2, z1, p_y, if_neg (by decide), p_y, if_pos rfl]
          · rw [z2, z1, p_y, if_pos rfl]
          · rw [z4, as_y, pk_us]
          · rw [z5, g1 j hj, g2, if_pos (by omega)]
          · rw [z3, as_n (by decide), as_y, pk_un hj, (f1.ar (by omega) : zar S1 1 = _)]; rfl
          · rw [z4, as_y, pk_un hj, as_n (by decide), (f1.ar (by omega) : zar S1 2 = _)]; rfl
          · rw [g2, if_neg (by omega), as_l, as_l, z6]
        · exact st_no h 7 (by decide) (by decide) (by simp (disch := omega) only [↓ob_some, ↓zm_some, ↓zm_none, ↓zg_true, ↓zg_in, ↓(ob_of a1), ↓(zg_of c1), reduceIte, li, lo, k_leT, k_leF, k_ltT, k_ltF, k_eqT, k_eqF, c_cl, c_sub, nI_add, pk_mul, zin_nI, zg_true, ob_some, zm_none, zm_some, if_true, if_false, Bool.false_eq_true, d_t, d_f, ob_eta, ob_eta1, m_ltn, m_nlt, m_nle, m_len, m_ne, m_ne', k_mltT, k_mltF, k_mleT, k_mleF, k_meqT, k_meqF, m_neg]) (by simp (disch := omega) only [↓ob_some, ↓zm_some, ↓zm_none, ↓zg_true, ↓zg_in, ↓(ob_of (b1 (zR1 S 7))), ↓(ob_of (w (zR1 S 7))), reduceIte, li, lo, k_leT, k_leF, k_ltT, k_ltF, k_eqT, k_eqF, c_cl, c_sub, nI_add, pk_mul, zin_nI, zg_true, ob_some, zm_none, zm_some, if_true, if_false, Bool.false_eq_true, d_t, d_f, ob_eta, ob_eta1, m_ltn, m_nlt, m_nle, m_len, m_ne, m_ne', k_mltT, k_mltF, k_mleT, k_mleF, k_meqT, k_meqF, m_neg])
/-- no row: the first refusal of many calls -/
theorem cRow (h : Inv pk S d) (x : Int32) : ((M_X11_shelfAt pk S x = some none) ∧ (∀ T, zar T 1 = zar S 1 → M_X12_noRow T x = some (-nI 1))) ∨ (∃ s c, s < 8 ∧ (c = 2 ∨ c = 3) ∧ x = nI s ∧ M_X11_shelfAt pk S x = some (some s) ∧ decide (s < 8) = true ∧ M_X7_hasRow pk S s = some (nI 0) ∧ M_X11_lackOfRow pk S (some s) = some (-nI c) ∧ (∀ T, zar T 1 = zar S 1 → M_X12_noRow T x = some (-nI c))) ∨ ∃ s m t, s < 8 ∧ m ≤ 160 ∧ t < 4 ∧ x = nI s ∧ M_X11_shelfAt pk S x = some (some s) ∧ decide (s < 8) = true ∧ M_X7_hasRow pk S s = some (nI 1) ∧ (∀ T, zar T 1 = zar S 1 → M_X12_noRow T x = some (nI 0)) ∧ zsc S (40 + 2 * s) 1 = nI (100 + t) ∧ zar S 1 s = nI (100 + t) ∧ zsc S (40 + 2 * s) 2 = nI m ∧ zar S 2 s = nI m ∧ (∀ j, j < 160 → zlo S (40 + 2 * s + 1) j = zlo S 3 (160 * s + j)) := by
  rcases cShelf pk S x with ⟨a1, b1⟩ | ⟨s, hs, rfl, a1, b1, c1⟩
  · refine Or.inl ⟨a1, fun T hT => ?_⟩
    unfold M_X12_noRow
    simp (disch := omega) only [↓ob_some, ↓zm_some, ↓zm_none, ↓zg_true, ↓zg_in, ↓(ob_of (b1 T)), reduceIte, li, lo, k_leT, k_leF, k_ltT, k_ltF, k_eqT, k_eqF, c_cl, c_sub, nI_add, pk_mul, zin_nI, zg_true, ob_some, zm_none, zm_some, if_true, if_false, Bool.false_eq_true, d_t, d_f, ob_eta, ob_eta1, m_ltn, m_nlt, m_nle, m_len, m_ne, m_ne', k_mltT, k_mltF, k_mleT, k_mleF, k_meqT, k_meqF, m_neg]
  · obtain ⟨m, hd, hm, e1, e2, e3, e4, e5, g⟩ := hSh h hs
    rcases g with rfl | ⟨p, hp, h6, rfl⟩ | ⟨t, ht, rfl⟩
    · refine Or.inr (Or.inl ⟨s, 3, hs, Or.inr rfl, rfl, a1, c1, by unfold M_X7_hasRow; simp (disch := omega) only [reduceIte, li, lo, k_leT, k_leF, k_ltT, k_ltF, k_eqT, k_eqF, c_cl, c_sub, nI_add, pk_mul, zin_nI, zg_true, ob_some, zm_none, zm_some, if_true, if_false, Bool.false_eq_true, d_t, d_f, ob_eta, ob_eta1, m_ltn, m_nlt, m_nle, m_len, m_ne, m_ne', k_mltT, k_mltF, k_mleT, k_mleF, k_meqT, k_meqF, m_neg, e1], by unfold M_X11_lackOfRow M_X7_hasPerson; simp (disch := omega) only [reduceIte, li, lo, k_leT, k_leF, k_ltT, k_ltF, k_eqT, k_eqF, c_cl, c_sub, nI_add, pk_mul, zin_nI, zg_true, ob_some, zm_none, zm_some, if_true, if_false, Bool.false_eq_true, d_t, d_f, ob_eta, ob_eta1, m_ltn, m_nlt, m_nle, m_len, m_ne, m_ne', k_mltT, k_mltF, k_mleT, k_mleF, k_meqT, k_meqF, m_neg, e1], fun T hT => ?_⟩)
      have eT : zar T 1 s = -nI 1 := by rw [hT]; exact e2
      unfold M_X12_noRow M_X12_noRow_B32
      simp (disch := omega) only [reduceIte, li, lo, k_leT, k_leF, k_ltT, k_ltF, k_eqT, k_eqF, c_cl, c_sub, nI_add, pk_mul, zin_nI, zg_true, ob_some, zm_none, zm_some, if_true, if_false, Bool.false_eq_true, d_t, d_f, ob_eta, ob_eta1, m_ltn, m_nlt, m_nle, m_len, m_ne, m_ne', k_mltT, k_mltF, k_mleT, k_mleF, k_meqT, k_meqF, m_neg, b1, eT]
    · refine Or.inr (Or.inl ⟨s, 2, hs, Or.inl rfl, rfl, a1, c1, by unfold M_X7_hasRow; simp (disch := omega) only [reduceIte, li, lo, k_leT, k_leF, k_ltT, k_ltF, k_eqT, k_eqF, c_cl, c_sub, nI_add, pk_mul, zin_nI, zg_true, ob_some, zm_none, zm_some, if_true, if_false, Bool.false_eq_true, d_t, d_f, ob_eta, ob_eta1, m_ltn, m_nlt, m_nle, m_len, m_ne, m_ne', k_mltT, k_mltF, k_mleT, k_mleF, k_meqT, k_meqF, m_neg, e1], by unfold M_X11_lackOfRow M_X7_hasPerson; simp (disch := omega) only [reduceIte, li, lo, k_leT, k_leF, k_ltT, k_ltF, k_eqT, k_eqF, c_cl, c_sub, nI_add, pk_mul, zin_nI, zg_true, ob_some, zm_none, zm_some, if_true, if_false, Bool.false_eq_true, d_t, d_f, ob_eta, ob_eta1, m_ltn, m_nlt, m_nle, m_len, m_ne, m_ne', k_mltT, k_mltF, k_mleT, k_mleF, k_meqT, k_meqF, m_neg, e1], fun T hT => ?_⟩)
      have eT : zar T 1 s = nI p := by rw [hT]; exact e2
      unfold M_X12_noRow M_X12_noRow_B32 M_X12_isRow
      simp (disch := omega) only [reduceIte, li, lo, k_leT, k_leF, k_ltT, k_ltF, k_eqT, k_eqF, c_cl, c_sub, nI_add, pk_mul, zin_nI, zg_true, ob_some, zm_none, zm_some, if_true, if_false, Bool.false_eq_true, d_t, d_f, ob_eta, ob_eta1, m_ltn, m_nlt, m_nle, m_len, m_ne, m_ne', k_mltT, k_mltF, k_mleT, k_mleF, k_meqT, k_meqF, m_neg, b1, eT]
    · refine Or.inr (Or.inr ⟨s, m, t, hs, hm, ht, rfl, a1, c1, by unfold M_X7_hasRow; simp (disch := omega) only [reduceIte, li, lo, k_leT, k_leF, k_ltT, k_ltF, k_eqT, k_eqF, c_cl, c_sub, nI_add, pk_mul, zin_nI, zg_true, ob_some, zm_none, zm_some, if_true, if_false, Bool.false_eq_true, d_t, d_f, ob_eta, ob_eta1, m_ltn, m_nlt, m_nle, m_len, m_ne, m_ne', k_mltT, k_mltF, k_mleT, k_mleF, k_meqT, k_meqF, m_neg, e1], fun T hT => ?_, e1, e2, e3, e4, e5⟩)
      have eT : zar T 1 s = nI (100 + t) := by rw [hT]; exact e2
      unfold M_X12_noRow M_X12_noRow_B32 M_X12_isRow
      simp (disch := omega) only [reduceIte, li, lo, k_leT, k_leF, k_ltT, k_ltF, k_eqT, k_eqF, c_cl, c_sub, nI_add, pk_mul, zin_nI, zg_true, ob_some, zm_none, zm_some, if_true, if_false, Bool.false_eq_true, d_t, d_f, ob_eta, ob_eta1, m_ltn, m_nlt, m_nle, m_len, m_ne, m_ne', k_mltT, k_mltF, k_mleT, k_mleF, k_meqT, k_meqF, m_neg, b1, eT]
def nar (t : Nat) (v : Int64) : Int64 := if t = 0 then Int32.toInt64 (Int8.toInt32 (Int32.toInt8 (Int64.toInt32 v))) else if t = 1 then Int32.toInt64 (Int16.toInt32 (Int32.toInt16 (Int64.toInt32 v))) else if t = 2 then Int32.toInt64 (Int64.toInt32 v) else v
theorem s_set (h : Inv pk S d) (x1 x2 : Int32) (x3 : Int64) : zStp pk (M_X11_set pk S x1 x2 x3) (fun T => M_X12_set T x1 x2 x3) := by
  unfold M_X11_set M_X12_set M_X11_set_B20
  have ra : ∀ c, zar (zR1 S c) 1 = zar S 1 := fun c => r1_a (by decide)
  rcases cRow h x1 with ⟨a1, b1⟩ | ⟨s, c, hs, hc, rfl, a1, c1, r0, l0, b1⟩ | ⟨s, m, t, hs, hm, ht, rfl, a1, c1, r0, b1, e1, e2, e3, e4, e5⟩
  · have l0 : M_X11_lackOfRow pk S none = some (-nI 1) := rfl
    exact st_no h 1 (by decide) (by decide) (by simp (disch := omega) only [↓ob_some, ↓zm_some, ↓zm_none, ↓zg_true, ↓zg_in, ↓(ob_of a1), ↓(ob_of l0), reduceIte, li, lo, k_leT, k_leF, k_ltT, k_ltF, k_eqT, k_eqF, c_cl, c_sub, nI_add, pk_mul, zin_nI, zg_true, ob_some, zm_none, zm_some, if_true, if_false, Bool.false_eq_true, d_t, d_f, ob_eta, ob_eta1, m_ltn, m_nlt, m_nle, m_len, m_ne, m_ne', k_mltT, k_mltF, k_mleT, k_mleF, k_meqT, k_meqF, m_neg]) (by simp (disch := omega) only [↓ob_some, ↓zm_some, ↓zm_none, ↓zg_true, ↓zg_in, ↓(ob_of (b1 (zR1 S 1) (ra 1))), reduceIte, li, lo, k_leT, k_leF, k_ltT, k_ltF, k_eqT, k_eqF, c_cl, c_sub, nI_add, pk_mul, zin_nI, zg_true, ob_some, zm_none, zm_some, if_true, if_false, Bool.false_eq_true, d_t, d_f, ob_eta, ob_eta1, m_ltn, m_nlt, m_nle, m_len, m_ne, m_ne', k_mltT, k_mltF, k_mleT, k_mleF, k_meqT, k_meqF, m_neg])
  · exact st_no h c (by omega) (by omega) (by simp (disch := omega) only [↓ob_some, ↓zm_some, ↓zm_none, ↓zg_true, ↓zg_in, ↓(ob_of a1), ↓(zg_of c1), ↓(ob_of r0), ↓(ob_of l0), reduceIte, li, lo, k_leT, k_leF, k_ltT, k_ltF, k_eqT, k_eqF, c_cl, c_sub, nI_add, pk_mul, zin_nI, zg_true, ob_some, zm_none, zm_some, if_true, if_false, Bool.false_eq_true, d_t, d_f, ob_eta, ob_eta1, m_ltn, m_nlt, m_nle, m_len, m_ne, m_ne', k_mltT, k_mltF, k_mleT, k_mleF, k_meqT, k_meqF, m_neg]) (by simp (disch := omega) only [↓ob_some, ↓zm_some, ↓zm_none, ↓zg_true, ↓zg_in, ↓(ob_of (b1 (zR1 S c) (ra c))), reduceIte, li, lo, k_leT, k_leF, k_ltT, k_ltF, k_eqT, k_eqF, c_cl, c_sub, nI_add, pk_mul, zin_nI, zg_true, ob_some, zm_none, zm_some, if_true, if_false, Bool.false_eq_true, d_t, d_f, ob_eta, ob_eta1, m_ltn, m_nlt, m_nle, m_len, m_ne, m_ne', k_mltT, k_mltF, k_mleT, k_mleF, k_meqT, k_meqF, m_neg])
  · rcases pk_ix x2 (n := m) (by omega) with q | q | ⟨j, hj, rfl⟩
    · have q : x2 < nI 0 := q
      have he : M_X7_hasElement pk S s x2 = some (nI 0) := by unfold M_X7_hasElement; simp (disch := omega) only [↓ob_some, ↓zm_some, ↓zm_none, ↓zg_true, ↓zg_in, ↓(ob_of r0), q, reduceIte, li, lo, k_leT, k_leF, k_ltT, k_ltF, k_eqT, k_eqF, c_cl, c_sub, nI_add, pk_mul, zin_nI, zg_true, ob_some, zm_none, zm_some, if_true, if_false, Bool.false_eq_true, d_t, d_f, ob_eta, ob_eta1, m_ltn, m_nlt, m_nle, m_len, m_ne, m_ne', k_mltT, k_mltF, k_mleT, k_mleF, k_meqT, k_meqF, m_neg]
      have e4' : zar (zR1 S 5) 2 s = nI m := (congrFun (r1_a (by decide)) s).trans e4
      have w := w_lenN (zR1 S 5) (show m < 1000 by omega) (Or.inl q)
      exact st_no h 5 (by decide) (by decide) (by simp (disch := omega) only [↓ob_some, ↓zm_some, ↓zm_none, ↓zg_true, ↓zg_in, ↓(ob_of a1), ↓(zg_of c1), ↓(ob_of r0), ↓(ob_of he), reduceIte, li, lo, k_leT, k_leF, k_ltT, k_ltF, k_eqT, k_eqF, c_cl, c_sub, nI_add, pk_mul, zin_nI, zg_true, ob_some, zm_none, zm_some, if_true, if_false, Bool.false_eq_true, d_t, d_f, ob_eta, ob_eta1, m_ltn, m_nlt, m_nle, m_len, m_ne, m_ne', k_mltT, k_mltF, k_mleT, k_mleF, k_meqT, k_meqF, m_neg]) (by simp (disch := omega) only [↓ob_some, ↓zm_some, ↓zm_none, ↓zg_true, ↓zg_in, ↓(ob_of (b1 (zR1 S 5) (ra 5))), e4', w, reduceIte, li, lo, k_leT, k_leF, k_ltT, k_ltF, k_eqT, k_eqF, c_cl, c_sub, nI_add, pk_mul, zin_nI, zg_true, ob_some, zm_none, zm_some, if_true, if_false, Bool.false_eq_true, d_t, d_f, ob_eta, ob_eta1, m_ltn, m_nlt, m_nle, m_len, m_ne, m_ne', k_mltT, k_mltF, k_mleT, k_mleF, k_meqT, k_meqF, m_neg])
    · have he : M_X7_hasElement pk S s x2 = some (nI 0) := by
        unfold M_X7_hasElement
        by_cases q2 : x2 < nI 0
        · simp (disch := omega) only [↓ob_some, ↓zm_some, ↓zm_none, ↓zg_true, ↓zg_in, ↓(ob_of r0), q2, reduceIte, li, lo, k_leT, k_leF, k_ltT, k_ltF, k_eqT, k_eqF, c_cl, c_sub, nI_add, pk_mul, zin_nI, zg_true, ob_some, zm_none, zm_some, if_true, if_false, Bool.false_eq_true, d_t, d_f, ob_eta, ob_eta1, m_ltn, m_nlt, m_nle, m_len, m_ne, m_ne', k_mltT, k_mltF, k_mleT, k_mleF, k_meqT, k_meqF, m_neg]
        · simp (disch := omega) only [↓ob_some, ↓zm_some, ↓zm_none, ↓zg_true, ↓zg_in, ↓(ob_of r0), q2, e3, q, reduceIte, li, lo, k_leT, k_leF, k_ltT, k_ltF, k_eqT, k_eqF, c_cl, c_sub, nI_add, pk_mul, zin_nI, zg_true, ob_some, zm_none, zm_some, if_true, if_false, Bool.false_eq_true, d_t, d_f, ob_eta, ob_eta1, m_ltn, m_nlt, m_nle, m_len, m_ne, m_ne', k_mltT, k_mltF, k_mleT, k_mleF, k_meqT, k_meqF, m_neg]
      have e4' : zar (zR1 S 5) 2 s = nI m := (congrFun (r1_a (by decide)) s).trans e4
      have w := w_lenN (zR1 S 5) (show m < 1000 by omega) (Or.inr q)
      exact st_no h 5 (by decide) (by decide) (by simp (disch := omega) only [↓ob_some, ↓zm_some, ↓zm_none, ↓zg_true, ↓zg_in, ↓(ob_of a1), ↓(zg_of c1), ↓(ob_of r0), ↓(ob_of he), reduceIte, li, lo, k_leT, k_leF, k_ltT, k_ltF, k_eqT, k_eqF, c_cl, c_sub, nI_add, pk_mul, zin_nI, zg_true, ob_some, zm_none, zm_some, if_true, if_false, Bool.false_eq_true, d_t, d_f, ob_eta, ob_eta1, m_ltn, m_nlt, m_nle, m_len, m_ne, m_ne', k_mltT, k_mltF, k_mleT, k_mleF, k_meqT, k_meqF, m_neg]) (by simp (disch := omega) only [↓ob_some, ↓zm_some, ↓zm_none, ↓zg_true, ↓zg_in, ↓(ob_of (b1 (zR1 S 5) (ra 5))), e4', w, reduceIte, li, lo, k_leT, k_leF, k_ltT, k_ltF, k_eqT, k_eqF, c_cl, c_sub, nI_add, pk_mul, zin_nI, zg_true, ob_some, zm_none, zm_some, if_true, if_false, Bool.false_eq_true, d_t, d_f, ob_eta, ob_eta1, m_ltn, m_nlt, m_nle, m_len, m_ne, m_ne', k_mltT, k_mltF, k_mleT, k_mleF, k_meqT, k_meqF, m_neg])
    · have he : M_X7_hasElement pk S s (nI j) = some (nI 1) := by unfold M_X7_hasElement; simp (disch := omega) only [↓ob_some, ↓zm_some, ↓zm_none, ↓zg_true, ↓zg_in, ↓(ob_of r0), e3, reduceIte, li, lo, k_leT, k_leF, k_ltT, k_ltF, k_eqT, k_eqF, c_cl, c_sub, nI_add, pk_mul, zin_nI, zg_true, ob_some, zm_none, zm_some, if_true, if_false, Bool.false_eq_true, d_t, d_f, ob_eta, ob_eta1, m_ltn, m_nlt, m_nle, m_len, m_ne, m_ne', k_mltT, k_mltF, k_mleT, k_mleF, k_meqT, k_meqF, m_neg]
      have hp : M_X7_put pk S s (nI j) x3 = some (zLs S (40 + 2 * s + 1) j (nar t x3)) := by
        unfold M_X7_put
        have ht : t = 0 ∨ t = 1 ∨ t = 2 ∨ t = 3 := by omega
        rcases ht with rfl | rfl | rfl | rfl <;> simp (disch := omega) only [reduceIte, li, lo, k_leT, k_leF, k_ltT, k_ltF, k_eqT, k_eqF, c_cl, c_sub, nI_add, pk_mul, zin_nI, zg_true, ob_some, zm_none, zm_some, if_true, if_false, Bool.false_eq_true, d_t, d_f, ob_eta, ob_eta1, m_ltn, m_nlt, m_nle, m_len, m_ne, m_ne', k_mltT, k_mltF, k_mleT, k_mleF, k_meqT, k_meqF, m_neg, he, e1] <;> rfl
      have hf : zFr (fun k => k = 40 + 2 * s ∨ k = 40 + 2 * s + 1 ∨ k = 1 ∨ k = 2 ∨ k = 3) S (zLs (zLs S (40 + 2 * s + 1) j (nar t x3)) 3 (160 * s + j) (nar t x3)) := (zFr_Ls (by omega)).trans (zFr_Ls (by omega))
      have w := fun T => w_n (a := 0) (b := m - 1) T (Nat.zero_le _) (show j ≤ m - 1 by omega) (by omega)
      have b2 := b1 (zLs S (40 + 2 * s + 1) j (nar t x3)) rfl
      refine ⟨nI 1, zLs S (40 + 2 * s + 1) j (nar t x3), zLs (zLs S (40 + 2 * s + 1) j (nar t x3)) 3 (160 * s + j) (nar t x3), by simp (disch := omega) only [↓ob_some, ↓zm_some, ↓zm_none, ↓zg_true, ↓zg_in, ↓(ob_of a1), ↓(zg_of c1), ↓(ob_of r0), ↓(ob_of he), ↓(ob_of hp), reduceIte, li, lo, k_leT, k_leF, k_ltT, k_ltF, k_eqT, k_eqF, c_cl, c_sub, nI_add, pk_mul, zin_nI, zg_true, ob_some, zm_none, zm_some, if_true, if_false, Bool.false_eq_true, d_t, d_f, ob_eta, ob_eta1, m_ltn, m_nlt, m_nle, m_len, m_ne, m_ne', k_mltT, k_mltF, k_mleT, k_mleF, k_meqT, k_meqF, m_neg], ?_, d, h.she hs hf hm ?_ ?_ ?_ (fun i hi => ?_) (Or.inr (Or.inr ⟨t, ht, e2⟩)) (fun j hj => rfl) (fun j hj => rfl) (fun s' i hs' hi => ?_)⟩
      · have ht : t = 0 ∨ t = 1 ∨ t = 2 ∨ t = 3 := by omega
        rcases ht with rfl | rfl | rfl | rfl
        · simp (disch := omega) only [reduceIte, li, lo, k_leT, k_leF, k_ltT, k_ltF, k_eqT, k_eqF, c_cl, c_sub, nI_add, pk_mul, zin_nI, zg_true, ob_some, zm_none, zm_some, if_true, if_false, Bool.false_eq_true, d_t, d_f, ob_eta, ob_eta1, m_ltn, m_nlt, m_nle, m_len, m_ne, m_ne', k_mltT, k_mltF, k_mleT, k_mleF, k_meqT, k_meqF, m_neg, b2, ls_a, e4, w, e2, M_X12_set_B102]
          rfl
        · simp (disch := omega) only [reduceIte, li, lo, k_leT, k_leF, k_ltT, k_ltF, k_eqT, k_eqF, c_cl, c_sub, nI_add, pk_mul, zin_nI, zg_true, ob_some, zm_none, zm_some, if_true, if_false, Bool.false_eq_true, d_t, d_f, ob_eta, ob_eta1, m_ltn, m_nlt, m_nle, m_len, m_ne, m_ne', k_mltT, k_mltF, k_mleT, k_mleF, k_meqT, k_meqF, m_neg, b2, ls_a, e4, w, e2, M_X12_set_B102]
          rfl
        · simp (disch := omega) only [reduceIte, li, lo, k_leT, k_leF, k_ltT, k_ltF, k_eqT, k_eqF, c_cl, c_sub, nI_add, pk_mul, zin_nI, zg_true, ob_some, zm_none, zm_some, if_true, if_false, Bool.false_eq_true, d_t, d_f, ob_eta, ob_eta1, m_ltn, m_nlt, m_nle, m_len, m_ne, m_ne', k_mltT, k_mltF, k_mleT, k_mleF, k_meqT, k_meqF, m_neg, b2, ls_a, e4, w, e2, M_X12_set_B102]
          rfl
        · simp (disch := omega) only [reduceIte, li, lo, k_leT, k_leF, k_ltT, k_ltF, k_eqT, k_eqF, c_cl, c_sub, nI_add, pk_mul, zin_nI, zg_true, ob_some, zm_none, zm_some, if_true, if_false, Bool.false_eq_true, d_t, d_f, ob_eta, ob_eta1, m_ltn, m_nlt, m_nle, m_len, m_ne, m_ne', k_mltT, k_mltF, k_mleT, k_mleF, k_meqT, k_meqF, m_neg, b2, ls_a, e4, w, e2, M_X12_set_B102]
          rfl
      · show zsc S (40 + 2 * s) 1 = zar S 1 s
        rw [e1, e2]
      · exact e3
      · exact e4
      · rw [ls_n (by omega), ls_y, ls_y]
        by_cases e : i = j
        · subst e; rw [pk_uLs, pk_uLs]
        · rw [pk_uLn e, pk_uLn (by omega), ls_n (by omega)]; exact e5 i hi
      · rw [ls_y, pk_uLn (by omega), ls_n (by omega)]
end ROW
