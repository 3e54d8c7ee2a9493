section IT4
variable {P : Nat → Prop} {pk : Nat → Nat} {S S' T T' : zSt} {i k k1 k2 f r L v g n p q : Nat} {a b a' b' a2 b2 : Int32} {tx : Nat → Int32} {d : zD}
/-! a person -/
def pBad (S : zSt) : zSt := zP (zP (zP S 70 7 (-nI 1)) 70 8 (-nI 1)) 70 9 (-nI 1)
theorem pBad_w : WF S (pBad S) := ((WF.zp (by decide)).trans (WF.zp (by decide))).trans (WF.zp (by decide))
theorem pBad_b (h : Bad S f) : Bad (pBad S) f := ((h.zp (by decide)).zp (by decide)).zp (by decide)
theorem b31_bad (h : Bad S f) : M_X6_readPerson_B31 pk S = some (pBad S) := by
  unfold M_X6_readPerson_B31
  rw [show (0 : Int32) = nI 0 from rfl, nb_bad h, ob_some]
  exact two_bad (h.zp (v := -nI 1) (g := 7) (by decide)) _ _ _ _
theorem l_room (h : LL 1 pk S d) (hn : dn d ≤ 6) : M_X4_hasRoom pk S 1 = some (if dn d < 6 then nI 1 else nI 0) := by
  have e : zsc S (60 + 3 * 1) 3 = nI (dn d) := h.1
  unfold M_X4_hasRoom
  rw [e]
  by_cases q : dn d < 6
  · rw [if_pos q]; exact if_neg (nI_ge q (by decide))
  · rw [if_neg q]; exact if_pos (show nI 6 ≤ nI (dn d) from nI_le (by omega) (by omega))
theorem person_wb (hl : LL 1 pk S d) (hn : dn d ≤ 6) {S1 : zSt} (e1 : M_X6_readWord pk (zP S 70 6 (nI 0)) 0 = some S1) (w : WF S S1) (h : Bad S1 f) : M_X6_readPerson pk S = some (pBad S1) := by
  unfold M_X6_readPerson
  rw [show (0 : Int32) = nI 0 from rfl, e1, ob_some, l_room (w.ll hn hl) hn, ob_some]
  by_cases q : dn d < 6
  · rw [if_pos q]; exact (if_neg (show ¬ nI 1 = nI 0 by decide)).trans (b31_bad h)
  · rw [if_neg q]
    refine (if_pos rfl).trans ?_
    rw [fa_bad h, ob_some]
    exact b31_bad h
theorem wo_0 {T1 : zSt} {y : Int32} (e : M_X12_word T 0 = some (nI 0, T1)) : M_X12_word_ T 0 y = some (nI 0, T1) := by
  unfold M_X12_word_ M_X12_word__B26
  rw [e, ob_some]
  refine (if_pos rfl).trans ?_
  exact if_pos rfl
theorem wo_1 {T1 : zSt} (e : M_X12_word T 0 = some (nI 1, T1)) : M_X12_word_ T 0 (nI 1) = some (nI 1, T1) := by
  unfold M_X12_word_ M_X12_word__B26
  rw [e, ob_some]
  rfl
theorem wo_2 {T1 : zSt} (e : M_X12_word T 0 = some (nI 1, T1)) : M_X12_word_ T 0 (nI 0) = some (nI 0, zP T1 0 14 (zsc T 0 14)) := by
  unfold M_X12_word_ M_X12_word__B26
  rw [e, ob_some]
  rfl
theorem p_person (hl : LL 1 pk S d) (hr : RR T d) (K : KK d) (P0 : PK pk S) (hC : CT tx L S) (hT : TT r tx L T) (o : Ok S k) (h14 : zsc T 0 14 = nI k) (hk : k ≤ L) : ItO pk S T k L (M_X6_readPerson pk S) (if nI 6 ≤ zsc T 0 3 then M_X12_pressed_B46 T (nI 0) else M_X12_pressed_B46 T (nI 1)) := by
  have hn6 := K.1
  have hL := hC.2.1
  have w0 : WF S (zP S 70 6 (nI 0)) := WF.zp (by decide)
  obtain ⟨S1, T1, e1, c1, f1, q⟩ := p_w (pk := pk) (t := 0) (by decide) (w0.ct hC) hT (o.zp (v := nI 0) (g := 6) (by decide)) h14 hk
  have w1 : WF S S1 := w0.trans c1.w
  have r3 : zsc T 0 3 = nI (dn d) := hr.1
  rcases q with ⟨o1, kl, z1, e2⟩ | ⟨f, b1, z1, e2⟩
  · have rm := l_room (w1.ll hn6 hl) hn6
    by_cases q : dn d < 6
    · rw [if_pos q] at rm
      have eC : M_X6_readPerson pk S = M_X6_readPerson_B31 pk S1 := by
        unfold M_X6_readPerson
        rw [show (0 : Int32) = nI 0 from rfl, e1, ob_some, rm, ob_some]
        exact if_neg (show ¬ nI 1 = nI 0 by decide)
      rw [r3, if_neg (nI_ge q (by decide)), eC]
      obtain ⟨S2, T2, c2, f2, g⟩ := p_num (pk := pk) (i := 0) (w1.ct hC) (f1.tt hT) o1 z1 kl (by decide) (nI 0) (nI 6)
      have g2 := f1.tg.trans f2.tg
      have w2 := w1.trans c2.w
      rcases g with ⟨f, y1, y2, y3, y4⟩ | ⟨v, k2, v1, v2, v3, v4, v5, y1, y2, y3, y4, y5, y6⟩
      · refine Or.inl (g2.bo (S1 := zP (zP (zP S2 70 7 (-nI 1)) 70 8 (-nI 1)) 70 9 (-nI 1)) ?_ (w2.trans pBad_w) (pBad_b y2) ?_ y4)
        · unfold M_X6_readPerson_B31
          refine (congrArg (fun x => Option.bind x _) y1).trans ?_
          rw [ob_some]
          exact two_bad (y2.zp (v := -nI 1) (g := 7) (by decide)) _ _ _ _
        · unfold M_X12_pressed_B46
          rw [wo_1 e2, ob_some]
          refine (if_neg (show ¬ nI 1 = nI 0 by decide)).trans ?_
          refine (congrArg (fun x => Option.bind x _) y3).trans ?_
          rw [ob_some]
          exact if_pos rfl
      · obtain ⟨S4, e4, w4, t6, t7, g⟩ := p_two (pk := pk) ((w2.trans (WF.zp (g := 7) (v := nI v) (by decide))).ct hC) (f2.tt (f1.tt hT)) (y2.zp (v := nI v) (g := 7) (by decide)) y5 v3 (nI 0) (nI 9) (nI 1) (nI 20)
        have w5 : WF S S4 := (w2.trans (WF.zp (g := 7) (v := nI v) (by decide))).trans w4
        have er : M_X6_readPerson_B31 pk S1 = some S4 := by
          unfold M_X6_readPerson_B31
          refine (congrArg (fun x => Option.bind x _) y1).trans ?_
          rw [ob_some]
          exact e4
        have eT : ∀ x : Option (Int32 × zSt), Option.bind (M_X12_number T2 (nI 1) (nI 0) (nI 9)) (fun w25 => (if w25.1 = nI 0 then some (nI 0, w25.2) else Option.bind (M_X12_number w25.2 (nI 2) (nI 1) (nI 20)) (fun w27 => (if w27.1 = nI 0 then some (nI 0, w27.2) else zg (zin (nI 0) 3) (zg (zin (nI 1) 3) (zg (zin (nI 2) 3) (Option.bind (M_X12_newPerson w27.2 ((zar w27.2 11 (Int32.toNatClampNeg (nI 0)))) ((zar w27.2 11 (Int32.toNatClampNeg (nI 1)))) ((zar w27.2 11 (Int32.toNatClampNeg (nI 2))))) (fun w32 => some (nI 1, w32.2))))))))) = x → M_X12_pressed_B46 T (nI 1) = x := fun x hx => by
          unfold M_X12_pressed_B46
          rw [wo_1 e2, ob_some]
          refine (if_neg (show ¬ nI 1 = nI 0 by decide)).trans ?_
          refine (congrArg (fun x => Option.bind x _) y4).trans ?_
          rw [ob_some]
          refine (if_neg (show ¬ nI 1 = nI 0 by decide)).trans ?_
          exact hx
        rcases g with ⟨f, T3, b3, g3, z3, hG3⟩ | ⟨x, y, k3, T3, x1, u1, x3, x4, x5, x6, k23, k3L, o3, s8, s9, g3, a1, a2, a3, z3, hG3⟩
        · exact Or.inl ((g2.trans g3).bo er w5 b3 (eT _ (hG3 _)) z3)
        · have v7 : v < 7 := lt8 v1 v5 (by decide)
          have x10 : x ≤ 9 := by have := lt8 x1 x4 (by decide); omega
          have l5 := w5.ll hn6 hl
          obtain ⟨pk', S6, u1', u2, u3, u4, u5⟩ := l_add (i := 1) (k := v) (a := nI x) (t := nI y) l5 (w5.pkk P0) q (by decide) (by omega)
          have g03 := g2.trans g3
          obtain ⟨T6, e7, r7, f7, g7⟩ := r_new (k := v) (a := nI x) (t := nI y) (g03.rr hr) q
          have s61 : zsc S4 70 6 = nI 0 := by
            rw [t6, p_y, if_neg (by decide), c2.2 6 (by decide) (by decide) (by decide), c1.2 6 (by decide) (by decide) (by decide), p_y, if_pos rfl]
          have s71 : zsc S4 70 7 = nI v := by rw [t7, p_y, if_pos rfl]
          have z11 : decide (1 ≤ 1) = true := rfl
          have tl : M_X6_tellItem pk S4 = some (pk', S6) := by
            unfold M_X6_tellItem zlet3
            rw [s61, s71, s8, s9]
            by_cases e : v < dn d
            · obtain ⟨p1, ok⟩ := tl_per l5 K e
              simp (disch := omega) only [↓ob_some, ↓zm_some, ↓zm_none, ↓zg_true, ↓zg_in, ↓(ob_of p1), ↓(zg_of ok), ↓(zg_of z11), ↓(ob_of u1'), reduceIte, li, lo, k_leT, k_leF, k_ltT, k_ltF, k_eqT, k_eqF, c_cl, c_sub, nI_add, pk_mul, zin_nI, zg_true, ob_some, zm_none, zm_some, if_true, if_false, Bool.false_eq_true, d_t, d_f, ob_eta, ob_eta1, m_ltn, m_nlt, m_nle, m_len, m_ne, m_ne', k_mltT, k_mltF, k_mleT, k_mleF, k_meqT, k_meqF, m_neg]
            · have p1 := l_perN l5 (x := nI v) (Or.inr (nI_le (by omega) (by omega)))
              simp (disch := omega) only [↓ob_some, ↓zm_some, ↓zm_none, ↓zg_true, ↓zg_in, ↓(ob_of p1), ↓(zg_of z11), ↓(ob_of u1'), reduceIte, li, lo, k_leT, k_leF, k_ltT, k_ltF, k_eqT, k_eqF, c_cl, c_sub, nI_add, pk_mul, zin_nI, zg_true, ob_some, zm_none, zm_some, if_true, if_false, Bool.false_eq_true, d_t, d_f, ob_eta, ob_eta1, m_ltn, m_nlt, m_nle, m_len, m_ne, m_ne', k_mltT, k_mltF, k_mleT, k_mleF, k_meqT, k_meqF, m_neg]
          have a10 : zar T3 11 0 = nI v := a1.trans y6
          refine Or.inr ⟨k3, dAdd d v (nI x) (nI y), pk', S4, S6, T6, er, w5, o3, by omega, k3L, tl, u2, r7, K.add q (by omega) x10, u3, u4, u5, eT _ ((hG3 _).trans ?_), (g7 14 (by decide)).trans z3, (g03.1.mono (fun k e => by unfold zRd; omega)).trans (f7.mono (fun k e => by unfold zRd; omega)), fun g q1 q2 q3 => (g7 g q1).trans (g03.2 g q3), nd_le hr hn6 (Nat.le_succ _)⟩
          simp (disch := omega) only [↓ob_some, ↓zm_some, ↓zm_none, ↓zg_true, ↓zg_in, a10, a2, a3, ↓(ob_of e7), reduceIte, li, lo, k_leT, k_leF, k_ltT, k_ltF, k_eqT, k_eqF, c_cl, c_sub, nI_add, pk_mul, zin_nI, zg_true, ob_some, zm_none, zm_some, if_true, if_false, Bool.false_eq_true, d_t, d_f, ob_eta, ob_eta1, m_ltn, m_nlt, m_nle, m_len, m_ne, m_ne', k_mltT, k_mltF, k_mleT, k_mleF, k_meqT, k_meqF, m_neg]
    · rw [if_neg q] at rm
      have b2 : Bad (zP S1 70 4 (nI k)) k := ⟨by rw [p_y, if_pos rfl], by omega⟩
      have eC : M_X6_readPerson pk S = some (pBad (zP S1 70 4 (nI k))) := by
        unfold M_X6_readPerson
        rw [show (0 : Int32) = nI 0 from rfl, e1, ob_some, rm, ob_some]
        refine (if_pos rfl).trans ?_
        rw [fa_ok o1.2, o.1, ob_some]
        exact b31_bad b2
      rw [r3, if_pos (nI_le (by omega) (by omega))]
      refine Or.inl ((f1.tg.trans TG.zp).bo (T' := zP T1 0 14 (zsc T 0 14)) eC ((w1.trans (WF.zp (by decide))).trans pBad_w) (pBad_b b2) ?_ (by rw [p_y, if_pos rfl]; exact h14))
      unfold M_X12_pressed_B46
      rw [wo_2 e2, ob_some]
      exact if_pos rfl
  · refine Or.inl (f1.tg.bo (person_wb hl hn6 e1 w1 b1) (w1.trans pBad_w) (pBad_b b1) ?_ z1)
    have : ∀ y, M_X12_pressed_B46 T y = some (nI 0, T1) := fun y => by
      unfold M_X12_pressed_B46
      rw [wo_0 e2, ob_some]
      exact if_pos rfl
    rw [this, this, ite_self]
end IT4
