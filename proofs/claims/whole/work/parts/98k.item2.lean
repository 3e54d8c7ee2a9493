section IT2
variable {P : Nat → Prop} {pk : Nat → Nat} {S S' T T' : zSt} {i k k1 k2 f r L v g n p q : Nat} {a b a' b' a2 b2 : Int32} {tx : Nat → Int32} {d : zD}
/-- two numbers more, in the second and the third place -/
theorem p_two (hC : CT tx L S) (hT : TT r tx L T) (o : Ok S k) (h14 : zsc T 0 14 = nI k) (hk : k ≤ L) (a b a2 b2 : Int32) : ∃ S2, Option.bind (M_X6_readNumber pk S a b) (fun w5 => Option.bind (M_X6_readNumber pk ((zP w5.2 70 8 w5.1)) a2 b2) (fun w6 => some ((zP w6.2 70 9 w6.1)))) = some S2 ∧ WF S S2 ∧ zsc S2 70 6 = zsc S 70 6 ∧ zsc S2 70 7 = zsc S 70 7 ∧ ((∃ f T2, Bad S2 f ∧ TG T T2 ∧ zsc T2 0 14 = nI f ∧ ∀ G : Int32 × zSt → Option (Int32 × zSt), Option.bind (M_X12_number T (nI 1) a b) (fun w12 => (if w12.1 = nI 0 then some (nI 0, w12.2) else Option.bind (M_X12_number w12.2 (nI 2) a2 b2) (fun w14 => (if w14.1 = nI 0 then some (nI 0, w14.2) else G w14)))) = some (nI 0, T2)) ∨ (∃ v w k2 T2, v < 100 ∧ w < 100 ∧ ¬ nI v < a ∧ ¬ b < nI v ∧ ¬ nI w < a2 ∧ ¬ b2 < nI w ∧ k < k2 ∧ k2 ≤ L ∧ Ok S2 k2 ∧ zsc S2 70 8 = nI v ∧ zsc S2 70 9 = nI w ∧ TG T T2 ∧ zar T2 11 0 = zar T 11 0 ∧ zar T2 11 1 = nI v ∧ zar T2 11 2 = nI w ∧ zsc T2 0 14 = nI k2 ∧ ∀ G : Int32 × zSt → Option (Int32 × zSt), Option.bind (M_X12_number T (nI 1) a b) (fun w12 => (if w12.1 = nI 0 then some (nI 0, w12.2) else Option.bind (M_X12_number w12.2 (nI 2) a2 b2) (fun w14 => (if w14.1 = nI 0 then some (nI 0, w14.2) else G w14)))) = G (nI 1, T2))) := by
  obtain ⟨S1, T1, c1, f1, q⟩ := p_num (pk := pk) (i := 1) hC hT o h14 hk (by decide) a b
  have w1 : ∀ x, WF S (zP S1 70 8 x) := fun x => c1.w.trans (WF.zp (by decide))
  have s6 : ∀ x g, g = 6 ∨ g = 7 → zsc (zP S1 70 8 x) 70 g = zsc S 70 g := fun x g hg => by
    rw [p_y, if_neg (by omega)]; exact c1.2 g (by omega) (by omega) (by omega)
  rcases q with ⟨f, y1, y2, y3, y4⟩ | ⟨v, k2, v1, v2, v3, v4, v5, y1, y2, y3, y4, y5, y6⟩
  · have nb := nb_bad (pk := pk) (y2.zp (v := -nI 1) (g := 8) (by decide)) a2 b2
    refine ⟨zP (zP S1 70 8 (-nI 1)) 70 9 (-nI 1), ?_, (w1 _).trans (WF.zp (by decide)), by rw [p_y, if_neg (by decide)]; exact s6 _ 6 (Or.inl rfl), by rw [p_y, if_neg (by decide)]; exact s6 _ 7 (Or.inr rfl), Or.inl ⟨f, T1, (y2.zp (by decide)).zp (by decide), f1.tg, y4, fun G => ?_⟩⟩
    · rw [y1, ob_some, nb, ob_some]
    · rw [y3, ob_some]
      exact if_pos rfl
  · obtain ⟨S2, T2, c2, f2, q⟩ := p_num (pk := pk) (i := 2) ((w1 (nI v)).ct hC) (f1.tt hT) (y2.zp (v := nI v) (g := 8) (by decide)) y5 v3 (by decide) a2 b2
    have w2 : WF S S2 := (w1 _).trans c2.w
    have t6 : ∀ x g, g = 6 ∨ g = 7 → zsc (zP S2 70 9 x) 70 g = zsc S 70 g := fun x g hg => by
      rw [p_y, if_neg (by omega), c2.2 g (by omega) (by omega) (by omega)]; exact s6 _ g hg
    rcases q with ⟨f, x1, x2, x3, x4⟩ | ⟨w, k3, u1, u2, u3, u4, u5, x1, x2, x3, x4, x5, x6⟩
    · refine ⟨zP S2 70 9 (-nI 1), ?_, w2.trans (WF.zp (by decide)), t6 _ 6 (Or.inl rfl), t6 _ 7 (Or.inr rfl), Or.inl ⟨f, T2, x2.zp (by decide), f1.tg.trans f2.tg, x4, fun G => ?_⟩⟩
      · rw [y1, ob_some, x1, ob_some]
      · rw [y4, ob_some]
        refine (if_neg (show ¬ nI 1 = nI 0 by decide)).trans ?_
        rw [x3, ob_some]
        exact if_pos rfl
    · refine ⟨zP S2 70 9 (nI w), ?_, w2.trans (WF.zp (by decide)), t6 _ 6 (Or.inl rfl), t6 _ 7 (Or.inr rfl), Or.inr ⟨v, w, k3, T2, v1, u1, v4, v5, u4, u5, by omega, u3, x2.zp (by decide), ?_, by rw [p_y, if_pos rfl], f1.tg.trans f2.tg, ?_, ?_, x6, x5, fun G => ?_⟩⟩
      · rw [y1, ob_some, x1, ob_some]
      · rw [p_y, if_neg (by decide), c2.2 8 (by decide) (by decide) (by decide), p_y, if_pos rfl]
      · rw [f2.2.2 0 (by decide) (by decide), f1.2.2 0 (by decide) (by decide)]
      · rw [f2.2.2 1 (by decide) (by decide), y6]
      · rw [y4, ob_some]
        refine (if_neg (show ¬ nI 1 = nI 0 by decide)).trans ?_
        rw [x4, ob_some]
        exact if_neg (show ¬ nI 1 = nI 0 by decide)
theorem two_bad (h : Bad S f) (a b a2 b2 : Int32) : Option.bind (M_X6_readNumber pk S a b) (fun w5 => Option.bind (M_X6_readNumber pk ((zP w5.2 70 8 w5.1)) a2 b2) (fun w6 => some ((zP w6.2 70 9 w6.1)))) = some (zP (zP S 70 8 (-nI 1)) 70 9 (-nI 1)) := by
  rw [nb_bad h, ob_some, nb_bad (h.zp (v := -nI 1) (g := 8) (by decide)), ob_some]
theorem lt8 (hv : v < 100) (h : ¬ nI n < nI v) (hn : n < 100) : v < n + 1 := by
  rw [c_lt (by omega) (by omega)] at h; omega
/-! pressing -/
theorem p_press (hl : LL 1 pk S d) (hr : RR T d) (K : KK d) (P0 : PK pk S) (hC : CT tx L S) (hT : TT r tx L T) (hk : k ≤ L) {T0 : zSt} {rw : Option (Int32 × zSt)} (g0 : TG T T0) (hT0 : TT r tx L T0) (hw : ∃ S1 T1, M_X6_readWord pk (zP S 70 6 (nI 1)) 1 = some S1 ∧ CF (zP S 70 6 (nI 1)) S1 ∧ TF 3 T0 T1 ∧ ((Ok S1 (k + 5) ∧ k + 5 ≤ L ∧ zsc T1 0 14 = nI (k + 5) ∧ rw = some (nI 1, T1)) ∨ (∃ f, Bad S1 f ∧ zsc T1 0 14 = nI f ∧ rw = some (nI 0, T1)))) : ItO pk S T k L (M_X6_readPress pk S) (Option.bind rw (fun w3 => (if w3.1 = nI 0 then some (nI 0, w3.2) else Option.bind (M_X12_number w3.2 (nI 0) (nI 0) (((zsc w3.2 0 3) - nI 1))) (fun w5 => (if w5.1 = nI 0 then some (nI 0, w5.2) else zg (zin (nI 0) 3) (zg (zin ((zar w5.2 11 (Int32.toNatClampNeg (nI 0)))) 6) ((if nI 6 ≤ (zar w5.2 7 (Int32.toNatClampNeg ((zar w5.2 11 (Int32.toNatClampNeg (nI 0)))))) then M_X12_pressed_B168 w5.2 (nI 0) (((zsc w3.2 0 14) + nI 1)) else M_X12_pressed_B168 w5.2 (nI 1) (((zsc w3.2 0 14) + nI 1)))))))))) := by
  have hn6 := K.1
  have hL := hC.2.1
  obtain ⟨S2, x, ou, hF, w2, s6, q⟩ := p_head (kd := 1) (t := 1) (k1 := k + 5) hl (g0.rr hr) K hC hT0 hw
  have ed : M_X6_readPress pk S = (fun (w2 : Int32 × zSt) (w3 : Int32) => (if w3 < nI 6 then M_X6_readPress_B50 pk ((zP w2.2 70 7 w2.1)) else Option.bind (M_X6_faultAt pk ((zP w2.2 70 7 w2.1)) ((zsc ((zP w2.2 70 7 w2.1)) 70 5))) (fun w7 => M_X6_readPress_B50 pk w7))) (x, S2) ou := hF (fun (w2 : Int32 × zSt) (w3 : Int32) => (if w3 < nI 6 then M_X6_readPress_B50 pk ((zP w2.2 70 7 w2.1)) else Option.bind (M_X6_faultAt pk ((zP w2.2 70 7 w2.1)) ((zsc ((zP w2.2 70 7 w2.1)) 70 5))) (fun w7 => M_X6_readPress_B50 pk w7)))
  have w3 : WF S (zP S2 70 7 x) := w2.trans (WF.zp (by decide))
  rcases q with ⟨f, T1, b1, rfl, rfl, g1, z1, hG⟩ | ⟨v, k2, T1, T2, rfl, rfl, vn, o2, k12, k2L, n5, g2, z1, z2, a0, hG⟩
  · have b2 := b1.zp (v := -nI 1) (g := 7) (by decide)
    refine Or.inl ((g0.trans g1).bo (S1 := zP (zP (zP S2 70 7 (-nI 1)) 70 8 (-nI 1)) 70 9 (-nI 1)) ?_ ((w3.trans (WF.zp (by decide))).trans (WF.zp (by decide))) ((b2.zp (by decide)).zp (by decide)) (hG _) z1)
    rw [ed]
    refine (if_neg (by decide)).trans ?_
    rw [fa_bad b2, ob_some]
    exact two_bad b2 _ _ _ _
  · have rp := ((g0.trans g2).rr hr).pe vn
    have kp := K.pe vn
    have ro := rp.ou
    have ko := kp.2.1
    rw [hG]
    by_cases e : dou d v < 6
    · obtain ⟨S4, e4, w4, t6, t7, q⟩ := p_two (pk := pk) (w3.ct hC) (T := T2) (⟨(g2.2 13 (by decide)).trans hT0.1, hT0.2.1, by rw [g2.1.ar (by omega)]; exact hT0.2.2.1, hT0.2.2.2.1, by rw [g2.1.lo (by omega)]; exact hT0.2.2.2.2⟩ : TT r tx L T2) (o2.zp (v := nI v) (g := 7) (by decide)) z2 k2L (nI 0) (nI 7) (nI 1) (nI 99)
      have er : M_X6_readPress pk S = some S4 := by
        rw [ed]
        exact (if_pos (by rw [c_lt (by omega) (by decide)]; exact e)).trans e4
      have w5 : WF S S4 := w3.trans w4
      rcases q with ⟨f, T3, b3, g3, z3, hG3⟩ | ⟨x, fo, k3, T3, x1, x2, x3, x4, x5, x6, k23, k3L, o3, s8, s9, g3, a1, a2, a3, z3, hG3⟩
      · refine Or.inl (((g0.trans g2).trans g3).bo er w5 b3 ?_ z3)
        dsimp only
        simp (disch := omega) only [reduceIte, li, lo, k_leT, k_leF, k_ltT, k_ltF, k_eqT, k_eqF, c_cl, c_sub, nI_add, pk_mul, zin_nI, zg_true, ob_some, zm_none, zm_some, if_true, if_false, Bool.false_eq_true, d_t, d_f, ob_eta, ob_eta1, m_ltn, m_nlt, m_nle, m_len, m_ne, m_ne', k_mltT, k_mltF, k_mleT, k_mleF, k_meqT, k_meqF, m_neg, a0, ro]
        unfold M_X12_pressed_B168
        rw [st_1, ob_some]
        refine (if_neg (show ¬ nI 1 = nI 0 by decide)).trans ?_
        exact hG3 _
      · have x8 : x < 8 := lt8 x1 x4 (by decide)
        have l4 := w5.ll hn6 hl
        obtain ⟨p1, ok⟩ := tl_per l4 K vn
        obtain ⟨S6, e6, l6, f6, p6⟩ := l_press l4 K (w5.pkk P0) vn x8 (f := nI fo) (not_lt0 (by omega))
        have g03 := (g0.trans g2).trans g3
        obtain ⟨T6, e7, r7, f7⟩ := r_press (g03.rr hr) K vn x8 (nI fo)
        have ak := press_alk (d := d) (p := v) x8 (nI fo) ko
        have s61 : zsc S4 70 6 = nI 1 := by rw [t6, p_y, if_neg (by decide)]; exact s6
        have s71 : zsc S4 70 7 = nI v := by rw [t7, p_y, if_pos rfl]
        have tl : M_X6_tellItem pk S4 = some (pk, S6) := by
          unfold M_X6_tellItem
          rw [s61, s71, s8, s9]
          simp (disch := omega) only [↓ob_some, ↓zm_some, ↓zm_none, ↓zg_true, ↓zg_in, ↓(ob_of p1), ↓(zg_of ok), ↓(ob_of e6), reduceIte, li, lo, k_leT, k_leF, k_ltT, k_ltF, k_eqT, k_eqF, c_cl, c_sub, nI_add, pk_mul, zin_nI, zg_true, ob_some, zm_none, zm_some, if_true, if_false, Bool.false_eq_true, d_t, d_f, ob_eta, ob_eta1, m_ltn, m_nlt, m_nle, m_len, m_ne, m_ne', k_mltT, k_mltF, k_mleT, k_mleF, k_meqT, k_meqF, m_neg]
        refine Or.inr ⟨k3, (sPress d v x (nI fo)).1, pk, S4, S6, T6, er, w5, o3, by omega, k3L, tl, l6, r7, ak.kk K, p6, f6.mono (fun k e => Or.inr e), fun _ _ => rfl, ?_, ?_, (g03.1.mono (fun k e => by unfold zRd; omega)).trans (f7.mono (fun k e => by unfold zQ9 at e; unfold zRd; omega)), fun g q1 q2 q3 => by rw [f7.sc (by unfold zQ9; omega)]; exact g03.2 g q3, nd_le hr hn6 (Nat.le_of_eq ak.1.symm)⟩
        · dsimp only
          simp (disch := omega) only [reduceIte, li, lo, k_leT, k_leF, k_ltT, k_ltF, k_eqT, k_eqF, c_cl, c_sub, nI_add, pk_mul, zin_nI, zg_true, ob_some, zm_none, zm_some, if_true, if_false, Bool.false_eq_true, d_t, d_f, ob_eta, ob_eta1, m_ltn, m_nlt, m_nle, m_len, m_ne, m_ne', k_mltT, k_mltF, k_mleT, k_mleF, k_meqT, k_meqF, m_neg, a0, ro]
          unfold M_X12_pressed_B168
          rw [st_1, ob_some]
          refine (if_neg (show ¬ nI 1 = nI 0 by decide)).trans ?_
          refine (hG3 _).trans ?_
          have a10 : zar T3 11 0 = nI v := a1.trans a0
          simp (disch := omega) only [↓ob_some, ↓zm_some, ↓zm_none, ↓zg_true, ↓zg_in, a10, a2, a3, ↓(ob_of e7), reduceIte, li, lo, k_leT, k_leF, k_ltT, k_ltF, k_eqT, k_eqF, c_cl, c_sub, nI_add, pk_mul, zin_nI, zg_true, ob_some, zm_none, zm_some, if_true, if_false, Bool.false_eq_true, d_t, d_f, ob_eta, ob_eta1, m_ltn, m_nlt, m_nle, m_len, m_ne, m_ne', k_mltT, k_mltF, k_mleT, k_mleF, k_meqT, k_meqF, m_neg]
        · rw [f7.sc (by unfold zQ9; omega)]; exact z3
    · have b2 : Bad (zP (zP S2 70 7 (nI v)) 70 4 (nI (k + 5 + 1))) (k + 5 + 1) := ⟨by rw [p_y, if_pos rfl], by omega⟩
      refine Or.inl (((g0.trans g2).trans TG.zp).bo (T' := zP T2 0 14 (nI (k + 5 + 1))) (S1 := zP (zP (zP (zP S2 70 7 (nI v)) 70 4 (nI (k + 5 + 1))) 70 8 (-nI 1)) 70 9 (-nI 1)) ?_ (((w3.trans (WF.zp (by decide))).trans (WF.zp (by decide))).trans (WF.zp (by decide))) ((b2.zp (by decide)).zp (by decide)) ?_ (by rw [p_y, if_pos rfl]))
      · rw [ed]
        refine (if_neg (by rw [c_lt (by omega) (by decide)]; exact e)).trans ?_
        rw [fa_ok (o2.zp (by decide)).2, p_y, if_neg (by decide), n5, ob_some]
        exact two_bad b2 _ _ _ _
      · dsimp only
        simp (disch := omega) only [reduceIte, li, lo, k_leT, k_leF, k_ltT, k_ltF, k_eqT, k_eqF, c_cl, c_sub, nI_add, pk_mul, zin_nI, zg_true, ob_some, zm_none, zm_some, if_true, if_false, Bool.false_eq_true, d_t, d_f, ob_eta, ob_eta1, m_ltn, m_nlt, m_nle, m_len, m_ne, m_ne', k_mltT, k_mltF, k_mleT, k_mleF, k_meqT, k_meqF, m_neg, a0, ro, z1]
        unfold M_X12_pressed_B168
        rw [st_0, ob_some]
        exact if_pos rfl
end IT2
