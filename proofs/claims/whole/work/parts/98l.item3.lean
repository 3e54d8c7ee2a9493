section IT3
variable {P : Nat → Prop} {pk : Nat → Nat} {S S' T T' : zSt} {i k k1 k2 f r L v g n p q : Nat} {a b a' b' a2 b2 : Int32} {tx : Nat → Int32} {d : zD}
theorem TG.tt (h : TG T T') (hc : TT r tx L T) : TT r tx L T' := ⟨(h.2 13 (by decide)).trans hc.1, hc.2.1, by rw [h.1.ar (by omega)]; exact hc.2.2.1, hc.2.2.2.1, by rw [h.1.lo (by omega)]; exact hc.2.2.2.2⟩
/-! rubbing out -/
theorem p_rub (hl : LL 1 pk S d) (hr : RR T d) (K : KK d) (P0 : PK pk S) (hC : CT tx L S) (hT : TT r tx L T) (o : Ok S k) (h14 : zsc T 0 14 = nI k) (hk : k ≤ L) : ItO pk S T k L (M_X6_readRub pk S) (Option.bind (M_X12_word T 2) (fun w25 => (if w25.1 = nI 0 then some (nI 0, w25.2) else Option.bind (M_X12_number w25.2 (nI 0) (nI 0) (((zsc w25.2 0 3) - nI 1))) (fun w27 => (if w27.1 = nI 0 then some (nI 0, w27.2) else Option.bind (M_X12_number w27.2 (nI 1) (nI 0) (nI 5)) (fun w29 => (if w29.1 = nI 0 then some (nI 0, w29.2) else zg (zin (nI 0) 3) (zg (zin (nI 1) 3) (Option.bind (M_X12_lives w29.2 ((zar w29.2 11 (Int32.toNatClampNeg (nI 0)))) ((zar w29.2 11 (Int32.toNatClampNeg (nI 1))))) (fun w33 => Option.bind (M_X12_stands w29.2 (((zsc w27.2 0 14) + nI 1)) w33) (fun w34 => (if w34.1 = nI 0 then some (nI 0, w34.2) else Option.bind (M_X12_number w34.2 (nI 2) (nI 0) (nI 7)) (fun w36 => (if w36.1 = nI 0 then some (nI 0, w36.2) else zg (zin (nI 0) 3) (zg (zin (nI 1) 3) (zg (zin (nI 2) 3) (Option.bind (M_X12_rubs w36.2 ((zar w36.2 11 (Int32.toNatClampNeg (nI 0)))) ((zar w36.2 11 (Int32.toNatClampNeg (nI 1)))) ((zar w36.2 11 (Int32.toNatClampNeg (nI 2))))) (fun w41 => some (nI 1, w41.2))))))))))))))))))) := by
  have hn6 := K.1
  have hL := hC.2.1
  have w0 : WF S (zP S 70 6 (nI 2)) := WF.zp (by decide)
  obtain ⟨S2, x, ou, hF, w2, s6, q⟩ := p_head (kd := 2) (t := 2) (k1 := k + wl 2) hl hr K hC hT (p_w (pk := pk) (t := 2) (by decide) (w0.ct hC) hT (o.zp (v := nI 2) (g := 6) (by decide)) h14 hk)
  have ed : M_X6_readRub pk S = (fun (w2 : Int32 × zSt) (w3 : Int32) => Option.bind (M_X6_readNumber pk ((zP w2.2 70 7 w2.1)) w3 (nI 5)) (fun w4 => Option.bind (M_X6_readNumber pk ((zP w4.2 70 8 w4.1)) (nI 0) (nI 7)) (fun w5 => some ((zP w5.2 70 9 w5.1))))) (x, S2) ou := hF (fun (w2 : Int32 × zSt) (w3 : Int32) => Option.bind (M_X6_readNumber pk ((zP w2.2 70 7 w2.1)) w3 (nI 5)) (fun w4 => Option.bind (M_X6_readNumber pk ((zP w4.2 70 8 w4.1)) (nI 0) (nI 7)) (fun w5 => some ((zP w5.2 70 9 w5.1)))))
  have w3 : WF S (zP S2 70 7 x) := w2.trans (WF.zp (by decide))
  rcases q with ⟨f, T1, b1, rfl, rfl, g1, z1, hG⟩ | ⟨v, k2, T1, T2, rfl, rfl, vn, o2, k12, k2L, n5, g2, z1, z2, a0, hG⟩
  · have b2 := b1.zp (v := -nI 1) (g := 7) (by decide)
    refine Or.inl (g1.bo (S1 := zP (zP (zP S2 70 7 (-nI 1)) 70 8 (-nI 1)) 70 9 (-nI 1)) ?_ ((w3.trans (WF.zp (by decide))).trans (WF.zp (by decide))) ((b2.zp (by decide)).zp (by decide)) (hG _) z1)
    rw [ed]
    exact two_bad b2 _ _ _ _
  · have rp := (g2.rr hr).pe vn
    have kp := K.pe vn
    have ro := rp.ou
    have ko := kp.2.1
    have o3 := o2.zp (v := nI v) (g := 7) (by decide)
    rw [hG]
    -- what a fault at the copy leaves
    have bad : ∀ (S4 : zSt) (f : Nat), WF (zP S2 70 7 (nI v)) S4 → Bad S4 f → M_X6_readNumber pk (zP S2 70 7 (nI v)) (nI (dou d v)) (nI 5) = some (-nI 1, S4) → M_X6_readRub pk S = some (zP (zP S4 70 8 (-nI 1)) 70 9 (-nI 1)) ∧ WF S (zP (zP S4 70 8 (-nI 1)) 70 9 (-nI 1)) ∧ Bad (zP (zP S4 70 8 (-nI 1)) 70 9 (-nI 1)) f := by
      intro S4 f w4 b4 e4
      refine ⟨?_, ((w3.trans w4).trans (WF.zp (by decide))).trans (WF.zp (by decide)), (b4.zp (by decide)).zp (by decide)⟩
      rw [ed]
      dsimp only
      rw [e4, ob_some, nb_bad (b4.zp (v := -nI 1) (g := 8) (by decide)), ob_some]
    rcases p_num0 (pk := pk) (i := 1) (w3.ct hC) (g2.tt hT) o3 z2 k2L (by decide) (nI (dou d v)) (nI 5) (nI 0) (nI 5) with ⟨f, S4, T4, e4, c4, b4, f4, e5, z4⟩ | ⟨c, k3, S4, T4, c100, k23, k3L, c4, o4, n4, f4, z4, e4, e5⟩
    · obtain ⟨x1, x2, x3⟩ := bad S4 f c4.w b4 e4
      refine Or.inl ((g2.trans f4.tg).bo x1 x2 x3 ?_ z4)
      dsimp only
      rw [e5, ob_some]
      exact if_pos rfl
    · obtain ⟨q1, q2⟩ := b77 (T := T4) (a := nI 0) (b := nI 5) (v := c) (i := 1) (by decide) z4 k23 (by omega)
      rcases b82 (pk := pk) (a := nI (dou d v)) (b := nI 5) n4 (by omega) c100 with ⟨x1, x2, x3⟩ | ⟨x1, x2, x3⟩
      · obtain ⟨y1, y2, y3⟩ := bad _ (k2 + 1) (c4.w.trans (WF.zp (g := 4) (v := nI (k2 + 1)) (by decide))) x3 (e4.trans x2)
        by_cases c5 : nI 5 < nI c
        · refine Or.inl (((g2.trans f4.tg).trans ((TF.as (i := 1) (v := nI c)).tg.trans TG.zp)).bo y1 y2 y3 ?_ (show zsc (zP (zAs T4 11 1 (nI c)) 0 14 (nI (k2 + 1))) 0 14 = nI (k2 + 1) by rw [p_y, if_pos rfl]))
          dsimp only
          rw [e5, q1 (Or.inr c5), ob_some]
          exact if_pos rfl
        · have cd : c < dou d v := by
            rcases x1 with h | h
            · rw [c_lt (by omega) (by omega)] at h; exact h
            · exact absurd h c5
          refine Or.inl (((g2.trans f4.tg).trans ((TF.as (i := 1) (v := nI c)).tg.trans TG.zp)).bo y1 y2 y3 ?_ (show zsc (zP (zAs T4 11 1 (nI c)) 0 14 (nI (k2 + 1))) 0 14 = nI (k2 + 1) by rw [p_y, if_pos rfl]))
          have a10 : zar (zAs T4 11 1 (nI c)) 11 0 = nI v := by rw [as_y, pk_un (by decide), f4.2.2 0 (by decide) (by decide)]; exact a0
          have a11 : zar (zAs T4 11 1 (nI c)) 11 1 = nI c := by rw [as_y, pk_us]
          have r7 : zar (zAs T4 11 1 (nI c)) 7 v = nI (dou d v) := by rw [as_n (by decide), f4.1.ar (by omega)]; exact ro
          have lv := r_lives (c := c) r7 (by omega) ko (by omega)
          rw [if_pos cd] at lv
          dsimp only
          rw [e5, q2 (not_lt0 (by omega)) c5, ob_some]
          refine (if_neg (show ¬ nI 1 = nI 0 by decide)).trans ?_
          rw [zg_in (by decide) (by decide), zg_in (by decide) (by decide), c_cl (by decide), c_cl (by decide), a10, a11, lv, ob_some, z2, show nI k2 + nI 1 = nI (k2 + 1) from nI_add k2 1, st_0, ob_some]
          exact if_pos rfl
      · have cd : dou d v ≤ c := by rw [c_lt (by omega) (by omega)] at x1; omega
        have c6 : c < 6 := lt8 c100 x2 (by decide)
        have f44 : TF 1 T4 (zAs T4 11 1 (nI c)) := TF.as
        have g4 : TG T (zAs T4 11 1 (nI c)) := (g2.trans f4.tg).trans f44.tg
        have w5 : WF S (zP S4 70 8 (nI c)) := (w3.trans c4.w).trans (WF.zp (by decide))
        have a10 : zar (zAs T4 11 1 (nI c)) 11 0 = nI v := by rw [as_y, pk_un (by decide), f4.2.2 0 (by decide) (by decide)]; exact a0
        have a11 : zar (zAs T4 11 1 (nI c)) 11 1 = nI c := by rw [as_y, pk_us]
        have r7 : zar (zAs T4 11 1 (nI c)) 7 v = nI (dou d v) := by rw [as_n (by decide), f4.1.ar (by omega)]; exact ro
        have lv := r_lives (c := c) r7 (by omega) ko c6
        rw [if_neg (by omega)] at lv
        have z5 : zsc (zAs T4 11 1 (nI c)) 0 14 = nI k3 := z4
        obtain ⟨S6, T6, c6', f6, q⟩ := p_num (pk := pk) (i := 2) (w5.ct hC) (g4.tt hT) (o4.zp (v := nI c) (g := 8) (by decide)) z5 k3L (by decide) (nI 0) (nI 7)
        have w6 : WF S S6 := w5.trans c6'.w
        have eS : ∀ y, M_X6_readNumber pk (zP S4 70 8 (nI c)) (nI 0) (nI 7) = some (y, S6) → M_X6_readRub pk S = some (zP S6 70 9 y) := fun y h => by
          rw [ed]
          dsimp only
          rw [e4, x3, ob_some, h, ob_some]
        have eT : ∀ (G : Int32 × zSt → Option (Int32 × zSt)), Option.bind (M_X12_number T2 (nI 1) (nI 0) (nI 5)) (fun w29 => (if w29.1 = nI 0 then some (nI 0, w29.2) else zg (zin (nI 0) 3) (zg (zin (nI 1) 3) (Option.bind (M_X12_lives w29.2 ((zar w29.2 11 (Int32.toNatClampNeg (nI 0)))) ((zar w29.2 11 (Int32.toNatClampNeg (nI 1))))) (fun w33 => Option.bind (M_X12_stands w29.2 (((zsc T2 0 14) + nI 1)) w33) (fun w34 => (if w34.1 = nI 0 then some (nI 0, w34.2) else Option.bind (M_X12_number w34.2 (nI 2) (nI 0) (nI 7)) (fun w36 => (if w36.1 = nI 0 then some (nI 0, w36.2) else G w36))))))))) = Option.bind (M_X12_number (zAs T4 11 1 (nI c)) (nI 2) (nI 0) (nI 7)) (fun w36 => (if w36.1 = nI 0 then some (nI 0, w36.2) else G w36)) := fun G => by
          rw [e5, q2 (not_lt0 (by omega)) x2, ob_some]
          refine (if_neg (show ¬ nI 1 = nI 0 by decide)).trans ?_
          rw [zg_in (by decide) (by decide), zg_in (by decide) (by decide), c_cl (by decide), c_cl (by decide), a10, a11, lv, ob_some, st_1, ob_some]
          exact if_neg (show ¬ nI 1 = nI 0 by decide)
        rcases q with ⟨f, y1, y2, y3, y4⟩ | ⟨x, k4, v1, v2, v3, v4, v5, y1, y2, y3, y4, y5, y6⟩
        · refine Or.inl ((g4.trans f6.tg).bo (eS _ y1) (w6.trans (WF.zp (by decide))) (y2.zp (by decide)) ?_ y4)
          refine (eT _).trans ?_
          rw [y3, ob_some]
          exact if_pos rfl
        · have x8 : x < 8 := lt8 v1 v5 (by decide)
          have g6 := g4.trans f6.tg
          have w7 : WF S (zP S6 70 9 (nI x)) := w6.trans (WF.zp (by decide))
          have l7 := w7.ll hn6 hl
          obtain ⟨p1, ok⟩ := tl_per l7 K vn
          obtain ⟨S8, e8, l8, f8, p8⟩ := l_rub l7 hn6 (w7.pkk P0) vn c6 x8
          obtain ⟨T8, e9, r9, f9⟩ := r_rub (g6.rr hr) hn6 vn c6 x8
          have ak := rub_alk (d := d) (p := v) c6 x8
          have s61 : zsc (zP S6 70 9 (nI x)) 70 6 = nI 2 := by
            rw [p_y, if_neg (by decide), c6'.2 6 (by decide) (by decide) (by decide), p_y, if_neg (by decide), c4.2 6 (by decide) (by decide) (by decide), p_y, if_neg (by decide)]; exact s6
          have s71 : zsc (zP S6 70 9 (nI x)) 70 7 = nI v := by
            rw [p_y, if_neg (by decide), c6'.2 7 (by decide) (by decide) (by decide), p_y, if_neg (by decide), c4.2 7 (by decide) (by decide) (by decide), p_y, if_pos rfl]
          have s81 : zsc (zP S6 70 9 (nI x)) 70 8 = nI c := by
            rw [p_y, if_neg (by decide), c6'.2 8 (by decide) (by decide) (by decide), p_y, if_pos rfl]
          have s91 : zsc (zP S6 70 9 (nI x)) 70 9 = nI x := by rw [p_y, if_pos rfl]
          have tl : M_X6_tellItem pk (zP S6 70 9 (nI x)) = some (pk, S8) := by
            unfold M_X6_tellItem
            rw [s61, s71, s81, s91]
            simp (disch := omega) only [↓ob_some, ↓zm_some, ↓zm_none, ↓zg_true, ↓zg_in, ↓(ob_of p1), ↓(zg_of ok), ↓(ob_of e8), reduceIte, li, lo, k_leT, k_leF, k_ltT, k_ltF, k_eqT, k_eqF, c_cl, c_sub, nI_add, pk_mul, zin_nI, zg_true, ob_some, zm_none, zm_some, if_true, if_false, Bool.false_eq_true, d_t, d_f, ob_eta, ob_eta1, m_ltn, m_nlt, m_nle, m_len, m_ne, m_ne', k_mltT, k_mltF, k_mleT, k_mleF, k_meqT, k_meqF, m_neg]
          have b10 : zar T6 11 0 = nI v := (f6.2.2 0 (by decide) (by decide)).trans a10
          have b11 : zar T6 11 1 = nI c := (f6.2.2 1 (by decide) (by decide)).trans a11
          refine Or.inr ⟨k4, sRub d v c x, pk, _, S8, T8, eS _ y1, w7, y2.zp (by decide), by omega, v3, tl, l8, r9, ak.kk K, p8, f8.mono (fun k e => Or.inr e.1), fun _ _ => rfl, ?_, ?_, (g6.1.mono (fun k e => by unfold zRd; omega)).trans (f9.mono (fun k e => by unfold zRd; omega)), fun g q1 q2 q3 => by rw [f9.sc (by omega)]; exact g6.2 g q3, nd_le hr hn6 (Nat.le_of_eq ak.1.symm)⟩
          · refine (eT _).trans ?_
            rw [y4, ob_some]
            refine (if_neg (show ¬ nI 1 = nI 0 by decide)).trans ?_
            simp (disch := omega) only [↓ob_some, ↓zm_some, ↓zm_none, ↓zg_true, ↓zg_in, b10, b11, y6, ↓(ob_of e9), reduceIte, li, lo, k_leT, k_leF, k_ltT, k_ltF, k_eqT, k_eqF, c_cl, c_sub, nI_add, pk_mul, zin_nI, zg_true, ob_some, zm_none, zm_some, if_true, if_false, Bool.false_eq_true, d_t, d_f, ob_eta, ob_eta1, m_ltn, m_nlt, m_nle, m_len, m_ne, m_ne', k_mltT, k_mltF, k_mleT, k_mleF, k_meqT, k_meqF, m_neg]
          · rw [f9.sc (by omega)]; exact y5
end IT3
