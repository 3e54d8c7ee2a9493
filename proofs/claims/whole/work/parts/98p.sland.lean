section SLA
variable {P Q : Nat → Prop} {pk pk' : Nat → Nat} {S S' T T' : zSt} {i k k1 k2 f r s L m v g n p q c : Nat} {a b a' b' a2 b2 x : Int32} {tx : Nat → Int32} {d d' : zD}
theorem zFr.pp (h : zFr P S T) : zFr P (zP S k g x) (zP T k g x) := by
  intro j hj
  obtain ⟨a, b, c⟩ := h j hj
  refine ⟨?_, b, c⟩
  funext e
  by_cases q : j = k
  · subst q; rw [p_y, p_y, a]
  · rw [p_n q, p_n q, a]
theorem zFr.pl (hk : P k) (h : zFr P S T) : zFr P (zP S k g x) T := by
  intro j hj
  obtain ⟨a, b, c⟩ := h j hj
  exact ⟨a.trans (p_n (fun (q : j = k) => hj (by rw [q]; exact hk))).symm, b, c⟩
theorem zFr.r1 (h : zFr P S T) (h22 : ¬ P 22) : zFr P (zR1 S c) (zR1 T c) := by
  intro j hj
  obtain ⟨a, b, e⟩ := h j hj
  refine ⟨a, ?_, e⟩
  unfold zR1
  rw [h.ar h22]
  by_cases q : j = 22
  · subst q; rw [as_y, as_y, b]
  · rw [as_n q, as_n q]; exact b
/-- another fault is kept -/
def zFa (S : zSt) (x : Int32) : zSt := zP (zP S 20 13 x) 0 15 x
theorem Inv.fl (h : Inv pk S d) (x : Int32) : Inv pk (zFa S x) d := by
  have f : zFr (fun k => k = 20 ∨ k = 0) S (zFa S x) := (zFr_P (Or.inl rfl)).trans (zFr_P (Or.inr rfl))
  have e0 : ∀ g, g ≠ 15 → zsc (zFa S x) 0 g = zsc S 0 g := fun g hg => by
    unfold zFa
    rw [p_y, if_neg hg, p_n (by decide)]
  have e1 : ∀ g, g ≠ 13 → zsc (zFa S x) 20 g = zsc S 20 g := fun g hg => by
    unfold zFa
    rw [p_n (by decide), p_y, if_neg hg]
  refine ⟨h.k, h.l.fr h.k.1 f (by omega) (fun k a b => by omega), h.r.fr f (e0 3 (by decide)) (e0 11 (by decide)) (e0 12 (by decide)) (fun k a b => by omega), h.pe.fr f (fun q _ => by omega), h.sh.fr f (by omega) (by omega) (by omega) (fun k a b => by omega), h.tr.fr f (e0 17 (by decide)) (by omega) (by omega) (by omega), h.rf.fr f (by omega) (by omega), ?_, h.im.fr f (e0 20 (by decide)) (e1 12 (by decide)) (by omega) (by omega) (fun k a b => by omega)⟩
  unfold zFa
  rw [p_y, if_pos rfl, p_n (by decide), p_y, if_pos rfl]
def zUq (k : Nat) : Prop := zUp k ∨ zZ 1 k
/-- the class: the text is copied -/
theorem l_copyT {t : Nat} (hs : s < 8) (hm : m ≤ 160) (ht : t < 4) (e1 : zsc S (40 + 2 * s) 1 = nI (100 + t)) (e2 : zsc S (40 + 2 * s) 2 = nI m) (h70 : zsc S 70 2 = nI m) : ∃ S', M_X6_readFrom_B16 s zF pk S 161 (nI 0) = M_X6_readFrom_B55 s zF pk (zP (zP S' 70 3 (nI 0)) 70 4 (-nI 1)) 161 (nI 0) (nI 0) ∧ CT (fun j => (zlo S (40 + 2 * s + 1) j).toInt32) m S' ∧ zFr (fun k => k = 71) S S' := by
  refine lpR (fun n (u : zSt) z => M_X6_readFrom_B16 s n pk u 161 z) (fun (w : Unit) _ => w) (fun z u _ => zFr (fun k => k = 71) S u ∧ ∀ j, j < z → zar u 71 j = (zlo S (40 + 2 * s + 1) j).toInt32) (fun _ o => ∃ S', o = M_X6_readFrom_B55 s zF pk (zP (zP S' 70 3 (nI 0)) 70 4 (-nI 1)) 161 (nI 0) (nI 0) ∧ CT (fun j => (zlo S (40 + 2 * s + 1) j).toInt32) m S' ∧ zFr (fun k => k = 71) S S') m (fun n u _ hR => ?_) (fun n u _ z hz hR => ?_) m 0 zF S () ⟨zFr.rf, fun j hj => absurd hj (Nat.not_lt_zero _)⟩ (by omega) (by show _ < 4096; omega)
  · have h7 : zsc u 70 2 = nI m := by rw [hR.1.sc (by omega)]; exact h70
    refine ⟨u, ?_, ⟨h7, hm, hR.2⟩, hR.1⟩
    rw [M_X6_readFrom_B16, h7]
    exact if_pos (nI_le (Nat.le_refl _) (by omega))
  · have h7 : zsc u 70 2 = nI m := by rw [hR.1.sc (by omega)]; exact h70
    have u1 : zsc u (40 + 2 * s) 1 = nI (100 + t) := by rw [hR.1.sc (by omega)]; exact e1
    have u2 : zsc u (40 + 2 * s) 2 = nI m := by rw [hR.1.sc (by omega)]; exact e2
    have u3 : zlo u (40 + 2 * s + 1) z = zlo S (40 + 2 * s + 1) z := by rw [hR.1.lo (by omega)]
    have ia : M_X7_intAt pk u s (nI z) = some ((zlo S (40 + 2 * s + 1) z).toInt32) := by
      unfold M_X7_intAt M_X7_elementAt M_X7_hasElement M_X7_hasRow
      simp (disch := omega) only [reduceIte, li, lo, k_leT, k_leF, k_ltT, k_ltF, k_eqT, k_eqF, c_cl, c_sub, nI_add, pk_mul, zin_nI, zg_true, ob_some, zm_none, zm_some, if_true, if_false, Bool.false_eq_true, d_t, d_f, ob_eta, ob_eta1, m_ltn, m_nlt, m_nle, m_len, m_ne, m_ne', k_mltT, k_mltF, k_mleT, k_mleF, k_meqT, k_meqF, m_neg, u1, u2, u3]
    refine ⟨zAs u 71 z ((zlo S (40 + 2 * s + 1) z).toInt32), ⟨hR.1.trans (zFr_As rfl), fun j hj => ?_⟩, ?_⟩
    · rw [as_y, upd_a]
      by_cases q : j = z
      · rw [if_pos q, q]
      · rw [if_neg q]; exact hR.2 j (by omega)
    · rw [M_X6_readFrom_B16, h7]
      refine (if_neg (show ¬ nI m ≤ nI z from nI_ge hz (by omega))).trans ?_
      rw [ia, ob_some, zg_in (by omega) (by decide), c_cl (by omega), show nI z + 1 = nI (z + 1) from nI_add z 1]
/-- the reference: the land is kept -/
theorem r_land (h : RR T d) (hn : dn d ≤ 6) (hs : s < 8) (e : M_X12_noRow T (nI s) = some (nI 0)) : ∃ T1, M_X12_land T (nI s) = M_X12_land_B39 zF (zP (zP T1 0 13 (nI s)) 0 14 (nI 0)) (nI s) (nI 0) (nI 1) ∧ zFr (fun k => k = 15) T T1 ∧ SN 15 T1 d := by
  obtain ⟨T1, k1, k2, k3⟩ := r_keepS h hn (Or.inr rfl)
  refine ⟨T1, ?_, k2, k3⟩
  unfold M_X12_land
  rw [e, ob_some]
  refine (if_pos (show nI 0 ≤ nI 0 by decide)).trans ?_
  rw [k1, ob_some]
  rfl
theorem s_land (h : Inv pk S d) (x1 : Int32) : zStG pk (M_X11_land pk S x1) (fun T => M_X12_land T x1) := by
  have hn6 := h.k.1
  rcases cRow h x1 with ⟨a1, b1⟩ | ⟨s, c, hs, hc, rfl, a1, z1, r0, l0, b1⟩ | ⟨s, m, t, hs, hm, ht, rfl, a1, z1, r0, b1, e1, e2, e3, e4, e5⟩
  · have b1 := b1 (zR1 S 1) (r1_a (by decide))
    refine stg_no h 1 (by decide) (by decide) ?_ ?_
    · unfold M_X11_land M_X11_land_B17 M_X11_lackOfRow
      simp (disch := omega) only [↓ob_some, ↓zm_some, ↓zm_none, ↓zg_true, ↓zg_in, ↓(ob_of a1), reduceIte, li, lo, k_leT, k_leF, k_ltT, k_ltF, k_eqT, k_eqF, c_cl, c_sub, nI_add, pk_mul, zin_nI, zg_true, ob_some, zm_none, zm_some, if_true, if_false, Bool.false_eq_true, d_t, d_f, ob_eta, ob_eta1, m_ltn, m_nlt, m_nle, m_len, m_ne, m_ne', k_mltT, k_mltF, k_mleT, k_mleF, k_meqT, k_meqF, m_neg]
    · unfold M_X12_land
      simp (disch := omega) only [↓ob_some, ↓zm_some, ↓zm_none, ↓zg_true, ↓zg_in, ↓(ob_of b1), reduceIte, li, lo, k_leT, k_leF, k_ltT, k_ltF, k_eqT, k_eqF, c_cl, c_sub, nI_add, pk_mul, zin_nI, zg_true, ob_some, zm_none, zm_some, if_true, if_false, Bool.false_eq_true, d_t, d_f, ob_eta, ob_eta1, m_ltn, m_nlt, m_nle, m_len, m_ne, m_ne', k_mltT, k_mltF, k_mleT, k_mleF, k_meqT, k_meqF, m_neg]
  · have b1 := b1 (zR1 S c) (r1_a (by decide))
    refine stg_no h c (by omega) (by omega) ?_ ?_
    · unfold M_X11_land M_X11_land_B17
      simp (disch := omega) only [↓ob_some, ↓zm_some, ↓zm_none, ↓zg_true, ↓zg_in, ↓(ob_of a1), ↓(zg_of z1), ↓(ob_of r0), ↓(ob_of l0), reduceIte, li, lo, k_leT, k_leF, k_ltT, k_ltF, k_eqT, k_eqF, c_cl, c_sub, nI_add, pk_mul, zin_nI, zg_true, ob_some, zm_none, zm_some, if_true, if_false, Bool.false_eq_true, d_t, d_f, ob_eta, ob_eta1, m_ltn, m_nlt, m_nle, m_len, m_ne, m_ne', k_mltT, k_mltF, k_mleT, k_mleF, k_meqT, k_meqF, m_neg]
    · unfold M_X12_land
      simp (disch := omega) only [↓ob_some, ↓zm_some, ↓zm_none, ↓zg_true, ↓zg_in, ↓(ob_of b1), reduceIte, li, lo, k_leT, k_leF, k_ltT, k_ltF, k_eqT, k_eqF, c_cl, c_sub, nI_add, pk_mul, zin_nI, zg_true, ob_some, zm_none, zm_some, if_true, if_false, Bool.false_eq_true, d_t, d_f, ob_eta, ob_eta1, m_ltn, m_nlt, m_nle, m_len, m_ne, m_ne', k_mltT, k_mltF, k_mleT, k_mleF, k_meqT, k_meqF, m_neg]
  · obtain ⟨pk1, S1, t1, t2, t3, t4, t5, t6⟩ := l_takeFrom (i := 1) (j := 0) h.l h.k h.pe (by decide) (by decide) (by decide)
    have g1 : ∀ k, 40 ≤ k → k < 56 → ¬ zL1 1 k := fun k a b => by unfold zL1 zZ; omega
    have u1 : zsc S1 (40 + 2 * s) 1 = nI (100 + t) := by rw [t5.sc (g1 _ (by omega) (by omega))]; exact e1
    have u2 : zsc S1 (40 + 2 * s) 2 = nI m := by rw [t5.sc (g1 _ (by omega) (by omega))]; exact e3
    have u5 : zlo S1 (40 + 2 * s + 1) = zlo S (40 + 2 * s + 1) := t5.lo (g1 _ (by omega) (by omega))
    have F1 : zFr (fun k => k = 70) S1 (zP S1 70 2 (nI m)) := zFr_P rfl
    obtain ⟨S2, c1, c2, c3⟩ := l_copyT (pk := pk1) (S := zP S1 70 2 (nI m)) hs hm ht (by rw [p_n (by omega)]; exact u1) (by rw [p_n (by omega)]; exact u2) (by rw [p_y, if_pos rfl])
    have rd : M_X6_readFrom pk1 S1 s = M_X6_readFrom_B55 s zF pk1 (zP (zP S2 70 3 (nI 0)) 70 4 (-nI 1)) 161 (nI 0) (nI 0) := by
      have mx : (if (160 : Int32) < zsc S1 (40 + 2 * s) 2 then (160 : Int32) else zsc S1 (40 + 2 * s) 2) = nI m := by
        rw [u2]; exact if_neg (show ¬ nI 160 < nI m from nI_nlt hm (by omega))
      unfold M_X6_readFrom
      rw [mx]
      exact c1
    have F2 : zFr (fun k => k = 70 ∨ k = 71) S1 (zP (zP S2 70 3 (nI 0)) 70 4 (-nI 1)) := (((F1.mono (fun k e => Or.inl e)).trans (c3.mono (fun k e => Or.inr e))).trans (zFr_P (Or.inl rfl))).trans (zFr_P (Or.inl rfl))
    have hC : CT (fun j => (zlo S 3 (160 * s + j)).toInt32) m (zP (zP S2 70 3 (nI 0)) 70 4 (-nI 1)) := by
      obtain ⟨y1, y2, y3⟩ := ((CF.p (v := nI 0) (Or.inl rfl)).trans (CF.p (v := -nI 1) (Or.inr (Or.inl rfl)))).ct c2
      refine ⟨y1, y2, fun j hj => (y3 j hj).trans ?_⟩
      show (zlo (zP S1 70 2 (nI m)) (40 + 2 * s + 1) j).toInt32 = _
      rw [p_l, u5, e5 j (by omega)]
    have o0 : Ok (zP (zP S2 70 3 (nI 0)) 70 4 (-nI 1)) 0 := ⟨by rw [p_y, if_neg (by decide), p_y, if_pos rfl], by rw [p_y, if_pos rfl]⟩
    have l2 : LL 1 pk1 (zP (zP S2 70 3 (nI 0)) 70 4 (-nI 1)) d := t2.fr hn6 F2 (by omega) (fun k a b => by omega)
    have P2 : PK pk1 (zP (zP S2 70 3 (nI 0)) 70 4 (-nI 1)) := t4.fr F2 (fun q _ => by omega)
    have run : ∀ T, RR T d → TT s (fun j => (zlo S 3 (160 * s + j)).toInt32) m T → zsc T 0 14 = nI 0 → LdO pk1 (zP (zP S2 70 3 (nI 0)) 70 4 (-nI 1)) T (M_X6_readFrom_B55 s zF pk1 (zP (zP S2 70 3 (nI 0)) 70 4 (-nI 1)) 161 (nI 0) (nI 0)) (M_X12_land_B39 zF T (nI s) (nI 0) (nI 1)) := fun T hR hT h14 =>
      p_loop s 200 0 zF zF 0 pk1 _ T d (by omega) (by decide) (by decide) l2 hR h.k P2 hC hT o0 h14 (Nat.zero_le _) (Nat.le_refl _)
    -- the text as the reference has it, from any state that still has it
    have goR : ∀ T, RR T d → zar T 1 = zar S 1 → zar T 2 = zar S 2 → zlo T 3 = zlo S 3 → ∃ T0, M_X12_land T (nI s) = M_X12_land_B39 zF T0 (nI s) (nI 0) (nI 1) ∧ RR T0 d ∧ TT s (fun j => (zlo S 3 (160 * s + j)).toInt32) m T0 ∧ zsc T0 0 14 = nI 0 ∧ SN 15 T0 d ∧ zFr (fun k => k = 15 ∨ k = 0) T T0 ∧ ∀ g, g ≠ 13 → g ≠ 14 → zsc T0 0 g = zsc T 0 g := fun T hR q1 q2 q3 => by
      obtain ⟨T1, y1, y2, y3⟩ := r_land hR hn6 hs (b1 T q1)
      have f0 : zFr (fun k => k = 15 ∨ k = 0) T (zP (zP T1 0 13 (nI s)) 0 14 (nI 0)) := ((y2.mono (fun k e => Or.inl e)).trans (zFr_P (P := fun k => k = 15 ∨ k = 0) (Or.inr rfl))).trans (zFr_P (P := fun k => k = 15 ∨ k = 0) (Or.inr rfl))
      have s0 : ∀ g, g ≠ 13 → g ≠ 14 → zsc (zP (zP T1 0 13 (nI s)) 0 14 (nI 0)) 0 g = zsc T 0 g := fun g a b => by
        rw [p_y, if_neg b, p_y, if_neg a, y2.sc (by omega)]
      refine ⟨_, y1, hR.fr f0 (s0 3 (by decide) (by decide)) (s0 11 (by decide) (by decide)) (s0 12 (by decide) (by decide)) (fun k a b => by omega), ⟨by rw [p_y, if_neg (by decide), p_y, if_pos rfl], hs, ?_, hm, fun k hk => ?_⟩, by rw [p_y, if_pos rfl], y3.fr (P := fun k => k = 0) ((zFr_P (P := fun k => k = 0) rfl).trans (zFr_P (P := fun k => k = 0) rfl)) (by omega), f0, s0⟩
      · rw [f0.ar (by omega), q2]; exact e4
      · rw [f0.lo (by omega), q3]
    obtain ⟨T00, -, r00, tt00, z00, -⟩ := goR S h.r rfl rfl rfl
    obtain ⟨c, pk2, S3, T01, x1, x2, x3, x4, -, -, x7⟩ := run T00 r00 tt00 z00
    -- both runs of the class are one
    have one : ∀ T, RR T d → TT s (fun j => (zlo S 3 (160 * s + j)).toInt32) m T → zsc T 0 14 = nI 0 → ∃ T', zFr zRd T T' ∧ (∀ g, g ≠ 3 → g ≠ 11 → g ≠ 14 → zsc T' 0 g = zsc T 0 g) ∧ ((∃ d', zsc S3 70 4 = -nI 1 ∧ LL 1 pk2 S3 d' ∧ KK d' ∧ RR T' d' ∧ M_X12_land_B39 zF T (nI s) (nI 0) (nI 1) = some (nI c, zP T' 0 15 (-nI 1)) ∧ dn d ≤ dn d') ∨ (∃ f, Bad S3 f ∧ zsc T' 0 14 = nI f ∧ M_X12_land_B39 zF T (nI s) (nI 0) (nI 1) = ldFin T')) := fun T hR hT h14 => by
      obtain ⟨c', pk', S3', T', y1, -, -, -, y5, y6, y7⟩ := run T hR hT h14
      have q := x1.symm.trans y1
      simp only [Option.some.injEq, Prod.mk.injEq] at q
      obtain ⟨qc, rfl, rfl⟩ := q
      refine ⟨T', y5, y6, ?_⟩
      rcases y7 with ⟨d', v1, v2, v3, v4, v5, v6⟩ | y
      · exact Or.inl ⟨d', v1, v2, v3, v4, by rw [qc]; exact v5, v6 _ hn6 hR.1⟩
      · exact Or.inr y
    have F3 : zFr (fun k => zL7 k ∨ k = 71) S S3 := ((t5.mono (fun k e => Or.inl (Or.inr e))).trans (F2.mono (fun k e => by
      rcases e with e | e
      · exact Or.inl (Or.inl e)
      · exact Or.inr e))).trans (x3.mono (fun k e => Or.inl e))
    have kq : ∀ q, q / 6 ≠ 1 → pk2 q = pk q := fun q hq => (x4 q hq).trans (t6 q hq)
    have n3 : ∀ k, (k ≤ 59 ∨ 66 ≤ k ∧ k ≤ 69 ∨ 148 ≤ k) → ¬ (zL7 k ∨ k = 71) := fun k a => by unfold zL7 zL1 zZ; omega
    have L0 : LL 0 pk2 S3 d := h.l.mv hn6 F3 (by unfold zL7 zL1 zZ; omega) (fun k a b => by unfold zL7 zL1 zZ; omega) (fun q a b => kq q (by omega))
    have eB : M_X11_land pk S (nI s) = (if (zsc ((zP S3 20 13 ((zsc S3 70 4)))) 20 13) = (-1) then zg (decide (6 ≤ ((173 - 6) - 161))) (Option.bind (M_X4_takeFrom pk2 ((zP S3 20 13 ((zsc S3 70 4)))) 0 1) (fun w19 => zlet2 w19 (fun pk T20 => some (nI c, pk, T20)))) else Option.bind (M_X11_refuse pk2 ((zP S3 20 13 ((zsc S3 70 4)))) (-6)) (fun w23 => some (w23.1, pk2, w23.2))) := by
      unfold M_X11_land
      rw [a1, ob_some, zm_some, zg_of z1, r0, ob_some]
      refine (if_neg (show ¬ nI 1 = nI 0 by decide)).trans ?_
      rw [show decide (6 ≤ 173) = true from rfl, zg_true, t1, ob_some]
      show zg (decide (161 ≤ 173 - 6)) (Option.bind (M_X6_readFrom pk1 S1 s) _) = _
      rw [show decide (161 ≤ 173 - 6) = true from rfl, zg_true, rd, x1, ob_some]
      rfl
    have F3u : zFr zUq S S3 := F3.mono (fun k e => by unfold zL7 zL1 zZ at e; unfold zUq zUp zIr zZ; omega)
    have u0 : zUq 0 := Or.inl (by unfold zUp; omega)
    have q0 : zsc S3 0 = zsc S 0 := F3.sc (n3 _ (by omega))
    rcases x7 with ⟨d1, v1, v2, v3, -, -, -⟩ | ⟨f, v1, -, -⟩
    · have FA : zFr (fun k => k = 20) S3 (zP S3 20 13 (-nI 1)) := zFr_P rfl
      have PA : PK pk2 (zP S3 20 13 (-nI 1)) := x2.fr FA (fun q _ => by omega)
      obtain ⟨pk9, S9, w1, -, -, w4, w5, w6⟩ := l_takeFrom (i := 0) (j := 1) (v2.fr v3.1 FA (by omega) (fun k a b => by omega)) v3 PA (by decide) (by decide) (by decide)
      have F9 : zFr (fun k => (zL7 k ∨ k = 71) ∨ k = 20 ∨ zL1 0 k) S S9 := ((F3.mono (fun k e => Or.inl e)).trans (FA.mono (fun k e => Or.inr (Or.inl e)))).trans (w5.mono (fun k e => Or.inr (Or.inr e)))
      have n9 : ∀ k, k ≤ 19 → ¬ ((zL7 k ∨ k = 71) ∨ k = 20 ∨ zL1 0 k) := fun k a => by unfold zL7 zL1 zZ; omega
      have r9 : RR S9 d := h.r.fr0 F9 (fun k a => n9 k (by omega))
      obtain ⟨T0, y1, y2, y3, y4, y5, y6, y7⟩ := goR S9 r9 (F9.ar (n9 _ (by omega))) (F9.ar (n9 _ (by omega))) (F9.lo (n9 _ (by omega)))
      obtain ⟨T', z2, z3, z4⟩ := one T0 y2 y3 y4
      rcases z4 with ⟨d2, p1, p2, p3, p4, p5, p6⟩ | ⟨f, p1, -, -⟩
      · obtain ⟨pk9', S9', w1', w2', -, -, -, -⟩ := l_takeFrom (i := 0) (j := 1) (p2.fr p3.1 FA (by omega) (fun k a b => by omega)) p3 PA (by decide) (by decide) (by decide)
        have q := w1.symm.trans w1'
        simp only [Option.some.injEq, Prod.mk.injEq] at q
        obtain ⟨rfl, rfl⟩ := q
        have FZ : zFr (fun k => k ≤ 16) S9 (zP T' 0 15 (-nI 1)) := ((y6.mono (fun k e => by omega)).trans (z2.mono (fun k e => by unfold zRd at e; omega))).trans (zFr_P (by decide))
        have FU : zFr zUq (zFa S (-nI 1)) (zP T' 0 15 (-nI 1)) := by
          have a1 : zFr zUq (zP S 20 13 (-nI 1)) (zP S3 20 13 (-nI 1)) := F3u.pp
          have a2 : zFr zUq (zP S 20 13 (-nI 1)) S9 := a1.trans (w5.mono (fun k e => by unfold zL1 zZ at e; unfold zUq zUp zIr zZ; omega))
          have a3 : zFr zUq (zFa S (-nI 1)) S9 := zFr.pl u0 a2
          exact ((a3.trans (y6.mono (fun k e => by unfold zUq zUp zIr zZ; omega))).trans (z2.mono (fun k e => by unfold zRd at e; unfold zUq zUp zIr zZ; omega))).trans (zFr_P u0)
        have s0 : ∀ g, g = 17 ∨ g = 20 → zsc (zP T' 0 15 (-nI 1)) 0 g = zsc (zFa S (-nI 1)) 0 g := fun g hg => by
          unfold zFa
          rw [p_y, if_neg (by omega), p_y, if_neg (by omega), p_n (by decide), z3 g (by omega) (by omega) (by omega), y7 g (by omega) (by omega), F9.sc (n9 0 (by omega))]
        refine ⟨nI c, pk9, S9, zP T' 0 15 (-nI 1), ?_, y1.trans p5, d2, (h.fl (-nI 1)).upG FU (fun k e => e) ?_ (s0 17 (Or.inl rfl)) (s0 20 (Or.inr rfl)) (fun q a b => (w6 q (by omega)).trans (kq q (by omega))) p3 p6 (w2'.fr p3.1 FZ (by omega) (fun k a b => by omega)) (p4.fr (zFr_P (P := fun k => k = 0) rfl) rfl rfl rfl (fun k a b => by omega)) (w4.fr FZ (fun q _ => by omega))⟩
        · rw [eB, v1, p_y, if_pos rfl]
          refine (if_pos rfl).trans ?_
          rw [show decide (6 ≤ 173 - 6 - 161) = true from rfl, zg_true, w1, ob_some]
          rfl
        · unfold zFa
          rw [p_y, if_pos rfl, p_y, if_pos rfl]
      · exact absurd v1 p1.ne
    · have FA : zFr (fun k => k = 20) S3 (zP S3 20 13 (nI f)) := zFr_P rfl
      have FY : zFr (fun k => k = 20 ∨ k = 22) S3 (zR1 (zP S3 20 13 (nI f)) 6) := (FA.mono (fun k e => Or.inl e)).trans (zFr_As (Or.inr rfl))
      have F9 : zFr (fun k => (zL7 k ∨ k = 71) ∨ k = 20 ∨ k = 22) S (zR1 (zP S3 20 13 (nI f)) 6) := (F3.mono (fun k e => Or.inl e)).trans (FY.mono (fun k e => Or.inr e))
      have n9 : ∀ k, k ≤ 19 → ¬ ((zL7 k ∨ k = 71) ∨ k = 20 ∨ k = 22) := fun k a => by unfold zL7 zL1 zZ; omega
      have r9 : RR (zR1 (zP S3 20 13 (nI f)) 6) d := h.r.fr0 F9 (fun k a => n9 k (by omega))
      obtain ⟨T0, y1, y2, y3, y4, y5, y6, y7⟩ := goR _ r9 (F9.ar (n9 _ (by omega))) (F9.ar (n9 _ (by omega))) (F9.lo (n9 _ (by omega)))
      obtain ⟨T', z2, z3, z4⟩ := one T0 y2 y3 y4
      rcases z4 with ⟨d2, p1, -, -, -, -, -⟩ | ⟨f', p1, p2, p3⟩
      · exact absurd p1 v1.ne
      · have ff : nI f' = nI f := p1.1.symm.trans v1.1
        rw [ff] at p2
        have F5 : zFr (fun k => k ≤ 16 ∧ k ≠ 15) T0 (zP T' 0 15 (nI f)) := (z2.mono (fun k e => by unfold zRd at e; omega)).trans (zFr_P (by decide))
        obtain ⟨T5, k1, k2, k3, k4⟩ := r_again (k := 15) (y5.fr F5 (by omega)) hn6 (Or.inr rfl)
        have rn := r_no' T5 (c := 6) (by decide) (by decide)
        have eF : ldFin T' = some (-nI 6, zAs T5 13 6 (zar T5 13 6 + nI 1)) := by
          unfold ldFin
          rw [p2, k1, ob_some, show (-6 : Int32) = -nI 6 from rfl, rn, ob_some]
        have FU : zFr zUq (zR1 (zFa S (nI f)) 6) T5 := by
          have a1 : zFr zUq (zP S 20 13 (nI f)) (zP S3 20 13 (nI f)) := F3u.pp
          have a3 : zFr zUq (zFa S (nI f)) (zP S3 20 13 (nI f)) := zFr.pl u0 a1
          have a4 := a3.r1 (c := 6) (by unfold zUq zUp zIr zZ; omega)
          exact (((a4.trans (y6.mono (fun k e => by unfold zUq zUp zIr zZ; omega))).trans (z2.mono (fun k e => by unfold zRd at e; unfold zUq zUp zIr zZ; omega))).trans (zFr_P u0)).trans (k2.mono (fun k e => by unfold zAg at e; unfold zUq zUp zIr zZ; omega))
        have FZ : zFr (fun k => k ≤ 22) S3 (zAs T5 13 6 (zar T5 13 6 + nI 1)) := ((((FY.mono (fun k e => by omega)).trans (y6.mono (fun k e => by omega))).trans (F5.mono (fun k e => by omega))).trans (k2.mono (fun k e => by unfold zAg at e; omega))).trans (zFr_As (by decide))
        have s0 : ∀ g, g = 17 ∨ g = 20 → zsc (zAs T5 13 6 (zar T5 13 6 + nI 1)) 0 g = zsc (zR2 (zFa S (nI f)) 6) 0 g := fun g hg => by
          show zsc T5 0 g = zsc (zFa S (nI f)) 0 g
          unfold zFa
          rw [k4 g (by omega) (by omega) (by omega), p_y, if_neg (by omega), p_y, if_neg (by omega), p_n (by decide), z3 g (by omega) (by omega) (by omega), y7 g (by omega) (by omega), F9.sc (n9 0 (by omega))]
        refine ⟨-nI 6, pk2, _, _, ?_, (y1.trans p3).trans eF, d, ((h.fl (nI f)).no (c := 6) (by decide)).upG (fr_no FU (by unfold zUq zUp zIr zZ; omega)) (fun k e => e) ?_ (s0 17 (Or.inl rfl)) (s0 20 (Or.inr rfl)) (fun q a b => kq q (by omega)) h.k (Nat.le_refl _) (L0.fr hn6 FZ (by omega) (fun k a b => by omega)) (k3.fr0 (zFr_As (P := fun k => k = 13) rfl) (fun k a => by omega)) (x2.fr FZ (fun q _ => by omega))⟩
        · rw [eB, v1.1, p_y, if_pos rfl]
          refine (if_neg (show ¬ nI f = -nI 1 by rw [m_ne (by decide) (by decide) (by have := v1.2; omega)]; exact id)).trans ?_
          rw [show (-6 : Int32) = -nI 6 from rfl, l_ref pk2 _ (c := 6) (by decide) (by decide), ob_some]
        · show zsc T5 0 15 = zsc (zFa S (nI f)) 0 15
          unfold zFa
          rw [k4 15 (by decide) (by decide) (by decide), p_y, if_pos rfl, p_y, if_pos rfl]
end SLA
