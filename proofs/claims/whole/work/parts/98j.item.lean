section ITM
variable {P : Nat → Prop} {pk : Nat → Nat} {S S' T T' : zSt} {i k k1 k2 f r L v g n p q : Nat} {a b a' b' : Int32} {tx : Nat → Int32} {d : zD}
def WF (S S' : zSt) : Prop := zFr (fun x => x = 70) S S' ∧ zsc S' 70 2 = zsc S 70 2
theorem WF.rf : WF S S := ⟨zFr.rf, rfl⟩
theorem WF.trans {S'' : zSt} (h : WF S S') (h' : WF S' S'') : WF S S'' := ⟨h.1.trans h'.1, h'.2.trans h.2⟩
theorem WF.zp {v : Int32} (hg : g ≠ 2) : WF S (zP S 70 g v) := ⟨zFr_P rfl, by rw [p_y, if_neg (Ne.symm hg)]⟩
theorem CF.w (h : CF S S') : WF S S' := ⟨h.1, h.2 2 (by decide) (by decide) (by decide)⟩
theorem WF.ct (h : WF S S') (hc : CT tx L S) : CT tx L S' := ⟨h.2.trans hc.1, hc.2.1, fun k hk => by rw [h.1.ar (by omega)]; exact hc.2.2 k hk⟩
theorem WF.ll (h : WF S S') (hn : dn d ≤ 6) (hl : LL 1 pk S d) : LL 1 pk S' d := hl.fr hn h.1 (by omega) (fun k a b => by omega)
theorem WF.pkk (h : WF S S') (hl : PK pk S) : PK pk S' := hl.fr h.1 (fun q _ => by omega)
theorem Ok.zp {v : Int32} (h : Ok S k) (hg : 6 ≤ g) : Ok (zP S 70 g v) k := ⟨by rw [p_y, if_neg (by omega)]; exact h.1, by rw [p_y, if_neg (by omega)]; exact h.2⟩
theorem Bad.zp {v : Int32} (h : Bad S f) (hg : 6 ≤ g) : Bad (zP S 70 g v) f := ⟨by rw [p_y, if_neg (by omega)]; exact h.1, h.2⟩
theorem TF.rr (h : TF i T T') (hr : RR T d) : RR T' d := hr.fr h.1 (h.2.1 3 (by decide)) (h.2.1 11 (by decide)) (h.2.1 12 (by decide)) (fun k a b => by omega)
theorem p_w {t : Nat} (ht : t < 6) (hC : CT tx L S) (hT : TT r tx L T) (o : Ok S k) (h14 : zsc T 0 14 = nI k) (hk : k ≤ L) : ∃ S' T', M_X6_readWord pk S t = some S' ∧ CF S S' ∧ TF 3 T T' ∧ ((Ok S' (k + wl t) ∧ k + wl t ≤ L ∧ zsc T' 0 14 = nI (k + wl t) ∧ M_X12_word T t = some (nI 1, T')) ∨ (∃ f, Bad S' f ∧ zsc T' 0 14 = nI f ∧ M_X12_word T t = some (nI 0, T'))) :=
  p_word ht ht (wl t) 0 0 zF zF S T k (by omega) (by omega) (fun _ _ => rfl) (by have := wl_7 t ht; show _ < 4096; omega) (by have := wl_7 t ht; show _ < 4096; omega) hC hT o h14 hk
theorem w_bad {t : Nat} (ht : t < 6) (h : Bad S f) : M_X6_readWord pk S t = some S := wd_bad h ht (wl t) 0 zF (by omega) (by have := wl_7 t ht; show _ < 4096; omega)
theorem v_lt (hv : v < 100) (hn : n ≤ 6) (h : ¬ nI n - nI 1 < nI v) : v < n := by
  rcases n with _ | n
  · exact absurd (by
      have e : nI 0 - nI 1 = -nI 1 := by decide
      rw [e, m_ltn (by decide) (by decide) (by omega)]; trivial) h
  · rw [show nI (n + 1) - nI 1 = nI n from nI_pred n, c_lt (by omega) (by omega)] at h
    omega
theorem l_outOf (h : LL 1 pk S d) (K : KK d) (hv : v < dn d) : M_X6_outOf pk S (nI v) = some (nI (dou d v)) := by
  have hn := K.1
  have e := l_perY h hn hv
  have ok := (h.pe hv).ok (show 6 * 1 + v < 18 by omega)
  have ou := (h.pe hv).ou
  unfold M_X6_outOf
  simp (disch := omega) only [↓ob_some, ↓zm_some, ↓zm_none, ↓zg_true, ↓zg_in, ↓(ob_of e), ↓(zg_of ok), ou, reduceIte, li, lo, k_leT, k_leF, k_ltT, k_ltF, k_eqT, k_eqF, c_cl, c_sub, nI_add, pk_mul, zin_nI, zg_true, ob_some, zm_none, zm_some, if_true, if_false, Bool.false_eq_true, d_t, d_f, ob_eta, ob_eta1, m_ltn, m_nlt, m_nle, m_len, m_ne, m_ne', k_mltT, k_mltF, k_mleT, k_mleF, k_meqT, k_meqF, m_neg]
theorem l_outN (h : LL 1 pk S d) : M_X6_outOf pk S (-nI 1) = some (nI 6) := by
  have e := l_perN h (x := -nI 1) (Or.inl (by decide))
  unfold M_X6_outOf
  simp (disch := omega) only [↓ob_some, ↓zm_some, ↓zm_none, ↓zg_true, ↓zg_in, ↓(ob_of e), reduceIte, li, lo, k_leT, k_leF, k_ltT, k_ltF, k_eqT, k_eqF, c_cl, c_sub, nI_add, pk_mul, zin_nI, zg_true, ob_some, zm_none, zm_some, if_true, if_false, Bool.false_eq_true, d_t, d_f, ob_eta, ob_eta1, m_ltn, m_nlt, m_nle, m_len, m_ne, m_ne', k_mltT, k_mltF, k_mleT, k_mleF, k_meqT, k_meqF, m_neg]
/-- what a text says of its first item, and what both make of it -/
def zRd (x : Nat) : Prop := x = 0 ∨ (4 ≤ x ∧ x ≤ 11) ∨ x = 16
def BadO (pk : Nat → Nat) (S T : zSt) (o1 : Option zSt) (o2 : Option (Int32 × zSt)) : Prop := ∃ f S1 T1, o1 = some S1 ∧ WF S S1 ∧ Bad S1 f ∧ o2 = some (nI 0, T1) ∧ zsc T1 0 14 = nI f ∧ zFr (fun x => x = 0 ∨ x = 11) T T1 ∧ ∀ g, g ≠ 14 → zsc T1 0 g = zsc T 0 g
def GoodO (pk : Nat → Nat) (S T : zSt) (k L : Nat) (o1 : Option zSt) (o2 : Option (Int32 × zSt)) : Prop := ∃ k2 d' pk' S1 S2 T1, o1 = some S1 ∧ WF S S1 ∧ Ok S1 k2 ∧ k < k2 ∧ k2 ≤ L ∧ M_X6_tellItem pk S1 = some (pk', S2) ∧ LL 1 pk' S2 d' ∧ RR T1 d' ∧ KK d' ∧ PK pk' S2 ∧ zFr (zL1 1) S1 S2 ∧ (∀ q, q / 6 ≠ 1 → pk' q = pk q) ∧ o2 = some (nI 1, T1) ∧ zsc T1 0 14 = nI k2 ∧ zFr zRd T T1 ∧ (∀ g, g ≠ 3 → g ≠ 11 → g ≠ 14 → zsc T1 0 g = zsc T 0 g) ∧ ∀ n, n ≤ 6 → zsc T 0 3 = nI n → n ≤ dn d'
theorem nd_le (hr : RR T d) (hn : dn d ≤ 6) (h : dn d ≤ q) : ∀ n, n ≤ 6 → zsc T 0 3 = nI n → n ≤ q := fun n h1 h2 => by
  have := (nI_eq (by omega) (by omega)).mp (hr.1.symm.trans h2)
  omega
def ItO (pk : Nat → Nat) (S T : zSt) (k L : Nat) (o1 : Option zSt) (o2 : Option (Int32 × zSt)) : Prop := BadO pk S T o1 o2 ∨ GoodO pk S T k L o1 o2
theorem TF.bo {S1 : zSt} {o1 : Option zSt} {o2 : Option (Int32 × zSt)} (h : TF 3 T T') (e1 : o1 = some S1) (w : WF S S1) (b : Bad S1 f) (e2 : o2 = some (nI 0, T')) (z : zsc T' 0 14 = nI f) : BadO pk S T o1 o2 := ⟨f, S1, T', e1, w, b, e2, z, h.1, h.2.1⟩
def TG (T T' : zSt) : Prop := zFr (fun x => x = 0 ∨ x = 11) T T' ∧ ∀ g, g ≠ 14 → zsc T' 0 g = zsc T 0 g
theorem TF.tg (h : TF i T T') : TG T T' := ⟨h.1, h.2.1⟩
theorem TG.trans {T'' : zSt} (h : TG T T') (h' : TG T' T'') : TG T T'' := ⟨h.1.trans h'.1, fun g a => (h'.2 g a).trans (h.2 g a)⟩
theorem TG.zp {v : Int32} : TG T (zP T 0 14 v) := (TF.p (i := 0)).tg
theorem TG.rr (h : TG T T') (hr : RR T d) : RR T' d := hr.fr h.1 (h.2 3 (by decide)) (h.2 11 (by decide)) (h.2 12 (by decide)) (fun k a b => by omega)
theorem TG.bo {S1 : zSt} {o1 : Option zSt} {o2 : Option (Int32 × zSt)} (h : TG T T') (e1 : o1 = some S1) (w : WF S S1) (b : Bad S1 f) (e2 : o2 = some (nI 0, T')) (z : zsc T' 0 14 = nI f) : BadO pk S T o1 o2 := ⟨f, S1, T', e1, w, b, e2, z, h.1, h.2⟩
/-! the least -/
theorem KK.le1 (K : KK d) (h1 : 1 ≤ v) (h2 : v ≤ 99) : KK (dn d, dk d, dou d, nI v, dse d, dv d) := ⟨K.1, ⟨v, h1, h2, rfl⟩, K.2.2⟩
theorem p_least (hl : LL 1 pk S d) (hr : RR T d) (K : KK d) (P0 : PK pk S) (hC : CT tx L S) (hT : TT r tx L T) (o : Ok S k) (h14 : zsc T 0 14 = nI k) (hk : k ≤ L) : ItO pk S T k L (M_X6_readLeast pk S) (Option.bind (M_X12_word T 4) (fun w16 => (if w16.1 = 0 then some (0, w16.2) else Option.bind (M_X12_number w16.2 0 1 99) (fun w18 => (if w18.1 = 0 then some (0, w18.2) else zg (zin 0 3) (some (1, (zP w18.2 0 11 ((zar w18.2 11 (Int32.toNatClampNeg 0))))))))))) := by
  have hn6 := K.1
  have w0 : WF S (zP S 70 6 (nI 4)) := WF.zp (by decide)
  obtain ⟨S1, T1, e1, c1, f1, q⟩ := p_w (pk := pk) (t := 4) (by decide) (w0.ct hC) hT (o.zp (v := nI 4) (g := 6) (by decide)) h14 hk
  unfold M_X6_readLeast
  simp only [li]
  rcases q with ⟨o1, kl, z1, e2⟩ | ⟨f, b1, z1, e2⟩
  · obtain ⟨S2, T2, c2, f2, q⟩ := p_num (pk := pk) (i := 0) (c1.ct (w0.ct hC)) (f1.tt hT) o1 z1 kl (by decide) (nI 1) (nI 99)
    have w2 : WF S S2 := (w0.trans c1.w).trans c2.w
    have g2 : TG T T2 := f1.tg.trans f2.tg
    rcases q with ⟨f, y1, y2, y3, y4⟩ | ⟨v, k2, v1, v2, v3, v4, v5, y1, y2, y3, y4, y5, y6⟩
    · exact Or.inl (g2.bo (by simp (disch := omega) only [↓ob_some, ↓zm_some, ↓zm_none, ↓zg_true, ↓zg_in, ↓(ob_of e1), ↓(ob_of y1), reduceIte, li, lo, k_leT, k_leF, k_ltT, k_ltF, k_eqT, k_eqF, c_cl, c_sub, nI_add, pk_mul, zin_nI, zg_true, ob_some, zm_none, zm_some, if_true, if_false, Bool.false_eq_true, d_t, d_f, ob_eta, ob_eta1, m_ltn, m_nlt, m_nle, m_len, m_ne, m_ne', k_mltT, k_mltF, k_mleT, k_mleF, k_meqT, k_meqF, m_neg]) (w2.trans (WF.zp (g := 7) (v := -nI 1) (by decide))) (y2.zp (by decide)) (by simp (disch := omega) only [↓ob_some, ↓zm_some, ↓zm_none, ↓zg_true, ↓zg_in, ↓(ob_of e2), ↓(ob_of y3), reduceIte, li, lo, k_leT, k_leF, k_ltT, k_ltF, k_eqT, k_eqF, c_cl, c_sub, nI_add, pk_mul, zin_nI, zg_true, ob_some, zm_none, zm_some, if_true, if_false, Bool.false_eq_true, d_t, d_f, ob_eta, ob_eta1, m_ltn, m_nlt, m_nle, m_len, m_ne, m_ne', k_mltT, k_mltF, k_mleT, k_mleF, k_meqT, k_meqF, m_neg]) y4)
    · have h1 : 1 ≤ v := by rw [c_lt (by omega) (by omega)] at v4; omega
      have h2 : v ≤ 99 := by omega
      have s6 : zsc (zP S2 70 7 (nI v)) 70 6 = nI 4 := by
        rw [p_y, if_neg (by decide), c2.2 6 (by decide) (by decide) (by decide), c1.2 6 (by decide) (by decide) (by decide), p_y, if_pos rfl]
      have s7 : zsc (zP S2 70 7 (nI v)) 70 7 = nI v := by rw [p_y, if_pos rfl]
      have w3 : WF S (zP S2 70 7 (nI v)) := w2.trans (WF.zp (g := 7) (by decide))
      have l3 := w3.ll hn6 hl
      have tl : M_X6_tellItem pk (zP S2 70 7 (nI v)) = some (pk, zP (zP S2 70 7 (nI v)) 63 4 (nI v)) := by
        unfold M_X6_tellItem
        rw [s6, s7]
        by_cases e : v < dn d
        · have p1 := l_perY l3 hn6 e
          have ok := (l3.pe e).ok (show 6 * 1 + v < 18 by omega)
          simp (disch := omega) only [↓ob_some, ↓zm_some, ↓zm_none, ↓zg_true, ↓zg_in, ↓(ob_of p1), ↓(zg_of ok), reduceIte, li, lo, k_leT, k_leF, k_ltT, k_ltF, k_eqT, k_eqF, c_cl, c_sub, nI_add, pk_mul, zin_nI, zg_true, ob_some, zm_none, zm_some, if_true, if_false, Bool.false_eq_true, d_t, d_f, ob_eta, ob_eta1, m_ltn, m_nlt, m_nle, m_len, m_ne, m_ne', k_mltT, k_mltF, k_mleT, k_mleF, k_meqT, k_meqF, m_neg]
        · have p1 := l_perN l3 (x := nI v) (Or.inr (nI_le (by omega) (by omega)))
          simp (disch := omega) only [↓ob_some, ↓zm_some, ↓zm_none, ↓zg_true, ↓zg_in, ↓(ob_of p1), reduceIte, li, lo, k_leT, k_leF, k_ltT, k_ltF, k_eqT, k_eqF, c_cl, c_sub, nI_add, pk_mul, zin_nI, zg_true, ob_some, zm_none, zm_some, if_true, if_false, Bool.false_eq_true, d_t, d_f, ob_eta, ob_eta1, m_ltn, m_nlt, m_nle, m_len, m_ne, m_ne', k_mltT, k_mltF, k_mleT, k_mleF, k_meqT, k_meqF, m_neg]
      have fr : zFr (fun k => k = 63) (zP S2 70 7 (nI v)) (zP (zP S2 70 7 (nI v)) 63 4 (nI v)) := zFr_P rfl
      refine Or.inr ⟨k2, (dn d, dk d, dou d, nI v, dse d, dv d), pk, _, _, zP T2 0 11 (nI v), by simp (disch := omega) only [↓ob_some, ↓zm_some, ↓zm_none, ↓zg_true, ↓zg_in, ↓(ob_of e1), ↓(ob_of y1), reduceIte, li, lo, k_leT, k_leF, k_ltT, k_ltF, k_eqT, k_eqF, c_cl, c_sub, nI_add, pk_mul, zin_nI, zg_true, ob_some, zm_none, zm_some, if_true, if_false, Bool.false_eq_true, d_t, d_f, ob_eta, ob_eta1, m_ltn, m_nlt, m_nle, m_len, m_ne, m_ne', k_mltT, k_mltF, k_mleT, k_mleF, k_meqT, k_meqF, m_neg], w3, y2.zp (by decide), by omega, v3, tl, ?_, ?_, K.le1 h1 h2, (w3.pkk P0).fr fr (fun q _ => by omega), fr.mono (fun k e => Or.inl e), fun _ _ => rfl, ?_, ?_, ?_, ?_, nd_le hr hn6 (Nat.le_refl _)⟩
      · obtain ⟨x1, x2, x3, x4⟩ := l3
        refine ⟨?_, ?_, ?_, fun p hp => (x4 p hp).fr fr (fun c hc => by omega)⟩
        · show zsc (zP _ 63 4 _) 63 3 = _; rw [p_y, if_neg (by decide)]; exact x1
        · show zsc (zP _ 63 4 _) 63 4 = _; rw [p_y, if_pos rfl]; rfl
        · show zsc (zP _ 63 4 _) 63 5 = _; rw [p_y, if_neg (by decide)]; exact x3
      · obtain ⟨x1, x2, x3, x4⟩ := g2.rr hr
        refine ⟨?_, ?_, ?_, fun p hp => (x4 p hp).fr (zFr_P (P := fun k => k = 0) rfl) (fun c a b => by omega)⟩
        · rw [p_y, if_neg (by decide)]; exact x1
        · rw [p_y, if_pos rfl]; rfl
        · rw [p_y, if_neg (by decide)]; exact x3
      · simp (disch := omega) only [↓ob_some, ↓zm_some, ↓zm_none, ↓zg_true, ↓zg_in, ↓(ob_of e2), ↓(ob_of y4), y6, reduceIte, li, lo, k_leT, k_leF, k_ltT, k_ltF, k_eqT, k_eqF, c_cl, c_sub, nI_add, pk_mul, zin_nI, zg_true, ob_some, zm_none, zm_some, if_true, if_false, Bool.false_eq_true, d_t, d_f, ob_eta, ob_eta1, m_ltn, m_nlt, m_nle, m_len, m_ne, m_ne', k_mltT, k_mltF, k_mleT, k_mleF, k_meqT, k_meqF, m_neg]
      · rw [p_y, if_neg (by decide)]; exact y5
      · exact (g2.1.mono (fun k e => by unfold zRd; omega)).trans (zFr_P (by unfold zRd; omega))
      · intro g q1 q2 q3
        rw [p_y, if_neg q2]; exact g2.2 g q3
  · have nb := nb_bad (pk := pk) b1 (nI 1) (nI 99)
    exact Or.inl (f1.tg.bo (by simp (disch := omega) only [↓ob_some, ↓zm_some, ↓zm_none, ↓zg_true, ↓zg_in, ↓(ob_of e1), ↓(ob_of nb), reduceIte, li, lo, k_leT, k_leF, k_ltT, k_ltF, k_eqT, k_eqF, c_cl, c_sub, nI_add, pk_mul, zin_nI, zg_true, ob_some, zm_none, zm_some, if_true, if_false, Bool.false_eq_true, d_t, d_f, ob_eta, ob_eta1, m_ltn, m_nlt, m_nle, m_len, m_ne, m_ne', k_mltT, k_mltF, k_mleT, k_mleF, k_meqT, k_meqF, m_neg]) ((w0.trans c1.w).trans (WF.zp (g := 7) (v := -nI 1) (by decide))) (b1.zp (by decide)) (by simp (disch := omega) only [↓ob_some, ↓zm_some, ↓zm_none, ↓zg_true, ↓zg_in, ↓(ob_of e2), reduceIte, li, lo, k_leT, k_leF, k_ltT, k_ltF, k_eqT, k_eqF, c_cl, c_sub, nI_add, pk_mul, zin_nI, zg_true, ob_some, zm_none, zm_some, if_true, if_false, Bool.false_eq_true, d_t, d_f, ob_eta, ob_eta1, m_ltn, m_nlt, m_nle, m_len, m_ne, m_ne', k_mltT, k_mltF, k_mleT, k_mleF, k_meqT, k_meqF, m_neg]) z1)
/-! a word, then a person -/
theorem p_head {kd t : Nat} {rw : Option (Int32 × zSt)} {T0 : zSt} (hl : LL 1 pk S d) (hr : RR T0 d) (K : KK d) (hC : CT tx L S) (hT : TT r tx L T0) (hw : ∃ S1 T1, M_X6_readWord pk (zP S 70 6 (nI kd)) t = some S1 ∧ CF (zP S 70 6 (nI kd)) S1 ∧ TF 3 T0 T1 ∧ ((Ok S1 k1 ∧ k1 ≤ L ∧ zsc T1 0 14 = nI k1 ∧ rw = some (nI 1, T1)) ∨ (∃ f, Bad S1 f ∧ zsc T1 0 14 = nI f ∧ rw = some (nI 0, T1)))) : ∃ S2 x o, (∀ F : Int32 × zSt → Int32 → Option zSt, Option.bind (M_X6_readWord pk (zP S 70 6 (nI kd)) t) (fun w1 => Option.bind (M_X6_readNumber pk w1 (nI 0) (zsc w1 63 3 - nI 1)) (fun w2 => Option.bind (M_X6_outOf pk (zP w2.2 70 7 w2.1) (zsc (zP w2.2 70 7 w2.1) 70 7)) (fun w3 => F w2 w3))) = F (x, S2) o) ∧ WF S S2 ∧ zsc S2 70 6 = nI kd ∧ ((∃ f T1, Bad S2 f ∧ x = -nI 1 ∧ o = nI 6 ∧ TG T0 T1 ∧ zsc T1 0 14 = nI f ∧ ∀ G : Int32 × zSt → Int32 × zSt → Option (Int32 × zSt), Option.bind rw (fun w3 => (if w3.1 = nI 0 then some (nI 0, w3.2) else Option.bind (M_X12_number w3.2 (nI 0) (nI 0) (zsc w3.2 0 3 - nI 1)) (fun w5 => (if w5.1 = nI 0 then some (nI 0, w5.2) else G w3 w5)))) = some (nI 0, T1)) ∨ (∃ v k2 T1 T2, x = nI v ∧ o = nI (dou d v) ∧ v < dn d ∧ Ok S2 k2 ∧ k1 < k2 ∧ k2 ≤ L ∧ zsc S2 70 5 = nI (k1 + 1) ∧ TG T0 T2 ∧ zsc T1 0 14 = nI k1 ∧ zsc T2 0 14 = nI k2 ∧ zar T2 11 0 = nI v ∧ ∀ G : Int32 × zSt → Int32 × zSt → Option (Int32 × zSt), Option.bind rw (fun w3 => (if w3.1 = nI 0 then some (nI 0, w3.2) else Option.bind (M_X12_number w3.2 (nI 0) (nI 0) (zsc w3.2 0 3 - nI 1)) (fun w5 => (if w5.1 = nI 0 then some (nI 0, w5.2) else G w3 w5)))) = G (nI 1, T1) (nI 1, T2))) := by
  have hn6 := K.1
  have w0 : WF S (zP S 70 6 (nI kd)) := WF.zp (by decide)
  obtain ⟨S1, T1, e1, c1, f1, q⟩ := hw
  have w1 : WF S S1 := w0.trans c1.w
  have s6 : zsc S1 70 6 = nI kd := by rw [c1.2 6 (by decide) (by decide) (by decide), p_y, if_pos rfl]
  have ouB : ∀ S2, WF S S2 → M_X6_outOf pk (zP S2 70 7 (-nI 1)) (zsc (zP S2 70 7 (-nI 1)) 70 7) = some (nI 6) := fun S2 w => by
    rw [p_y, if_pos rfl]
    exact l_outN (((w.trans (WF.zp (by decide)))).ll hn6 hl)
  rcases q with ⟨o1, kl, z1, e2⟩ | ⟨f, b1, z1, e2⟩
  · have n3 : zsc S1 63 3 = nI (dn d) := (w1.ll hn6 hl).1
    have r3 : zsc T1 0 3 = nI (dn d) := (f1.tg.rr hr).1
    obtain ⟨S2, T2, c2, f2, q⟩ := p_num (pk := pk) (i := 0) (w1.ct hC) (f1.tt hT) o1 z1 kl (by decide) (nI 0) (nI (dn d) - nI 1)
    have w2 : WF S S2 := w1.trans c2.w
    have s62 : zsc S2 70 6 = nI kd := (c2.2 6 (by decide) (by decide) (by decide)).trans s6
    have g2 : TG T0 T2 := f1.tg.trans f2.tg
    rcases q with ⟨f, y1, y2, y3, y4⟩ | ⟨v, k2, v1, v2, v3, v4, v5, y1, y2, y3, y4, y5, y6⟩
    · refine ⟨S2, -nI 1, nI 6, fun F => ?_, w2, s62, Or.inl ⟨f, T2, y2, rfl, rfl, g2, y4, fun G => ?_⟩⟩
      · rw [e1, ob_some, n3, y1, ob_some, ouB S2 w2, ob_some]
      · rw [e2, ob_some]
        refine (if_neg (show ¬ nI 1 = nI 0 by decide)).trans ?_
        rw [r3, y3, ob_some]
        exact if_pos rfl
    · have vn : v < dn d := v_lt v1 hn6 v5
      have ou : M_X6_outOf pk (zP S2 70 7 (nI v)) (zsc (zP S2 70 7 (nI v)) 70 7) = some (nI (dou d v)) := by
        rw [p_y, if_pos rfl]
        exact l_outOf (((w2.trans (WF.zp (by decide)))).ll hn6 hl) K vn
      refine ⟨S2, nI v, nI (dou d v), fun F => ?_, w2, s62, Or.inr ⟨v, k2, T1, T2, rfl, rfl, vn, y2, v2, v3, y3, g2, z1, y5, y6, fun G => ?_⟩⟩
      · rw [e1, ob_some, n3, y1, ob_some, ou, ob_some]
      · rw [e2, ob_some]
        refine (if_neg (show ¬ nI 1 = nI 0 by decide)).trans ?_
        rw [r3, y4, ob_some]
        exact if_neg (show ¬ nI 1 = nI 0 by decide)
  · refine ⟨S1, -nI 1, nI 6, fun F => ?_, w1, s6, Or.inl ⟨f, T1, b1, rfl, rfl, f1.tg, z1, fun G => ?_⟩⟩
    · rw [e1, ob_some, nb_bad b1, ob_some, ouB S1 w1, ob_some]
    · rw [e2, ob_some]
      exact if_pos rfl
theorem st_0 (T : zSt) (x : Int32) : M_X12_stands T x (nI 0) = some (nI 0, zP T 0 14 x) := nr rfl
theorem st_1 (T : zSt) (x : Int32) : M_X12_stands T x (nI 1) = some (nI 1, T) := nr rfl
theorem tl_per {S : zSt} (h : LL 1 pk S d) (K : KK d) (hv : v < dn d) : M_X4_personAt pk S 1 (nI v) = some (some (6 * 1 + v)) ∧ zOKb pk (6 * 1 + v) = true := by
  have hn := K.1
  exact ⟨l_perY h hn hv, (h.pe hv).ok (by omega)⟩
theorem p_dies (hl : LL 1 pk S d) (hr : RR T d) (K : KK d) (P0 : PK pk S) (hC : CT tx L S) (hT : TT r tx L T) (o : Ok S k) (h14 : zsc T 0 14 = nI k) (hk : k ≤ L) : ItO pk S T k L (M_X6_readDying pk S) (Option.bind (M_X12_word T 3) (fun w3 => (if w3.1 = nI 0 then some (nI 0, w3.2) else Option.bind (M_X12_number w3.2 (nI 0) (nI 0) (((zsc w3.2 0 3) - nI 1))) (fun w5 => (if w5.1 = nI 0 then some (nI 0, w5.2) else zg (zin (nI 0) 3) (zg (zin ((zar w5.2 11 (Int32.toNatClampNeg (nI 0)))) 6) ((if nI 6 ≤ (zar w5.2 7 (Int32.toNatClampNeg ((zar w5.2 11 (Int32.toNatClampNeg (nI 0)))))) then M_X12_item_B214 w5.2 (nI 0) (((zsc w3.2 0 14) + nI 1)) else M_X12_item_B214 w5.2 (nI 1) (((zsc w3.2 0 14) + nI 1)))))))))) := by
  have hn6 := K.1
  have hL := hC.2.1
  have w0 : WF S (zP S 70 6 (nI 3)) := WF.zp (by decide)
  obtain ⟨S2, x, ou, hF, w2, s6, q⟩ := p_head (kd := 3) (t := 3) (k1 := k + wl 3) hl hr K hC hT (p_w (pk := pk) (t := 3) (by decide) (w0.ct hC) hT (o.zp (v := nI 3) (g := 6) (by decide)) h14 hk)
  have ed : M_X6_readDying pk S = (fun (w2 : Int32 × zSt) (w3 : Int32) => (if w3 < nI 6 then some ((zP w2.2 70 7 w2.1)) else Option.bind (M_X6_faultAt pk ((zP w2.2 70 7 w2.1)) ((zsc ((zP w2.2 70 7 w2.1)) 70 5))) (fun w5 => some w5))) (x, S2) ou := hF (fun (w2 : Int32 × zSt) (w3 : Int32) => (if w3 < nI 6 then some ((zP w2.2 70 7 w2.1)) else Option.bind (M_X6_faultAt pk ((zP w2.2 70 7 w2.1)) ((zsc ((zP w2.2 70 7 w2.1)) 70 5))) (fun w5 => some w5)))
  have w3 : WF S (zP S2 70 7 x) := w2.trans (WF.zp (by decide))
  rcases q with ⟨f, T1, b1, rfl, rfl, g1, z1, hG⟩ | ⟨v, k2, T1, T2, rfl, rfl, vn, o2, k12, k2L, n5, g2, z1, z2, a0, hG⟩
  · refine Or.inl (g1.bo (S1 := zP S2 70 7 (-nI 1)) ?_ w3 (b1.zp (by decide)) (hG _) z1)
    rw [ed]
    refine (if_neg (by decide)).trans ?_
    rw [fa_bad (b1.zp (by decide))]
    rfl
  · have rp := (g2.rr hr).pe vn
    have kp := K.pe vn
    have ro := rp.ou
    have ko := kp.2.1
    rw [hG]
    by_cases e : dou d v < 6
    · have l3 := w3.ll hn6 hl
      obtain ⟨p1, ok⟩ := tl_per l3 K vn
      have lo := (l3.pe vn).ou
      have s63 : zsc (zP S2 70 7 (nI v)) 70 6 = nI 3 := by rw [p_y, if_neg (by decide)]; exact s6
      have s7 : zsc (zP S2 70 7 (nI v)) 70 7 = nI v := by rw [p_y, if_pos rfl]
      have tl : M_X6_tellItem pk (zP S2 70 7 (nI v)) = some (pk, zP (zP S2 70 7 (nI v)) (100 + 4 * (6 * 1 + v)) 8 (nI (dou d v + 1))) := by
        unfold M_X6_tellItem
        rw [s63, s7]
        simp (disch := omega) only [↓ob_some, ↓zm_some, ↓zm_none, ↓zg_true, ↓zg_in, ↓(ob_of p1), ↓(zg_of ok), lo, reduceIte, li, lo, k_leT, k_leF, k_ltT, k_ltF, k_eqT, k_eqF, c_cl, c_sub, nI_add, pk_mul, zin_nI, zg_true, ob_some, zm_none, zm_some, if_true, if_false, Bool.false_eq_true, d_t, d_f, ob_eta, ob_eta1, m_ltn, m_nlt, m_nle, m_len, m_ne, m_ne', k_mltT, k_mltF, k_mleT, k_mleF, k_meqT, k_meqF, m_neg]
      refine Or.inr ⟨k2, dDie d v, pk, _, _, zAs T2 7 v (nI (dou d v + 1)), ?_, w3, o2.zp (by decide), by omega, k2L, tl, l3.die, (g2.rr hr).die, K.die e, (w3.pkk P0).die, zFr_P (Or.inr (by unfold zZ; omega)), fun _ _ => rfl, ?_, z2, (g2.1.mono (fun k e => by unfold zRd; omega)).trans (zFr_As (by unfold zRd; omega)), fun g q1 q2 q3 => g2.2 g q3, nd_le hr hn6 (Nat.le_refl _)⟩
      · rw [ed]
        exact if_pos (by rw [c_lt (by omega) (by decide)]; exact e)
      · dsimp only
        simp (disch := omega) only [reduceIte, li, lo, k_leT, k_leF, k_ltT, k_ltF, k_eqT, k_eqF, c_cl, c_sub, nI_add, pk_mul, zin_nI, zg_true, ob_some, zm_none, zm_some, if_true, if_false, Bool.false_eq_true, d_t, d_f, ob_eta, ob_eta1, m_ltn, m_nlt, m_nle, m_len, m_ne, m_ne', k_mltT, k_mltF, k_mleT, k_mleF, k_meqT, k_meqF, m_neg, M_X12_item_B214, st_0, st_1, a0, ro]
    · refine Or.inl ((g2.trans TG.zp).bo (T' := zP T2 0 14 (nI (k + wl 3 + 1))) (S1 := zP (zP S2 70 7 (nI v)) 70 4 (nI (k + wl 3 + 1))) ?_ (w3.trans (WF.zp (by decide))) ⟨by rw [p_y, if_pos rfl], by omega⟩ ?_ (by rw [p_y, if_pos rfl]))
      · rw [ed]
        refine (if_neg (by rw [c_lt (by omega) (by decide)]; exact e)).trans ?_
        rw [fa_ok (o2.zp (by decide)).2, p_y, if_neg (by decide), n5]
        rfl
      · dsimp only
        simp (disch := omega) only [reduceIte, li, lo, k_leT, k_leF, k_ltT, k_ltF, k_eqT, k_eqF, c_cl, c_sub, nI_add, pk_mul, zin_nI, zg_true, ob_some, zm_none, zm_some, if_true, if_false, Bool.false_eq_true, d_t, d_f, ob_eta, ob_eta1, m_ltn, m_nlt, m_nle, m_len, m_ne, m_ne', k_mltT, k_mltF, k_mleT, k_mleF, k_meqT, k_meqF, m_neg, M_X12_item_B214, st_0, st_1, a0, ro, z1]
end ITM
