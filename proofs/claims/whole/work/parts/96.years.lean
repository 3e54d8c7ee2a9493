/-! PERSON, IMAGE, RESTORE; YEARS -/
def zStG (pk : Nat → Nat) (o1 : Option (Int32 × (Nat → Nat) × zSt)) (o2 : zSt → Option (Int32 × zSt)) : Prop := ∃ r pk' S1 S2, o1 = some (r, pk', S1) ∧ o2 S1 = some (r, S2) ∧ ∃ d, Inv pk' S2 d
def nx (s : Int32) : Int32 := s * 1103515245 + 12345
def drw (x : Int32) : Nat := (Int32.toUInt32 x >>> (Int32.toUInt32 16 &&& Int32.toUInt32 31)).toInt32.toBitVec.toNat
theorem drw_n (x : Int32) : drw x < 65536 := by
  unfold drw
  rw [pk_ushr x 16 16 (by decide)]
  have := x.toBitVec.isLt
  omega
theorem drw_e (x : Int32) : (Int32.toUInt32 x >>> (Int32.toUInt32 16 &&& Int32.toUInt32 31)).toInt32 = nI (drw x) := by
  unfold drw nI
  apply Int32.toBitVec_inj.mp
  rw [Int32.toBitVec_ofNat', BitVec.ofNat_toNat, BitVec.setWidth_eq]
theorem drw_m (x : Int32) {n : Nat} (h : 0 < n) (hn : n < 1000) : (Int32.toUInt32 x >>> (Int32.toUInt32 16 &&& Int32.toUInt32 31)).toInt32 - (Int32.toUInt32 x >>> (Int32.toUInt32 16 &&& Int32.toUInt32 31)).toInt32 / nI n * nI n = nI (drw x % n) := by
  rw [drw_e]
  have := drw_n x
  exact pk_rem (by omega) h (by omega)
def dSd (d : zD) (v : Int32) : zD := (dn d, dk d, dou d, dle d, v, dv d)
section YEA
variable {P P2 : Nat → Prop} {pk pk' : Nat → Nat} {S S' S1 S2 T : zSt} {i j q p n k c x : Nat} {d d' : zD} {a t v : Int32}
theorem Inv.upG (h : Inv pk S d) (f : zFr P S S2) (hP : ∀ k, P k → zUp k ∨ zZ 1 k) (h15 : zsc S2 0 15 = zsc S 0 15) (h17 : zsc S2 0 17 = zsc S 0 17) (h20 : zsc S2 0 20 = zsc S 0 20) (hk : ∀ q, 12 ≤ q → q < 18 → pk' q = pk q) (K' : KK d') (hn : dn d ≤ dn d') (L' : LL 0 pk' S2 d') (R' : RR S2 d') (P' : PK pk' S2) : Inv pk' S2 d' := by
  have hq : ∀ k, ¬ (zUp k ∨ zZ 1 k) → ¬ P k := fun k q r => q (hP k r)
  unfold zUp zIr zZ at hq
  refine ⟨K', L', R', P', ?_, h.tr.fr f h17 (hq _ (by omega)) (hq _ (by omega)) (hq _ (by omega)), h.rf.fr f (hq _ (by omega)) (hq _ (by omega)), ?_, ?_⟩
  · have := h.sh.fr f (hq _ (by omega)) (hq _ (by omega)) (hq _ (by omega)) (fun k a b => hq _ (by omega))
    intro s hs
    obtain ⟨m, x1, x2, x3, x4, x5, x6⟩ := this s hs
    refine ⟨m, x1, x2, x3, x4, x5, ?_⟩
    rcases x6 with y | ⟨p, hp, y⟩ | y
    · exact Or.inl y
    · exact Or.inr (Or.inl ⟨p, by omega, y⟩)
    · exact Or.inr (Or.inr y)
  · rw [f.sc (hq 20 (by omega)), h15]
    exact h.fa
  · rcases h.im with ⟨a, b⟩ | ⟨a, b, e, c1, c2, c3⟩
    · exact Or.inl ⟨by rw [f.sc (hq 20 (by omega))]; exact a, h20.trans b⟩
    · exact Or.inr ⟨by rw [f.sc (hq 20 (by omega))]; exact a, h20.trans b, e, c1, c2.mv c1.1 f (hq _ (by omega)) (fun k a b => hq _ (by omega)) (fun q a b => hk q (by omega) (by omega)), c3.fr f (hq _ (by omega))⟩
theorem stg_no (h : Inv pk S d) (c : Nat) {o1 : Option (Int32 × (Nat → Nat) × zSt)} {o2 : zSt → Option (Int32 × zSt)} (h1 : 1 ≤ c) (h2 : c ≤ 7) (e1 : o1 = Option.bind (M_X11_refuse pk S (-nI c)) (fun w => some (w.1, pk, w.2))) (e2 : o2 (zR1 S c) = M_X12_no (zR1 S c) (-nI c)) : zStG pk o1 o2 := by
  refine ⟨-nI c, pk, zR1 S c, zR2 S c, ?_, e2.trans (r_no S h1 h2), d, h.no (by omega)⟩
  rw [e1, l_ref pk S h1 h2]
  rfl
theorem f1L (h : RR S d) (f : zFr (zL1 0) S T) : RR T d := h.fr0 f (fun k a => by unfold zL1 zZ; omega)
theorem s_person (h : Inv pk S d) (x1 x2 x3 : Int32) : zStG pk (M_X11_person pk S x1 x2 x3) (fun T => M_X12_person T x1 x2 x3) := by
  unfold M_X11_person M_X12_person M_X11_person_B10 M_X11_person_B37 M_X12_person_B36
  have hn6 := h.k.1
  rcases ix x1 7 (by decide) (by decide) with ⟨q, -⟩ | ⟨q1, -, q2, q3, q4, q5⟩ | ⟨k, hk, rfl⟩
  · exact stg_no h 1 (by decide) (by decide) (by simp (disch := omega) only [↓ob_some, ↓zm_some, ↓zm_none, ↓zg_true, ↓zg_in, q, reduceIte, li, lo, k_leT, k_leF, k_ltT, k_ltF, k_eqT, k_eqF, c_cl, c_sub, nI_add, pk_mul, zin_nI, zg_true, ob_some, zm_none, zm_some, if_true, if_false, Bool.false_eq_true, d_t, d_f, ob_eta, ob_eta1, m_ltn, m_nlt, m_nle, m_len, m_ne, m_ne', k_mltT, k_mltF, k_mleT, k_mleF, k_meqT, k_meqF, m_neg]) (by simp (disch := omega) only [↓ob_some, ↓zm_some, ↓zm_none, ↓zg_true, ↓zg_in, ↓(ob_of (w_lo (b := nI 6) (zR1 S 1) q)), reduceIte, li, lo, k_leT, k_leF, k_ltT, k_ltF, k_eqT, k_eqF, c_cl, c_sub, nI_add, pk_mul, zin_nI, zg_true, ob_some, zm_none, zm_some, if_true, if_false, Bool.false_eq_true, d_t, d_f, ob_eta, ob_eta1, m_ltn, m_nlt, m_nle, m_len, m_ne, m_ne', k_mltT, k_mltF, k_mleT, k_mleF, k_meqT, k_meqF, m_neg])
  · exact stg_no h 1 (by decide) (by decide) (by simp (disch := omega) only [↓ob_some, ↓zm_some, ↓zm_none, ↓zg_true, ↓zg_in, q1, q4, reduceIte, li, lo, k_leT, k_leF, k_ltT, k_ltF, k_eqT, k_eqF, c_cl, c_sub, nI_add, pk_mul, zin_nI, zg_true, ob_some, zm_none, zm_some, if_true, if_false, Bool.false_eq_true, d_t, d_f, ob_eta, ob_eta1, m_ltn, m_nlt, m_nle, m_len, m_ne, m_ne', k_mltT, k_mltF, k_mleT, k_mleF, k_meqT, k_meqF, m_neg]) (by simp (disch := omega) only [↓ob_some, ↓zm_some, ↓zm_none, ↓zg_true, ↓zg_in, ↓(ob_of (w_hi (a := nI 0) (zR1 S 1) (show nI 6 < x1 from q3))), reduceIte, li, lo, k_leT, k_leF, k_ltT, k_ltF, k_eqT, k_eqF, c_cl, c_sub, nI_add, pk_mul, zin_nI, zg_true, ob_some, zm_none, zm_some, if_true, if_false, Bool.false_eq_true, d_t, d_f, ob_eta, ob_eta1, m_ltn, m_nlt, m_nle, m_len, m_ne, m_ne', k_mltT, k_mltF, k_mleT, k_mleF, k_meqT, k_meqF, m_neg])
  · have wk := fun T => w_n (a := 0) (b := 6) T (Nat.zero_le _) (show k ≤ 6 by omega) (by decide)
    rcases cR x2 0 9 (by decide) (by decide) with q | ⟨q1, q2, q3⟩ | ⟨a, a1, a2, rfl⟩
    · exact stg_no h 6 (by decide) (by decide) (by simp (disch := omega) only [↓ob_some, ↓zm_some, ↓zm_none, ↓zg_true, ↓zg_in, q, reduceIte, li, lo, k_leT, k_leF, k_ltT, k_ltF, k_eqT, k_eqF, c_cl, c_sub, nI_add, pk_mul, zin_nI, zg_true, ob_some, zm_none, zm_some, if_true, if_false, Bool.false_eq_true, d_t, d_f, ob_eta, ob_eta1, m_ltn, m_nlt, m_nle, m_len, m_ne, m_ne', k_mltT, k_mltF, k_mleT, k_mleF, k_meqT, k_meqF, m_neg]) (by simp (disch := omega) only [↓ob_some, ↓zm_some, ↓zm_none, ↓zg_true, ↓zg_in, ↓(ob_of (wk (zR1 S 6))), ↓(ob_of (w_lo (b := nI 9) (zR1 S 6) q)), reduceIte, li, lo, k_leT, k_leF, k_ltT, k_ltF, k_eqT, k_eqF, c_cl, c_sub, nI_add, pk_mul, zin_nI, zg_true, ob_some, zm_none, zm_some, if_true, if_false, Bool.false_eq_true, d_t, d_f, ob_eta, ob_eta1, m_ltn, m_nlt, m_nle, m_len, m_ne, m_ne', k_mltT, k_mltF, k_mleT, k_mleF, k_meqT, k_meqF, m_neg])
    · exact stg_no h 6 (by decide) (by decide) (by simp (disch := omega) only [↓ob_some, ↓zm_some, ↓zm_none, ↓zg_true, ↓zg_in, q1, q2, reduceIte, li, lo, k_leT, k_leF, k_ltT, k_ltF, k_eqT, k_eqF, c_cl, c_sub, nI_add, pk_mul, zin_nI, zg_true, ob_some, zm_none, zm_some, if_true, if_false, Bool.false_eq_true, d_t, d_f, ob_eta, ob_eta1, m_ltn, m_nlt, m_nle, m_len, m_ne, m_ne', k_mltT, k_mltF, k_mleT, k_mleF, k_meqT, k_meqF, m_neg]) (by simp (disch := omega) only [↓ob_some, ↓zm_some, ↓zm_none, ↓zg_true, ↓zg_in, ↓(ob_of (wk (zR1 S 6))), ↓(ob_of (w_hi (a := nI 0) (zR1 S 6) q2)), reduceIte, li, lo, k_leT, k_leF, k_ltT, k_ltF, k_eqT, k_eqF, c_cl, c_sub, nI_add, pk_mul, zin_nI, zg_true, ob_some, zm_none, zm_some, if_true, if_false, Bool.false_eq_true, d_t, d_f, ob_eta, ob_eta1, m_ltn, m_nlt, m_nle, m_len, m_ne, m_ne', k_mltT, k_mltF, k_mleT, k_mleF, k_meqT, k_meqF, m_neg])
    · have wa := fun T => w_n (a := 0) (b := 9) T (Nat.zero_le _) (show a ≤ 9 by omega) (by decide)
      rcases cR x3 1 20 (by decide) (by decide) with q | ⟨q1, q2, q3⟩ | ⟨t, t1, t2, rfl⟩
      · exact stg_no h 6 (by decide) (by decide) (by simp (disch := omega) only [↓ob_some, ↓zm_some, ↓zm_none, ↓zg_true, ↓zg_in, q, reduceIte, li, lo, k_leT, k_leF, k_ltT, k_ltF, k_eqT, k_eqF, c_cl, c_sub, nI_add, pk_mul, zin_nI, zg_true, ob_some, zm_none, zm_some, if_true, if_false, Bool.false_eq_true, d_t, d_f, ob_eta, ob_eta1, m_ltn, m_nlt, m_nle, m_len, m_ne, m_ne', k_mltT, k_mltF, k_mleT, k_mleF, k_meqT, k_meqF, m_neg]) (by simp (disch := omega) only [↓ob_some, ↓zm_some, ↓zm_none, ↓zg_true, ↓zg_in, ↓(ob_of (wk (zR1 S 6))), ↓(ob_of (wa (zR1 S 6))), ↓(ob_of (w_lo (b := nI 20) (zR1 S 6) q)), reduceIte, li, lo, k_leT, k_leF, k_ltT, k_ltF, k_eqT, k_eqF, c_cl, c_sub, nI_add, pk_mul, zin_nI, zg_true, ob_some, zm_none, zm_some, if_true, if_false, Bool.false_eq_true, d_t, d_f, ob_eta, ob_eta1, m_ltn, m_nlt, m_nle, m_len, m_ne, m_ne', k_mltT, k_mltF, k_mleT, k_mleF, k_meqT, k_meqF, m_neg])
      · exact stg_no h 6 (by decide) (by decide) (by simp (disch := omega) only [↓ob_some, ↓zm_some, ↓zm_none, ↓zg_true, ↓zg_in, q1, q3, reduceIte, li, lo, k_leT, k_leF, k_ltT, k_ltF, k_eqT, k_eqF, c_cl, c_sub, nI_add, pk_mul, zin_nI, zg_true, ob_some, zm_none, zm_some, if_true, if_false, Bool.false_eq_true, d_t, d_f, ob_eta, ob_eta1, m_ltn, m_nlt, m_nle, m_len, m_ne, m_ne', k_mltT, k_mltF, k_mleT, k_mleF, k_meqT, k_meqF, m_neg]) (by simp (disch := omega) only [↓ob_some, ↓zm_some, ↓zm_none, ↓zg_true, ↓zg_in, ↓(ob_of (wk (zR1 S 6))), ↓(ob_of (wa (zR1 S 6))), ↓(ob_of (w_hi (a := nI 1) (zR1 S 6) q2)), reduceIte, li, lo, k_leT, k_leF, k_ltT, k_ltF, k_eqT, k_eqF, c_cl, c_sub, nI_add, pk_mul, zin_nI, zg_true, ob_some, zm_none, zm_some, if_true, if_false, Bool.false_eq_true, d_t, d_f, ob_eta, ob_eta1, m_ltn, m_nlt, m_nle, m_len, m_ne, m_ne', k_mltT, k_mltF, k_mleT, k_mleF, k_meqT, k_meqF, m_neg])
      · have wt := fun T => w_n (a := 1) (b := 20) T t1 t2 (by decide)
        by_cases e : dn d < 6
        · obtain ⟨pk', S1, e1, L1, P1, f1, k1⟩ := l_add (k := k) (a := nI a) (t := nI t) h.l h.pe e (by decide) (by omega)
          obtain ⟨T1, e2, R2, f2, c2⟩ := r_new (k := k) (a := nI a) (t := nI t) (f1L h.r f1) e
          have hr : M_X4_hasRoom pk S 0 = some (nI 1) := by unfold M_X4_hasRoom; simp (disch := omega) only [reduceIte, li, lo, k_leT, k_leF, k_ltT, k_ltF, k_eqT, k_eqF, c_cl, c_sub, nI_add, pk_mul, zin_nI, zg_true, ob_some, zm_none, zm_some, if_true, if_false, Bool.false_eq_true, d_t, d_f, ob_eta, ob_eta1, m_ltn, m_nlt, m_nle, m_len, m_ne, m_ne', k_mltT, k_mltF, k_mleT, k_mleF, k_meqT, k_meqF, m_neg, h.l.1]
          have c0 : zsc S1 0 = zsc S 0 := f1.sc (by unfold zL1 zZ; omega)
          have n0 : zsc S1 0 3 = nI (dn d) := by rw [c0]; exact h.r.1
          have F : zFr (fun k => zL1 0 k ∨ k = 0 ∨ (4 ≤ k ∧ k ≤ 10)) S T1 := (f1.mono (fun k z => Or.inl z)).trans (f2.mono (fun k z => Or.inr z))
          refine ⟨nI (dn d), pk', S1, T1, ?_, ?_, dAdd d k (nI a) (nI t), h.upG F (fun k z => ?_) (by rw [c2 15 (by decide), c0]) (by rw [c2 17 (by decide), c0]) (by rw [c2 20 (by decide), c0]) (fun q x y => k1 q (by omega)) (h.k.add e (by omega) (by omega)) (by show dn d ≤ dn d + 1; omega) (L1.fr (by show dn d + 1 ≤ 6; omega) f2 (by omega) (fun k a b => by omega)) R2 (P1.fr f2 (fun q _ => by omega))⟩
          · unfold zlet3
            simp (disch := omega) only [↓ob_some, ↓zm_some, ↓zm_none, ↓zg_true, ↓zg_in, ↓(ob_of hr), ↓(zg_of dec11), ↓(ob_of e1), reduceIte, li, lo, k_leT, k_leF, k_ltT, k_ltF, k_eqT, k_eqF, c_cl, c_sub, nI_add, pk_mul, zin_nI, zg_true, ob_some, zm_none, zm_some, if_true, if_false, Bool.false_eq_true, d_t, d_f, ob_eta, ob_eta1, m_ltn, m_nlt, m_nle, m_len, m_ne, m_ne', k_mltT, k_mltF, k_mleT, k_mleF, k_meqT, k_meqF, m_neg]
          · simp (disch := omega) only [↓ob_some, ↓zm_some, ↓zm_none, ↓zg_true, ↓zg_in, ↓(ob_of (wk S1)), ↓(ob_of (wa S1)), ↓(ob_of (wt S1)), n0, ↓(ob_of e2), reduceIte, li, lo, k_leT, k_leF, k_ltT, k_ltF, k_eqT, k_eqF, c_cl, c_sub, nI_add, pk_mul, zin_nI, zg_true, ob_some, zm_none, zm_some, if_true, if_false, Bool.false_eq_true, d_t, d_f, ob_eta, ob_eta1, m_ltn, m_nlt, m_nle, m_len, m_ne, m_ne', k_mltT, k_mltF, k_mleT, k_mleF, k_meqT, k_meqF, m_neg]
          · left
            unfold zUp zIr zZ
            unfold zL1 zZ at z
            omega
        · have e6 : dn d = 6 := by omega
          have hr : M_X4_hasRoom pk S 0 = some (nI 0) := by unfold M_X4_hasRoom; simp (disch := omega) only [reduceIte, li, lo, k_leT, k_leF, k_ltT, k_ltF, k_eqT, k_eqF, c_cl, c_sub, nI_add, pk_mul, zin_nI, zg_true, ob_some, zm_none, zm_some, if_true, if_false, Bool.false_eq_true, d_t, d_f, ob_eta, ob_eta1, m_ltn, m_nlt, m_nle, m_len, m_ne, m_ne', k_mltT, k_mltF, k_mleT, k_mleF, k_meqT, k_meqF, m_neg, h.l.1]
          have n0 : zsc (zR1 S 7) 0 3 = nI (dn d) := h.r.1
          exact stg_no h 7 (by decide) (by decide) (by simp (disch := omega) only [↓ob_some, ↓zm_some, ↓zm_none, ↓zg_true, ↓zg_in, ↓(ob_of hr), reduceIte, li, lo, k_leT, k_leF, k_ltT, k_ltF, k_eqT, k_eqF, c_cl, c_sub, nI_add, pk_mul, zin_nI, zg_true, ob_some, zm_none, zm_some, if_true, if_false, Bool.false_eq_true, d_t, d_f, ob_eta, ob_eta1, m_ltn, m_nlt, m_nle, m_len, m_ne, m_ne', k_mltT, k_mltF, k_mleT, k_mleF, k_meqT, k_meqF, m_neg]) (by simp (disch := omega) only [↓ob_some, ↓zm_some, ↓zm_none, ↓zg_true, ↓zg_in, ↓(ob_of (wk (zR1 S 7))), ↓(ob_of (wa (zR1 S 7))), ↓(ob_of (wt (zR1 S 7))), n0, reduceIte, li, lo, k_leT, k_leF, k_ltT, k_ltF, k_eqT, k_eqF, c_cl, c_sub, nI_add, pk_mul, zin_nI, zg_true, ob_some, zm_none, zm_some, if_true, if_false, Bool.false_eq_true, d_t, d_f, ob_eta, ob_eta1, m_ltn, m_nlt, m_nle, m_len, m_ne, m_ne', k_mltT, k_mltF, k_mleT, k_mleF, k_meqT, k_meqF, m_neg])
theorem s_image (h : Inv pk S d) : zStG pk (M_X11_image pk S) (fun T => M_X12_image T) := by
  obtain ⟨pk', S1, e1, L2, L0, P1, f1, k1⟩ := l_takeFrom (i := 2) (j := 0) h.l h.k h.pe (by decide) (by decide) (by decide)
  have hR : RR (zP (zP S1 20 12 (nI 1)) 0 20 (nI 1)) d := by
    refine (h.r.fr0 f1 (fun k a => by unfold zL1 zZ; omega)).fr ((zFr_P (P := fun k => k = 20 ∨ k = 0) (Or.inl rfl)).trans (zFr_P (Or.inr rfl))) rfl rfl rfl (fun k a b => by omega)
  obtain ⟨T1, e2, f2, g2⟩ := r_keepS hR h.k.1 (k := 14) (Or.inl rfl)
  have F1 : zFr (fun k => zL1 2 k ∨ k = 20 ∨ k = 0 ∨ k = 14) S T1 := (((f1.mono (fun k z => Or.inl z)).trans (zFr_P (by omega))).trans (zFr_P (by omega))).trans (f2.mono (fun k z => by omega))
  have c0 : zsc S1 0 = zsc S 0 := f1.sc (by unfold zL1 zZ; omega)
  have c20 : zsc S1 20 = zsc S 20 := f1.sc (by unfold zL1 zZ; omega)
  have t0 : ∀ g, g ≠ 20 → zsc T1 0 g = zsc S 0 g := fun g hg => by rw [f2.sc (by decide), p_y, if_neg hg, p_n (by decide), c0]
  have t20 : zsc T1 20 13 = zsc S 20 13 := by rw [f2.sc (by decide), p_n (by decide), p_y, if_neg (by decide), c20]
  have f3 : zFr (fun k => k = 20 ∨ k = 0 ∨ k = 14) S1 T1 := ((zFr_P (Or.inl rfl)).trans (zFr_P (Or.inr (Or.inl rfl)))).trans (f2.mono (fun k z => Or.inr (Or.inr z)))
  refine ⟨nI (dn d), pk', zP S1 20 12 (nI 1), T1, ?_, ?_, d, h.k, L0.fr h.k.1 f3 (by omega) (fun k a b => by omega), h.r.fr F1 (t0 3 (by decide)) (t0 11 (by decide)) (t0 12 (by decide)) (fun k a b => by unfold zL1 zZ; omega), P1.fr f3 (fun q _ => by omega), h.sh.fr F1 (by unfold zL1 zZ; omega) (by unfold zL1 zZ; omega) (by unfold zL1 zZ; omega) (fun k a b => by unfold zL1 zZ; omega), h.tr.fr F1 (t0 17 (by decide)) (by unfold zL1 zZ; omega) (by unfold zL1 zZ; omega) (by unfold zL1 zZ; omega), h.rf.fr F1 (by unfold zL1 zZ; omega) (by unfold zL1 zZ; omega), ?_, Or.inr ⟨?_, ?_, d, h.k, L2.fr h.k.1 f3 (by omega) (fun k a b => by omega), g2⟩⟩
  · unfold M_X11_image zlet2
    have db : decide (6 ≤ 6) = true := rfl
    have n2 : zsc (zP S1 20 12 (nI 1)) 66 3 = nI (dn d) := L2.1
    simp (disch := omega) only [↓ob_some, ↓zm_some, ↓zm_none, ↓zg_true, ↓zg_in, ↓(zg_of db), ↓(ob_of e1), n2, reduceIte, li, lo, k_leT, k_leF, k_ltT, k_ltF, k_eqT, k_eqF, c_cl, c_sub, nI_add, pk_mul, zin_nI, zg_true, ob_some, zm_none, zm_some, if_true, if_false, Bool.false_eq_true, d_t, d_f, ob_eta, ob_eta1, m_ltn, m_nlt, m_nle, m_len, m_ne, m_ne', k_mltT, k_mltF, k_mleT, k_mleF, k_meqT, k_meqF, m_neg]
  · unfold M_X12_image
    have n3 : zsc T1 0 3 = nI (dn d) := (t0 3 (by decide)).trans h.r.1
    simp (disch := omega) only [↓ob_some, ↓zm_some, ↓zm_none, ↓zg_true, ↓zg_in, ↓(ob_of e2), n3, reduceIte, li, lo, k_leT, k_leF, k_ltT, k_ltF, k_eqT, k_eqF, c_cl, c_sub, nI_add, pk_mul, zin_nI, zg_true, ob_some, zm_none, zm_some, if_true, if_false, Bool.false_eq_true, d_t, d_f, ob_eta, ob_eta1, m_ltn, m_nlt, m_nle, m_len, m_ne, m_ne', k_mltT, k_mltF, k_mleT, k_mleF, k_meqT, k_meqF, m_neg]
  · rw [t20, t0 15 (by decide)]; exact h.fa
  · rw [f2.sc (by decide), p_n (by decide), p_y, if_pos rfl]
  · rw [f2.sc (by decide), p_y, if_pos rfl]
/-- what a shelf holds when there are n persons -/
def nhd (n : Nat) (v : Int32) : Int32 := if v < nI 100 ∧ ¬ v < nI n then -nI 1 else v
theorem l_shel (hL : LL 0 pk S d) (hn6 : dn d ≤ 6) (hv : ∀ s, s < 8 → zsc S (40 + 2 * s) 1 = -nI 1 ∨ (∃ p, p < 6 ∧ zsc S (40 + 2 * s) 1 = nI p) ∨ ∃ t, t < 4 ∧ zsc S (40 + 2 * s) 1 = nI (100 + t)) : ∃ S', M_X11_restore_B27 zF pk S (6 - 6) (nI 0) = some (nI (dn d), pk, S') ∧ zFr (fun k => 40 ≤ k ∧ k < 56) S S' ∧ (∀ s, s < 8 → zsc S' (40 + 2 * s) 1 = nhd (dn d) (zsc S (40 + 2 * s) 1) ∧ zsc S' (40 + 2 * s) 2 = zsc S (40 + 2 * s) 2 ∧ zlo S' (40 + 2 * s + 1) = zlo S (40 + 2 * s + 1)) := by
  have key := lpR (fun n (u : zSt) z => M_X11_restore_B27 n pk u (6 - 6) z) (fun (u : Unit) _ => u) (fun z u _ => zFr (fun k => 40 ≤ k ∧ k < 56) S u ∧ (∀ s, s < 8 → zsc u (40 + 2 * s) 1 = (if s < z then nhd (dn d) (zsc S (40 + 2 * s) 1) else zsc S (40 + 2 * s) 1) ∧ zsc u (40 + 2 * s) 2 = zsc S (40 + 2 * s) 2 ∧ zlo u (40 + 2 * s + 1) = zlo S (40 + 2 * s + 1))) (fun _ o => ∃ S', o = some (nI (dn d), pk, S') ∧ zFr (fun k => 40 ≤ k ∧ k < 56) S S' ∧ (∀ s, s < 8 → zsc S' (40 + 2 * s) 1 = nhd (dn d) (zsc S (40 + 2 * s) 1) ∧ zsc S' (40 + 2 * s) 2 = zsc S (40 + 2 * s) 2 ∧ zlo S' (40 + 2 * s + 1) = zlo S (40 + 2 * s + 1))) 8 (fun n u _ hR => by
      have e : zsc u 60 3 = nI (dn d) := by rw [hR.1.sc (by omega)]; exact hL.1
      refine ⟨u, by simp (disch := omega) only [reduceIte, li, lo, k_leT, k_leF, k_ltT, k_ltF, k_eqT, k_eqF, c_cl, c_sub, nI_add, pk_mul, zin_nI, zg_true, ob_some, zm_none, zm_some, if_true, if_false, Bool.false_eq_true, d_t, d_f, ob_eta, ob_eta1, m_ltn, m_nlt, m_nle, m_len, m_ne, m_ne', k_mltT, k_mltF, k_mleT, k_mleF, k_meqT, k_meqF, m_neg, M_X11_restore_B27, e], hR.1, fun s hs => ?_⟩
      have := hR.2 s hs
      rw [if_pos hs] at this
      exact this) (fun n u _ z hz hR => by
      have sa : M_X11_shelfAt pk u (nI z) = some (some z) := by unfold M_X11_shelfAt; simp (disch := omega) only [reduceIte, li, lo, k_leT, k_leF, k_ltT, k_ltF, k_eqT, k_eqF, c_cl, c_sub, nI_add, pk_mul, zin_nI, zg_true, ob_some, zm_none, zm_some, if_true, if_false, Bool.false_eq_true, d_t, d_f, ob_eta, ob_eta1, m_ltn, m_nlt, m_nle, m_len, m_ne, m_ne', k_mltT, k_mltF, k_mleT, k_mleF, k_meqT, k_meqF, m_neg]
      have dz : decide (z < 8) = true := decide_eq_true hz
      have hh := (hR.2 z hz).1
      rw [if_neg (Nat.lt_irrefl z)] at hh
      have hL' : LL 0 pk u d := hL.fr hn6 hR.1 (by omega) (fun k a b => by omega)
      have same : nhd (dn d) (zsc S (40 + 2 * z) 1) = zsc S (40 + 2 * z) 1 → M_X11_restore_B27 (n + 1) pk u (6 - 6) (nI z) = M_X11_restore_B27 n pk u (6 - 6) (nI (z + 1)) → ∃ a', (zFr (fun k => 40 ≤ k ∧ k < 56) S a' ∧ (∀ s, s < 8 → zsc a' (40 + 2 * s) 1 = (if s < z + 1 then nhd (dn d) (zsc S (40 + 2 * s) 1) else zsc S (40 + 2 * s) 1) ∧ zsc a' (40 + 2 * s) 2 = zsc S (40 + 2 * s) 2 ∧ zlo a' (40 + 2 * s + 1) = zlo S (40 + 2 * s + 1))) ∧ M_X11_restore_B27 (n + 1) pk u (6 - 6) (nI z) = M_X11_restore_B27 n pk a' (6 - 6) (nI (z + 1)) := fun q1 q2 => by
        refine ⟨u, ⟨hR.1, fun s hs => ⟨?_, (hR.2 s hs).2⟩⟩, q2⟩
        rw [(hR.2 s hs).1]
        by_cases e : s = z
        · subst e; rw [if_neg (Nat.lt_irrefl s), if_pos (Nat.lt_succ_self s), q1]
        · by_cases e2 : s < z
          · rw [if_pos e2, if_pos (by omega)]
          · rw [if_neg e2, if_neg (by omega)]
      rcases hv z hz with g | ⟨p, hp, g⟩ | ⟨t, ht, g⟩
      · rw [g] at hh
        have hp0 : M_X7_hasPerson pk u z = some (nI 0) := by unfold M_X7_hasPerson; simp (disch := omega) only [reduceIte, li, lo, k_leT, k_leF, k_ltT, k_ltF, k_eqT, k_eqF, c_cl, c_sub, nI_add, pk_mul, zin_nI, zg_true, ob_some, zm_none, zm_some, if_true, if_false, Bool.false_eq_true, d_t, d_f, ob_eta, ob_eta1, m_ltn, m_nlt, m_nle, m_len, m_ne, m_ne', k_mltT, k_mltF, k_mleT, k_mleF, k_meqT, k_meqF, m_neg, hh]
        refine same (by rw [g]; exact if_neg (fun q => q.2 (by rw [m_ltn (by decide) (by decide) (by omega)]; trivial))) ?_
        rw [M_X11_restore_B27]
        simp (disch := omega) only [↓ob_some, ↓zm_some, ↓zm_none, ↓zg_true, ↓zg_in, ↓(ob_of sa), ↓(zg_of dz), ↓(ob_of hp0), reduceIte, li, lo, k_leT, k_leF, k_ltT, k_ltF, k_eqT, k_eqF, c_cl, c_sub, nI_add, pk_mul, zin_nI, zg_true, ob_some, zm_none, zm_some, if_true, if_false, Bool.false_eq_true, d_t, d_f, ob_eta, ob_eta1, m_ltn, m_nlt, m_nle, m_len, m_ne, m_ne', k_mltT, k_mltF, k_mleT, k_mleF, k_meqT, k_meqF, m_neg]
      · rw [g] at hh
        have hp1 : M_X7_hasPerson pk u z = some (nI 1) := by unfold M_X7_hasPerson; simp (disch := omega) only [reduceIte, li, lo, k_leT, k_leF, k_ltT, k_ltF, k_eqT, k_eqF, c_cl, c_sub, nI_add, pk_mul, zin_nI, zg_true, ob_some, zm_none, zm_some, if_true, if_false, Bool.false_eq_true, d_t, d_f, ob_eta, ob_eta1, m_ltn, m_nlt, m_nle, m_len, m_ne, m_ne', k_mltT, k_mltF, k_mleT, k_mleF, k_meqT, k_meqF, m_neg, hh]
        by_cases e : p < dn d
        · have pa := l_perY hL' hn6 e
          have ok := (hL'.pe e).ok (show 6 * 0 + p < 18 by omega)
          refine same (by rw [g]; exact if_neg (fun q => q.2 (nI_lt e (by omega)))) ?_
          rw [M_X11_restore_B27]
          simp (disch := omega) only [↓ob_some, ↓zm_some, ↓zm_none, ↓zg_true, ↓zg_in, ↓(ob_of sa), ↓(zg_of dz), ↓(ob_of hp1), hh, ↓(ob_of pa), ↓(zg_of ok), reduceIte, li, lo, k_leT, k_leF, k_ltT, k_ltF, k_eqT, k_eqF, c_cl, c_sub, nI_add, pk_mul, zin_nI, zg_true, ob_some, zm_none, zm_some, if_true, if_false, Bool.false_eq_true, d_t, d_f, ob_eta, ob_eta1, m_ltn, m_nlt, m_nle, m_len, m_ne, m_ne', k_mltT, k_mltF, k_mleT, k_mleF, k_meqT, k_meqF, m_neg]
        · have pa := l_perN hL' (x := nI p) (Or.inr (nI_le (by omega) (by omega)))
          have nh : nhd (dn d) (nI p) = -nI 1 := if_pos ⟨nI_lt (by omega) (by decide), nI_nlt (by omega) (by omega)⟩
          refine ⟨zP u (40 + 2 * z) 1 (-nI 1), ⟨hR.1.trans (zFr_P (by omega)), fun s hs => ?_⟩, ?_⟩
          · obtain ⟨w1, w2, w3⟩ := hR.2 s hs
            by_cases e1 : s = z
            · subst e1
              refine ⟨?_, ?_, w3⟩
              · rw [p_y, if_pos rfl, if_pos (Nat.lt_succ_self s), g, nh]
              · rw [p_y, if_neg (by decide)]; exact w2
            · refine ⟨?_, ?_, w3⟩
              · rw [p_n (by omega), w1]
                by_cases e2 : s < z
                · rw [if_pos e2, if_pos (by omega)]
                · rw [if_neg e2, if_neg (by omega)]
              · rw [p_n (by omega)]; exact w2
          · rw [M_X11_restore_B27]
            simp (disch := omega) only [↓ob_some, ↓zm_some, ↓zm_none, ↓zg_true, ↓zg_in, ↓(ob_of sa), ↓(zg_of dz), ↓(ob_of hp1), hh, ↓(ob_of pa), reduceIte, li, lo, k_leT, k_leF, k_ltT, k_ltF, k_eqT, k_eqF, c_cl, c_sub, nI_add, pk_mul, zin_nI, zg_true, ob_some, zm_none, zm_some, if_true, if_false, Bool.false_eq_true, d_t, d_f, ob_eta, ob_eta1, m_ltn, m_nlt, m_nle, m_len, m_ne, m_ne', k_mltT, k_mltF, k_mleT, k_mleF, k_meqT, k_meqF, m_neg]
      · rw [g] at hh
        have hp0 : M_X7_hasPerson pk u z = some (nI 0) := by unfold M_X7_hasPerson; simp (disch := omega) only [reduceIte, li, lo, k_leT, k_leF, k_ltT, k_ltF, k_eqT, k_eqF, c_cl, c_sub, nI_add, pk_mul, zin_nI, zg_true, ob_some, zm_none, zm_some, if_true, if_false, Bool.false_eq_true, d_t, d_f, ob_eta, ob_eta1, m_ltn, m_nlt, m_nle, m_len, m_ne, m_ne', k_mltT, k_mltF, k_mleT, k_mleF, k_meqT, k_meqF, m_neg, hh]
        refine same (by rw [g]; exact if_neg (fun q => by have := q.1; rw [c_lt (by omega) (by decide)] at this; omega)) ?_
        rw [M_X11_restore_B27]
        simp (disch := omega) only [↓ob_some, ↓zm_some, ↓zm_none, ↓zg_true, ↓zg_in, ↓(ob_of sa), ↓(zg_of dz), ↓(ob_of hp0), reduceIte, li, lo, k_leT, k_leF, k_ltT, k_ltF, k_eqT, k_eqF, c_cl, c_sub, nI_add, pk_mul, zin_nI, zg_true, ob_some, zm_none, zm_some, if_true, if_false, Bool.false_eq_true, d_t, d_f, ob_eta, ob_eta1, m_ltn, m_nlt, m_nle, m_len, m_ne, m_ne', k_mltT, k_mltF, k_mleT, k_mleF, k_meqT, k_meqF, m_neg]) 8 0 zF S () ⟨zFr.rf, fun s hs => ⟨by rw [if_neg (Nat.not_lt_zero s)], rfl, rfl⟩⟩ rfl (by decide)
  exact key
theorem r_shel (hL : zsc T 0 3 = nI n) (hn6 : n ≤ 6) (hv : ∀ s, s < 8 → zar T 1 s = -nI 1 ∨ (∃ p, p < 6 ∧ zar T 1 s = nI p) ∨ ∃ t, t < 4 ∧ zar T 1 s = nI (100 + t)) : ∃ T', M_X12_restore_B24 zF T (nI 0) = some (nI n, T') ∧ zFr (fun k => k = 1) T T' ∧ ∀ s, s < 8 → zar T' 1 s = nhd n (zar T 1 s) := by
  have key := lpR (fun n (u : zSt) z => M_X12_restore_B24 n u z) (fun (u : Unit) _ => u) (fun z u _ => zFr (fun k => k = 1) T u ∧ ∀ s, s < 8 → zar u 1 s = if s < z then nhd n (zar T 1 s) else zar T 1 s) (fun _ o => ∃ T', o = some (nI n, T') ∧ zFr (fun k => k = 1) T T' ∧ ∀ s, s < 8 → zar T' 1 s = nhd n (zar T 1 s)) 8 (fun m u _ hR => by
      have e : zsc u 0 3 = nI n := by rw [hR.1.sc (by omega)]; exact hL
      refine ⟨u, by simp (disch := omega) only [reduceIte, li, lo, k_leT, k_leF, k_ltT, k_ltF, k_eqT, k_eqF, c_cl, c_sub, nI_add, pk_mul, zin_nI, zg_true, ob_some, zm_none, zm_some, if_true, if_false, Bool.false_eq_true, d_t, d_f, ob_eta, ob_eta1, m_ltn, m_nlt, m_nle, m_len, m_ne, m_ne', k_mltT, k_mltF, k_mleT, k_mleF, k_meqT, k_meqF, m_neg, M_X12_restore_B24, e], hR.1, fun s hs => ?_⟩
      rw [hR.2 s hs, if_pos hs]) (fun m u _ z hz hR => by
      have e : zsc u 0 3 = nI n := by rw [hR.1.sc (by omega)]; exact hL
      have hh := hR.2 z hz
      rw [if_neg (Nat.lt_irrefl z)] at hh
      have same : nhd n (zar T 1 z) = zar T 1 z → M_X12_restore_B24 (m + 1) u (nI z) = M_X12_restore_B24 m u (nI (z + 1)) → ∃ a', (zFr (fun k => k = 1) T a' ∧ ∀ s, s < 8 → zar a' 1 s = if s < z + 1 then nhd n (zar T 1 s) else zar T 1 s) ∧ M_X12_restore_B24 (m + 1) u (nI z) = M_X12_restore_B24 m a' (nI (z + 1)) := fun q1 q2 => by
        refine ⟨u, ⟨hR.1, fun s hs => ?_⟩, q2⟩
        rw [hR.2 s hs]
        by_cases e : s = z
        · subst e; rw [if_neg (Nat.lt_irrefl s), if_pos (Nat.lt_succ_self s), q1]
        · by_cases e2 : s < z
          · rw [if_pos e2, if_pos (by omega)]
          · rw [if_neg e2, if_neg (by omega)]
      rcases hv z hz with g | ⟨p, hp, g⟩ | ⟨t, ht, g⟩
      · rw [g] at hh
        have ir : M_X12_isRow u (nI z) = some (nI 0) := by unfold M_X12_isRow; simp (disch := omega) only [reduceIte, li, lo, k_leT, k_leF, k_ltT, k_ltF, k_eqT, k_eqF, c_cl, c_sub, nI_add, pk_mul, zin_nI, zg_true, ob_some, zm_none, zm_some, if_true, if_false, Bool.false_eq_true, d_t, d_f, ob_eta, ob_eta1, m_ltn, m_nlt, m_nle, m_len, m_ne, m_ne', k_mltT, k_mltF, k_mleT, k_mleF, k_meqT, k_meqF, m_neg, hh]
        refine same (by rw [g]; exact if_neg (fun q => q.2 (by rw [m_ltn (by decide) (by decide) (by omega)]; trivial))) ?_
        rw [M_X12_restore_B24]
        simp (disch := omega) only [↓ob_some, ↓zm_some, ↓zm_none, ↓zg_true, ↓zg_in, ↓(ob_of ir), hh, e, reduceIte, li, lo, k_leT, k_leF, k_ltT, k_ltF, k_eqT, k_eqF, c_cl, c_sub, nI_add, pk_mul, zin_nI, zg_true, ob_some, zm_none, zm_some, if_true, if_false, Bool.false_eq_true, d_t, d_f, ob_eta, ob_eta1, m_ltn, m_nlt, m_nle, m_len, m_ne, m_ne', k_mltT, k_mltF, k_mleT, k_mleF, k_meqT, k_meqF, m_neg]
      · rw [g] at hh
        have ir : M_X12_isRow u (nI z) = some (nI 0) := by unfold M_X12_isRow; simp (disch := omega) only [reduceIte, li, lo, k_leT, k_leF, k_ltT, k_ltF, k_eqT, k_eqF, c_cl, c_sub, nI_add, pk_mul, zin_nI, zg_true, ob_some, zm_none, zm_some, if_true, if_false, Bool.false_eq_true, d_t, d_f, ob_eta, ob_eta1, m_ltn, m_nlt, m_nle, m_len, m_ne, m_ne', k_mltT, k_mltF, k_mleT, k_mleF, k_meqT, k_meqF, m_neg, hh]
        by_cases e2 : p < n
        · refine same (by rw [g]; exact if_neg (fun q => q.2 (nI_lt e2 (by omega)))) ?_
          rw [M_X12_restore_B24]
          simp (disch := omega) only [↓ob_some, ↓zm_some, ↓zm_none, ↓zg_true, ↓zg_in, ↓(ob_of ir), hh, e, reduceIte, li, lo, k_leT, k_leF, k_ltT, k_ltF, k_eqT, k_eqF, c_cl, c_sub, nI_add, pk_mul, zin_nI, zg_true, ob_some, zm_none, zm_some, if_true, if_false, Bool.false_eq_true, d_t, d_f, ob_eta, ob_eta1, m_ltn, m_nlt, m_nle, m_len, m_ne, m_ne', k_mltT, k_mltF, k_mleT, k_mleF, k_meqT, k_meqF, m_neg]
        · have nh : nhd n (nI p) = -nI 1 := if_pos ⟨nI_lt (by omega) (by decide), nI_nlt (by omega) (by omega)⟩
          refine ⟨zAs u 1 z (-nI 1), ⟨hR.1.trans (zFr_As rfl), fun s hs => ?_⟩, ?_⟩
          · rw [as_y, upd_a]
            by_cases e1 : s = z
            · subst e1; rw [if_pos rfl, if_pos (Nat.lt_succ_self s), g, nh]
            · rw [if_neg e1, hR.2 s hs]
              by_cases e3 : s < z
              · rw [if_pos e3, if_pos (by omega)]
              · rw [if_neg e3, if_neg (by omega)]
          · rw [M_X12_restore_B24]
            simp (disch := omega) only [↓ob_some, ↓zm_some, ↓zm_none, ↓zg_true, ↓zg_in, ↓(ob_of ir), hh, e, reduceIte, li, lo, k_leT, k_leF, k_ltT, k_ltF, k_eqT, k_eqF, c_cl, c_sub, nI_add, pk_mul, zin_nI, zg_true, ob_some, zm_none, zm_some, if_true, if_false, Bool.false_eq_true, d_t, d_f, ob_eta, ob_eta1, m_ltn, m_nlt, m_nle, m_len, m_ne, m_ne', k_mltT, k_mltF, k_mleT, k_mleF, k_meqT, k_meqF, m_neg]
      · rw [g] at hh
        have ir : M_X12_isRow u (nI z) = some (nI 1) := by unfold M_X12_isRow; simp (disch := omega) only [reduceIte, li, lo, k_leT, k_leF, k_ltT, k_ltF, k_eqT, k_eqF, c_cl, c_sub, nI_add, pk_mul, zin_nI, zg_true, ob_some, zm_none, zm_some, if_true, if_false, Bool.false_eq_true, d_t, d_f, ob_eta, ob_eta1, m_ltn, m_nlt, m_nle, m_len, m_ne, m_ne', k_mltT, k_mltF, k_mleT, k_mleF, k_meqT, k_meqF, m_neg, hh]
        refine same (by rw [g]; exact if_neg (fun q => by have := q.1; rw [c_lt (by omega) (by decide)] at this; omega)) ?_
        rw [M_X12_restore_B24]
        simp (disch := omega) only [↓ob_some, ↓zm_some, ↓zm_none, ↓zg_true, ↓zg_in, ↓(ob_of ir), reduceIte, li, lo, k_leT, k_leF, k_ltT, k_ltF, k_eqT, k_eqF, c_cl, c_sub, nI_add, pk_mul, zin_nI, zg_true, ob_some, zm_none, zm_some, if_true, if_false, Bool.false_eq_true, d_t, d_f, ob_eta, ob_eta1, m_ltn, m_nlt, m_nle, m_len, m_ne, m_ne', k_mltT, k_mltF, k_mleT, k_mleF, k_meqT, k_meqF, m_neg]) 8 0 zF T () ⟨zFr.rf, fun s hs => by rw [if_neg (Nat.not_lt_zero s)]⟩ rfl (by decide)
  exact key
theorem s_restore (h : Inv pk S d) : zStG pk (M_X11_restore pk S) (fun T => M_X12_restore T) := by
  unfold M_X11_restore M_X12_restore
  rcases h.im with ⟨i1, i2⟩ | ⟨i1, i2, d', K', L2, N2⟩
  · have i2 : zsc (zR1 S 6) 0 20 = nI 0 := i2
    exact stg_no h 6 (by decide) (by decide) (by simp (disch := omega) only [↓ob_some, ↓zm_some, ↓zm_none, ↓zg_true, ↓zg_in, i1, reduceIte, li, lo, k_leT, k_leF, k_ltT, k_ltF, k_eqT, k_eqF, c_cl, c_sub, nI_add, pk_mul, zin_nI, zg_true, ob_some, zm_none, zm_some, if_true, if_false, Bool.false_eq_true, d_t, d_f, ob_eta, ob_eta1, m_ltn, m_nlt, m_nle, m_len, m_ne, m_ne', k_mltT, k_mltF, k_mleT, k_mleF, k_meqT, k_meqF, m_neg]) (by simp (disch := omega) only [↓ob_some, ↓zm_some, ↓zm_none, ↓zg_true, ↓zg_in, i2, reduceIte, li, lo, k_leT, k_leF, k_ltT, k_ltF, k_eqT, k_eqF, c_cl, c_sub, nI_add, pk_mul, zin_nI, zg_true, ob_some, zm_none, zm_some, if_true, if_false, Bool.false_eq_true, d_t, d_f, ob_eta, ob_eta1, m_ltn, m_nlt, m_nle, m_len, m_ne, m_ne', k_mltT, k_mltF, k_mleT, k_mleF, k_meqT, k_meqF, m_neg])
  · have hn6 := h.k.1
    have hn6' := K'.1
    obtain ⟨pk', S1, e1, L0, L2', P1, f1, k1⟩ := l_takeFrom (i := 0) (j := 2) L2 K' h.pe (by decide) (by decide) (by decide)
    have shS : ∀ s, s < 8 → ∃ m hd, m ≤ 160 ∧ zsc S (40 + 2 * s) 1 = hd ∧ zar S 1 s = hd ∧ zsc S (40 + 2 * s) 2 = nI m ∧ zar S 2 s = nI m ∧ (∀ j, j < 160 → zlo S (40 + 2 * s + 1) j = zlo S 3 (160 * s + j)) ∧ (hd = -nI 1 ∨ (∃ p, p < dn d ∧ p < 6 ∧ hd = nI p) ∨ ∃ t, t < 4 ∧ hd = nI (100 + t)) := fun s hs => hSh h hs
    have s1 : ∀ s, zsc S1 (40 + 2 * s) = zsc S (40 + 2 * s) ∨ 8 ≤ s := fun s => by
      by_cases hs : s < 8
      · exact Or.inl (f1.sc (by unfold zL1 zZ; omega))
      · exact Or.inr (by omega)
    obtain ⟨S2, e2, f2, g2⟩ := l_shel L0 hn6' (fun s hs => by
      obtain ⟨m, hd, -, a1, a2, -, -, -, g⟩ := shS s hs
      rw [(s1 s).resolve_right (by omega), a1]
      rcases g with g | ⟨p, _, hp, g⟩ | g
      · exact Or.inl g
      · exact Or.inr (Or.inl ⟨p, hp, g⟩)
      · exact Or.inr (Or.inr g))
    have F12 : zFr (fun k => zL1 0 k ∨ (40 ≤ k ∧ k < 56)) S S2 := (f1.mono (fun k z => Or.inl z)).trans (f2.mono (fun k z => Or.inr z))
    have N3 : SN 14 S2 d' := N2.fr F12 (by unfold zL1 zZ; omega)
    obtain ⟨T1, e3, f3, R3, c3⟩ := r_again N3 hn6' (k := 14) (Or.inl rfl)
    have ar1 : zar T1 1 = zar S 1 := (f3.ar (by unfold zAg; omega)).trans (F12.ar (by unfold zL1 zZ; omega))
    obtain ⟨T2, e4, f4, g4⟩ := r_shel R3.1 hn6' (fun s hs => by
      obtain ⟨m, hd, -, a1, a2, -, -, -, g⟩ := shS s hs
      rw [ar1, a2]
      rcases g with g | ⟨p, _, hp, g⟩ | g
      · exact Or.inl g
      · exact Or.inr (Or.inl ⟨p, hp, g⟩)
      · exact Or.inr (Or.inr g))
    have F : zFr (fun k => zL1 0 k ∨ (40 ≤ k ∧ k < 56) ∨ zAg k ∨ k = 1) S T2 := ((F12.mono (fun k z => z.elim Or.inl (fun w => Or.inr (Or.inl w)))).trans (f3.mono (fun k z => Or.inr (Or.inr (Or.inl z))))).trans (f4.mono (fun k z => Or.inr (Or.inr (Or.inr z))))
    have FS : zFr (fun k => zAg k ∨ k = 1) S2 T2 := (f3.mono (fun k z => Or.inl z)).trans (f4.mono (fun k z => Or.inr z))
    have c0 : ∀ g, g ≠ 3 → g ≠ 11 → g ≠ 12 → zsc T2 0 g = zsc S 0 g := fun g h1 h2 h3 => by
      rw [f4.sc (by omega), c3 g h1 h2 h3, F12.sc (by unfold zL1 zZ; omega)]
    have R4 : RR T2 d' := R3.fr f4 (by rw [f4.sc (by omega)]) (by rw [f4.sc (by omega)]) (by rw [f4.sc (by omega)]) (fun k a b => by omega)
    have hF : ∀ k, ¬ (zL1 0 k ∨ (40 ≤ k ∧ k < 56) ∨ zAg k ∨ k = 1) ↔ ¬ ((k = 60 ∨ (100 ≤ k ∧ k < 124)) ∨ (40 ≤ k ∧ k < 56) ∨ (k = 0 ∨ (4 ≤ k ∧ k ≤ 10)) ∨ k = 1) := fun k => by unfold zL1 zZ zAg; omega
    refine ⟨nI (dn d'), pk', S2, T2, ?_, ?_, d', K', ?_, R4, (P1.fr f2 (fun q _ => by omega)).fr FS (fun q _ => by unfold zAg; omega), ?_, h.tr.fr F (c0 17 (by decide) (by decide) (by decide)) ((hF _).mpr (by omega)) ((hF _).mpr (by omega)) ((hF _).mpr (by omega)), h.rf.fr F ((hF _).mpr (by omega)) ((hF _).mpr (by omega)), ?_, Or.inr ⟨?_, ?_, d', K', ?_, N2.fr F ((hF _).mpr (by omega))⟩⟩
    · unfold zlet2
      have db : decide (6 ≤ 6) = true := rfl
      simp (disch := omega) only [↓ob_some, ↓zm_some, ↓zm_none, ↓zg_true, ↓zg_in, i1, ↓(zg_of db), ↓(ob_of e1), reduceIte, li, lo, k_leT, k_leF, k_ltT, k_ltF, k_eqT, k_eqF, c_cl, c_sub, nI_add, pk_mul, zin_nI, zg_true, ob_some, zm_none, zm_some, if_true, if_false, Bool.false_eq_true, d_t, d_f, ob_eta, ob_eta1, m_ltn, m_nlt, m_nle, m_len, m_ne, m_ne', k_mltT, k_mltF, k_mleT, k_mleF, k_meqT, k_meqF, m_neg]
      exact e2
    · have i3 : zsc S2 0 20 = nI 1 := by rw [F12.sc (by unfold zL1 zZ; omega)]; exact i2
      simp (disch := omega) only [↓ob_some, ↓zm_some, ↓zm_none, ↓zg_true, ↓zg_in, i3, ↓(ob_of e3), reduceIte, li, lo, k_leT, k_leF, k_ltT, k_ltF, k_eqT, k_eqF, c_cl, c_sub, nI_add, pk_mul, zin_nI, zg_true, ob_some, zm_none, zm_some, if_true, if_false, Bool.false_eq_true, d_t, d_f, ob_eta, ob_eta1, m_ltn, m_nlt, m_nle, m_len, m_ne, m_ne', k_mltT, k_mltF, k_mleT, k_mleF, k_meqT, k_meqF, m_neg]
      exact e4
    · exact (L0.fr hn6' f2 (by omega) (fun k a b => by omega)).fr hn6' FS (by unfold zAg; omega) (fun k a b => by unfold zAg; omega)
    · intro s hs
      obtain ⟨m, hd, hm, a1, a2, a3, a4, a5, g⟩ := shS s hs
      obtain ⟨b1, b2, b3⟩ := g2 s hs
      have s1 := (s1 s).resolve_right (by omega)
      have t1 : zsc T2 (40 + 2 * s) = zsc S2 (40 + 2 * s) := FS.sc (by unfold zAg; omega)
      have n1 : zar T2 1 s = nhd (dn d') hd := by rw [g4 s hs, ar1, a2]
      refine ⟨m, hm, ?_, ?_, ?_, fun j hj => ?_, ?_⟩
      · rw [t1, b1, s1, a1, n1]
      · rw [t1, b2, s1]; exact a3
      · rw [F.ar ((hF 2).mpr (by omega))]; exact a4
      · rw [FS.lo (by unfold zAg; omega), b3, f1.lo (by unfold zL1 zZ; omega), F.lo ((hF 3).mpr (by omega))]; exact a5 j hj
      · rw [n1]
        unfold nhd
        rcases g with rfl | ⟨p, _, hp, rfl⟩ | ⟨t, ht, rfl⟩
        · left; split <;> rfl
        · by_cases e : p < dn d'
          · right; left
            exact ⟨p, e, if_neg (fun q => q.2 (nI_lt e (by omega)))⟩
          · left
            exact if_pos ⟨nI_lt (by omega) (by decide), nI_nlt (by omega) (by omega)⟩
        · right; right
          exact ⟨t, ht, if_neg (fun q => by have := q.1; rw [c_lt (by omega) (by decide)] at this; omega)⟩
    · rw [F.sc ((hF 20).mpr (by omega)), c0 15 (by decide) (by decide) (by decide)]; exact h.fa
    · rw [F.sc ((hF 20).mpr (by omega))]; exact i1
    · rw [c0 20 (by decide) (by decide) (by decide)]; exact i2
    · exact L2.mv hn6' F ((hF _).mpr (by omega)) (fun k a b => (hF k).mpr (by omega)) (fun q a b => k1 q (by omega))
end YEA
