/-! COPYING between rows -/
theorem lgT {a b m : Nat} (ha : a < 2147483648) (hb : b < 2147483648) (hm : m < 2147483648) : (nI 0 < lg_cmp (Int32.toInt64 (nI a) + Int32.toInt64 (nI b)) (Int32.toInt64 (nI m))) = (m < a + b) := by
  apply propext
  rw [show nI 0 = (0 : Int32) from rfl, lg_cmp_gt, nI_l (by omega), nI_l (by omega), nI_l (by omega), lN_add, pk_lLT (by omega) (by omega)]
theorem lgL {a b m : Nat} (ha : a < 2147483648) (hb : b < 2147483648) (hm : m < 2147483648) : (lg_cmp (Int32.toInt64 (nI a) + Int32.toInt64 (nI b)) (Int32.toInt64 (nI m)) ≤ nI 0) = (a + b ≤ m) := by
  apply propext
  rw [show nI 0 = (0 : Int32) from rfl, lg_cmp_le, nI_l (by omega), nI_l (by omega), nI_l (by omega), lN_add, pk_lLE (by omega) (by omega)]
section COP
variable {pk : Nat → Nat} {S S' T : zSt} {s s1 s2 p m n : Nat} {d : zD}
/-- what a shelf holds -/
theorem cSt (h : Inv pk S d) (hs : s < 8) : (M_X7_hasPerson pk S s = some (nI 0) ∧ M_X7_hasRow pk S s = some (nI 0) ∧ zar S 1 s = -nI 1) ∨ (∃ p, p < 6 ∧ M_X7_hasPerson pk S s = some (nI 1) ∧ M_X7_hasRow pk S s = some (nI 0) ∧ zar S 1 s = nI p) ∨ ∃ m t, m ≤ 160 ∧ t < 4 ∧ M_X7_hasPerson pk S s = some (nI 0) ∧ M_X7_hasRow pk S s = some (nI 1) ∧ zar S 1 s = nI (100 + t) ∧ zsc S (40 + 2 * s) 1 = nI (100 + t) ∧ zsc S (40 + 2 * s) 2 = nI m ∧ zar S 2 s = nI m ∧ (∀ j, j < 160 → zlo S (40 + 2 * s + 1) j = zlo S 3 (160 * s + j)) := by
  obtain ⟨m, hd, hm, e1, e2, e3, e4, e5, g⟩ := hSh h hs
  unfold M_X7_hasPerson M_X7_hasRow
  rcases g with rfl | ⟨p, hp, h6, rfl⟩ | ⟨t, ht, rfl⟩
  · exact Or.inl ⟨by simp (disch := omega) only [reduceIte, li, lo, k_leT, k_leF, k_ltT, k_ltF, k_eqT, k_eqF, c_cl, c_sub, nI_add, pk_mul, zin_nI, zg_true, ob_some, zm_none, zm_some, if_true, if_false, Bool.false_eq_true, d_t, d_f, ob_eta, ob_eta1, m_ltn, m_nlt, m_nle, m_len, m_ne, m_ne', k_mltT, k_mltF, k_mleT, k_mleF, k_meqT, k_meqF, m_neg, e1], by simp (disch := omega) only [reduceIte, li, lo, k_leT, k_leF, k_ltT, k_ltF, k_eqT, k_eqF, c_cl, c_sub, nI_add, pk_mul, zin_nI, zg_true, ob_some, zm_none, zm_some, if_true, if_false, Bool.false_eq_true, d_t, d_f, ob_eta, ob_eta1, m_ltn, m_nlt, m_nle, m_len, m_ne, m_ne', k_mltT, k_mltF, k_mleT, k_mleF, k_meqT, k_meqF, m_neg, e1], e2⟩
  · exact Or.inr (Or.inl ⟨p, h6, by simp (disch := omega) only [reduceIte, li, lo, k_leT, k_leF, k_ltT, k_ltF, k_eqT, k_eqF, c_cl, c_sub, nI_add, pk_mul, zin_nI, zg_true, ob_some, zm_none, zm_some, if_true, if_false, Bool.false_eq_true, d_t, d_f, ob_eta, ob_eta1, m_ltn, m_nlt, m_nle, m_len, m_ne, m_ne', k_mltT, k_mltF, k_mleT, k_mleF, k_meqT, k_meqF, m_neg, e1], by simp (disch := omega) only [reduceIte, li, lo, k_leT, k_leF, k_ltT, k_ltF, k_eqT, k_eqF, c_cl, c_sub, nI_add, pk_mul, zin_nI, zg_true, ob_some, zm_none, zm_some, if_true, if_false, Bool.false_eq_true, d_t, d_f, ob_eta, ob_eta1, m_ltn, m_nlt, m_nle, m_len, m_ne, m_ne', k_mltT, k_mltF, k_mleT, k_mleF, k_meqT, k_meqF, m_neg, e1], e2⟩)
  · exact Or.inr (Or.inr ⟨m, t, hm, ht, by simp (disch := omega) only [reduceIte, li, lo, k_leT, k_leF, k_ltT, k_ltF, k_eqT, k_eqF, c_cl, c_sub, nI_add, pk_mul, zin_nI, zg_true, ob_some, zm_none, zm_some, if_true, if_false, Bool.false_eq_true, d_t, d_f, ob_eta, ob_eta1, m_ltn, m_nlt, m_nle, m_len, m_ne, m_ne', k_mltT, k_mltF, k_mleT, k_mleF, k_meqT, k_meqF, m_neg, e1], by simp (disch := omega) only [reduceIte, li, lo, k_leT, k_leF, k_ltT, k_ltF, k_eqT, k_eqF, c_cl, c_sub, nI_add, pk_mul, zin_nI, zg_true, ob_some, zm_none, zm_some, if_true, if_false, Bool.false_eq_true, d_t, d_f, ob_eta, ob_eta1, m_ltn, m_nlt, m_nle, m_len, m_ne, m_ne', k_mltT, k_mltF, k_mleT, k_mleF, k_meqT, k_meqF, m_neg, e1], e2, e1, e3, e4, e5⟩)
/-- one row's elements come to another's: the reference's way -/
theorem r_fwd (T : zSt) (h1 : s1 < 8) (h2 : s2 < 8) {a c b : Nat} (ha : a + b ≤ 160) (hc : c + b ≤ 160) (hne : s1 ≠ s2 ∨ c ≤ a) : ∃ T', M_X12_copy_B251 zF T (nI s1) (nI s2) (nI a) (nI c) (nI b) (nI 0) = some (nI 1, T') ∧ zFr (fun k => k = 3) T T' ∧ ∀ j, zlo T' 3 j = if 160 * s2 + c ≤ j ∧ j < 160 * s2 + c + b then zlo T 3 (160 * s1 + a + (j - (160 * s2 + c))) else zlo T 3 j := by
  have key := lpR (fun n (u : zSt) z => M_X12_copy_B251 n u (nI s1) (nI s2) (nI a) (nI c) (nI b) z) (fun (u : Unit) _ => u) (fun z u _ => zFr (fun k => k = 3) T u ∧ ∀ j, zlo u 3 j = if 160 * s2 + c ≤ j ∧ j < 160 * s2 + c + z then zlo T 3 (160 * s1 + a + (j - (160 * s2 + c))) else zlo T 3 j) (fun _ o => ∃ T', o = some (nI 1, T') ∧ zFr (fun k => k = 3) T T' ∧ ∀ j, zlo T' 3 j = if 160 * s2 + c ≤ j ∧ j < 160 * s2 + c + b then zlo T 3 (160 * s1 + a + (j - (160 * s2 + c))) else zlo T 3 j) b (fun n u _ hR => ?_) (fun n u _ z hz hR => ?_) b 0 zF T () ⟨zFr.rf, fun j => ?_⟩ (by omega) (by show _ < 4096; omega)
  · exact key
  · exact ⟨u, by simp (disch := omega) only [reduceIte, li, lo, k_leT, k_leF, k_ltT, k_ltF, k_eqT, k_eqF, c_cl, c_sub, nI_add, pk_mul, zin_nI, zg_true, ob_some, zm_none, zm_some, if_true, if_false, Bool.false_eq_true, d_t, d_f, ob_eta, ob_eta1, m_ltn, m_nlt, m_nle, m_len, m_ne, m_ne', k_mltT, k_mltF, k_mleT, k_mleF, k_meqT, k_meqF, m_neg, M_X12_copy_B251], hR⟩
  · have er : zlo u 3 (160 * s1 + a + z) = zlo T 3 (160 * s1 + a + z) := by rw [hR.2, if_neg (by omega)]
    refine ⟨zLs u 3 (160 * s2 + c + z) (zlo T 3 (160 * s1 + a + z)), ⟨hR.1.trans (zFr_Ls rfl), fun j => ?_⟩, by simp (disch := omega) only [reduceIte, li, lo, k_leT, k_leF, k_ltT, k_ltF, k_eqT, k_eqF, c_cl, c_sub, nI_add, pk_mul, zin_nI, zg_true, ob_some, zm_none, zm_some, if_true, if_false, Bool.false_eq_true, d_t, d_f, ob_eta, ob_eta1, m_ltn, m_nlt, m_nle, m_len, m_ne, m_ne', k_mltT, k_mltF, k_mleT, k_mleF, k_meqT, k_meqF, m_neg, M_X12_copy_B251, er]⟩
    rw [ls_y]
    by_cases e : j = 160 * s2 + c + z
    · subst e; rw [pk_uLs, if_pos (by omega)]; congr 1; omega
    · rw [pk_uLn e, hR.2 j]
      by_cases e2 : 160 * s2 + c ≤ j ∧ j < 160 * s2 + c + z
      · rw [if_pos e2, if_pos (by omega)]
      · rw [if_neg e2, if_neg (by omega)]
  · rw [if_neg (by omega)]
theorem r_bwd (T : zSt) (h1 : s1 < 8) {a c b : Nat} (ha : a + b ≤ 160) (hc : c + b ≤ 160) (hne : a < c) : ∃ T', M_X12_copy_B203 zF T (nI s1) (nI s1) (nI a) (nI c) (nI b - nI 1) = some (nI 1, T') ∧ zFr (fun k => k = 3) T T' ∧ ∀ j, zlo T' 3 j = if 160 * s1 + c ≤ j ∧ j < 160 * s1 + c + b then zlo T 3 (160 * s1 + a + (j - (160 * s1 + c))) else zlo T 3 j := by
  have go : ∀ m n u, m ≤ b → m < n → zFr (fun k => k = 3) T u → (∀ j, zlo u 3 j = if 160 * s1 + c + m ≤ j ∧ j < 160 * s1 + c + b then zlo T 3 (160 * s1 + a + (j - (160 * s1 + c))) else zlo T 3 j) → ∃ T', M_X12_copy_B203 n u (nI s1) (nI s1) (nI a) (nI c) (nI m - nI 1) = some (nI 1, T') ∧ zFr (fun k => k = 3) T T' ∧ ∀ j, zlo T' 3 j = if 160 * s1 + c ≤ j ∧ j < 160 * s1 + c + b then zlo T 3 (160 * s1 + a + (j - (160 * s1 + c))) else zlo T 3 j := by
    intro m
    induction m with
    | zero =>
      intro n u _ hn f g
      obtain ⟨n, rfl⟩ : ∃ r, n = r + 1 := ⟨n - 1, by omega⟩
      refine ⟨u, ?_, f, g⟩
      rw [M_X12_copy_B203]
      exact if_pos (by decide)
    | succ m ih =>
      intro n u hm hn f g
      obtain ⟨n, rfl⟩ : ∃ r, n = r + 1 := ⟨n - 1, by omega⟩
      have er : zlo u 3 (160 * s1 + a + m) = zlo T 3 (160 * s1 + a + m) := by rw [g, if_neg (by omega)]
      obtain ⟨T', e1, f1, g1⟩ := ih n (zLs u 3 (160 * s1 + c + m) (zlo T 3 (160 * s1 + a + m))) (by omega) (by omega) (f.trans (zFr_Ls rfl)) (fun j => by
        rw [ls_y]
        by_cases e : j = 160 * s1 + c + m
        · subst e; rw [pk_uLs, if_pos (by omega)]; congr 1; omega
        · rw [pk_uLn e, g j]
          by_cases e2 : 160 * s1 + c + (m + 1) ≤ j ∧ j < 160 * s1 + c + b
          · rw [if_pos e2, if_pos (by omega)]
          · rw [if_neg e2, if_neg (by omega)])
      refine ⟨T', ?_, f1, g1⟩
      rw [← e1, show nI (m + 1) - nI 1 = nI m from nI_pred m, M_X12_copy_B203]
      have em : nI m + -nI 1 = nI m - nI 1 := (Int32.sub_eq_add_neg _ _).symm
      simp (disch := omega) only [reduceIte, li, lo, k_leT, k_leF, k_ltT, k_ltF, k_eqT, k_eqF, c_cl, c_sub, nI_add, pk_mul, zin_nI, zg_true, ob_some, zm_none, zm_some, if_true, if_false, Bool.false_eq_true, d_t, d_f, ob_eta, ob_eta1, m_ltn, m_nlt, m_nle, m_len, m_ne, m_ne', k_mltT, k_mltF, k_mleT, k_mleF, k_meqT, k_meqF, m_neg, er, em]
  exact go b zF T (Nat.le_refl _) (by show _ < 4096; omega) zFr.rf (fun j => by
    rw [if_neg (by omega)])
theorem s_copy (h : Inv pk S d) (x1 x2 x3 x4 x5 : Int32) : zStp pk (M_X11_copy pk S x1 x2 x3 x4 x5) (fun T => M_X12_copy T x1 x2 x3 x4 x5) := by
  unfold M_X11_copy M_X12_copy M_X12_copy_B20 M_X11_copy_B38 M_X11_copy_B80
  have refN : ∀ o, M_X11_refusalOfTwo pk S none o = some (-nI 1) := fun o => by cases o <;> rfl
  have refN2 : ∀ q, M_X11_refusalOfTwo pk S (some q) none = some (-nI 1) := fun q => rfl
  rcases cShelf pk S x1 with ⟨a1, b1⟩ | ⟨s1, hs1, rfl, a1, b1, c1⟩
  · rcases cShelf pk S x2 with ⟨a2, b2⟩ | ⟨s2, hs2, rfl, a2, b2, c2⟩
    · exact st_no h 1 (by decide) (by decide) (by simp (disch := omega) only [↓ob_some, ↓zm_some, ↓zm_none, ↓zg_true, ↓zg_in, ↓(ob_of a1), ↓(ob_of a2), ↓(ob_of (refN none)), reduceIte, li, lo, k_leT, k_leF, k_ltT, k_ltF, k_eqT, k_eqF, c_cl, c_sub, nI_add, pk_mul, zin_nI, zg_true, ob_some, zm_none, zm_some, if_true, if_false, Bool.false_eq_true, d_t, d_f, ob_eta, ob_eta1, m_ltn, m_nlt, m_nle, m_len, m_ne, m_ne', k_mltT, k_mltF, k_mleT, k_mleF, k_meqT, k_meqF, m_neg]) (by simp (disch := omega) only [↓ob_some, ↓zm_some, ↓zm_none, ↓zg_true, ↓zg_in, ↓(ob_of (b1 (zR1 S 1))), reduceIte, li, lo, k_leT, k_leF, k_ltT, k_ltF, k_eqT, k_eqF, c_cl, c_sub, nI_add, pk_mul, zin_nI, zg_true, ob_some, zm_none, zm_some, if_true, if_false, Bool.false_eq_true, d_t, d_f, ob_eta, ob_eta1, m_ltn, m_nlt, m_nle, m_len, m_ne, m_ne', k_mltT, k_mltF, k_mleT, k_mleF, k_meqT, k_meqF, m_neg])
    · exact st_no h 1 (by decide) (by decide) (by simp (disch := omega) only [↓ob_some, ↓zm_some, ↓zm_none, ↓zg_true, ↓zg_in, ↓(ob_of a1), ↓(ob_of a2), ↓(zg_of c2), ↓(ob_of (refN (some s2))), reduceIte, li, lo, k_leT, k_leF, k_ltT, k_ltF, k_eqT, k_eqF, c_cl, c_sub, nI_add, pk_mul, zin_nI, zg_true, ob_some, zm_none, zm_some, if_true, if_false, Bool.false_eq_true, d_t, d_f, ob_eta, ob_eta1, m_ltn, m_nlt, m_nle, m_len, m_ne, m_ne', k_mltT, k_mltF, k_mleT, k_mleF, k_meqT, k_meqF, m_neg]) (by simp (disch := omega) only [↓ob_some, ↓zm_some, ↓zm_none, ↓zg_true, ↓zg_in, ↓(ob_of (b1 (zR1 S 1))), reduceIte, li, lo, k_leT, k_leF, k_ltT, k_ltF, k_eqT, k_eqF, c_cl, c_sub, nI_add, pk_mul, zin_nI, zg_true, ob_some, zm_none, zm_some, if_true, if_false, Bool.false_eq_true, d_t, d_f, ob_eta, ob_eta1, m_ltn, m_nlt, m_nle, m_len, m_ne, m_ne', k_mltT, k_mltF, k_mleT, k_mleF, k_meqT, k_meqF, m_neg])
  · rcases cShelf pk S x2 with ⟨a2, b2⟩ | ⟨s2, hs2, rfl, a2, b2, c2⟩
    · exact st_no h 1 (by decide) (by decide) (by simp (disch := omega) only [↓ob_some, ↓zm_some, ↓zm_none, ↓zg_true, ↓zg_in, ↓(ob_of a1), ↓(zg_of c1), ↓(ob_of a2), ↓(ob_of (refN2 s1)), reduceIte, li, lo, k_leT, k_leF, k_ltT, k_ltF, k_eqT, k_eqF, c_cl, c_sub, nI_add, pk_mul, zin_nI, zg_true, ob_some, zm_none, zm_some, if_true, if_false, Bool.false_eq_true, d_t, d_f, ob_eta, ob_eta1, m_ltn, m_nlt, m_nle, m_len, m_ne, m_ne', k_mltT, k_mltF, k_mleT, k_mleF, k_meqT, k_meqF, m_neg]) (by simp (disch := omega) only [↓ob_some, ↓zm_some, ↓zm_none, ↓zg_true, ↓zg_in, ↓(ob_of (b1 (zR1 S 1))), ↓(ob_of (b2 (zR1 S 1))), reduceIte, li, lo, k_leT, k_leF, k_ltT, k_ltF, k_eqT, k_eqF, c_cl, c_sub, nI_add, pk_mul, zin_nI, zg_true, ob_some, zm_none, zm_some, if_true, if_false, Bool.false_eq_true, d_t, d_f, ob_eta, ob_eta1, m_ltn, m_nlt, m_nle, m_len, m_ne, m_ne', k_mltT, k_mltF, k_mleT, k_mleF, k_meqT, k_meqF, m_neg])
    · have z : ∀ c s, zar (zR1 S c) 1 s = zar S 1 s := fun c s => congrFun (r1_a (by decide)) s
      have z2 : ∀ c s, zar (zR1 S c) 2 s = zar S 2 s := fun c s => congrFun (r1_a (by decide)) s
      have iN : ∀ T s, s < 8 → zar T 1 s = -nI 1 → M_X12_isRow T (nI s) = some (nI 0) := fun T s hs hT => by unfold M_X12_isRow; simp (disch := omega) only [reduceIte, li, lo, k_leT, k_leF, k_ltT, k_ltF, k_eqT, k_eqF, c_cl, c_sub, nI_add, pk_mul, zin_nI, zg_true, ob_some, zm_none, zm_some, if_true, if_false, Bool.false_eq_true, d_t, d_f, ob_eta, ob_eta1, m_ltn, m_nlt, m_nle, m_len, m_ne, m_ne', k_mltT, k_mltF, k_mleT, k_mleF, k_meqT, k_meqF, m_neg, hT]
      have iP : ∀ T s p, s < 8 → p < 6 → zar T 1 s = nI p → M_X12_isRow T (nI s) = some (nI 0) := fun T s p hs hp hT => by unfold M_X12_isRow; simp (disch := omega) only [reduceIte, li, lo, k_leT, k_leF, k_ltT, k_ltF, k_eqT, k_eqF, c_cl, c_sub, nI_add, pk_mul, zin_nI, zg_true, ob_some, zm_none, zm_some, if_true, if_false, Bool.false_eq_true, d_t, d_f, ob_eta, ob_eta1, m_ltn, m_nlt, m_nle, m_len, m_ne, m_ne', k_mltT, k_mltF, k_mleT, k_mleF, k_meqT, k_meqF, m_neg, hT]
      have iR : ∀ T s t, s < 8 → t < 4 → zar T 1 s = nI (100 + t) → M_X12_isRow T (nI s) = some (nI 1) := fun T s t hs ht hT => by unfold M_X12_isRow; simp (disch := omega) only [reduceIte, li, lo, k_leT, k_leF, k_ltT, k_ltF, k_eqT, k_eqF, c_cl, c_sub, nI_add, pk_mul, zin_nI, zg_true, ob_some, zm_none, zm_some, if_true, if_false, Bool.false_eq_true, d_t, d_f, ob_eta, ob_eta1, m_ltn, m_nlt, m_nle, m_len, m_ne, m_ne', k_mltT, k_mltF, k_mleT, k_mleF, k_meqT, k_meqF, m_neg, hT]
      rcases cSt h hs1 with ⟨p1, r1, e1⟩ | ⟨q1, hq1, p1, r1, e1⟩ | ⟨m1, t1, hm1, ht1, p1, r1, e1, u1, v1, w1, y1⟩
      · rcases cSt h hs2 with ⟨p2, r2, e2⟩ | ⟨q2, hq2, p2, r2, e2⟩ | ⟨m2, t2, hm2, ht2, p2, r2, e2, u2, v2, w2, y2⟩
        · have rf : M_X11_refusalOfTwo pk S (some s1) (some s2) = some (-nI 3) := by unfold M_X11_refusalOfTwo; simp (disch := omega) only [↓ob_some, ↓zm_some, ↓zm_none, ↓zg_true, ↓zg_in, ↓(ob_of p1), ↓(ob_of p2), ↓(ob_of r1), reduceIte, li, lo, k_leT, k_leF, k_ltT, k_ltF, k_eqT, k_eqF, c_cl, c_sub, nI_add, pk_mul, zin_nI, zg_true, ob_some, zm_none, zm_some, if_true, if_false, Bool.false_eq_true, d_t, d_f, ob_eta, ob_eta1, m_ltn, m_nlt, m_nle, m_len, m_ne, m_ne', k_mltT, k_mltF, k_mleT, k_mleF, k_meqT, k_meqF, m_neg]
          have e1 := (z 3 s1).trans e1
          have e2 := (z 3 s2).trans e2
          refine st_no h 3 (by decide) (by decide) (by simp (disch := omega) only [↓ob_some, ↓zm_some, ↓zm_none, ↓zg_true, ↓zg_in, ↓(ob_of a1), ↓(zg_of c1), ↓(ob_of a2), ↓(zg_of c2), ↓(ob_of rf), reduceIte, li, lo, k_leT, k_leF, k_ltT, k_ltF, k_eqT, k_eqF, c_cl, c_sub, nI_add, pk_mul, zin_nI, zg_true, ob_some, zm_none, zm_some, if_true, if_false, Bool.false_eq_true, d_t, d_f, ob_eta, ob_eta1, m_ltn, m_nlt, m_nle, m_len, m_ne, m_ne', k_mltT, k_mltF, k_mleT, k_mleF, k_meqT, k_meqF, m_neg]) ?_
          have b98 : M_X12_copy (zR1 S 3) (nI s1) (nI s2) x3 x4 x5 = M_X12_copy_B98 (zR1 S 3) (nI s1) (nI s2) x3 x4 x5 := by
            unfold M_X12_copy
            simp (disch := omega) only [↓ob_some, ↓zm_some, ↓zm_none, ↓zg_true, ↓zg_in, ↓(ob_of (b1 (zR1 S 3))), ↓(ob_of (b2 (zR1 S 3))), M_X12_copy_B43, M_X12_copy_B60, e1, e2, ↓(ob_of (iN (zR1 S 3) s1 hs1 e1)), reduceIte, li, lo, k_leT, k_leF, k_ltT, k_ltF, k_eqT, k_eqF, c_cl, c_sub, nI_add, pk_mul, zin_nI, zg_true, ob_some, zm_none, zm_some, if_true, if_false, Bool.false_eq_true, d_t, d_f, ob_eta, ob_eta1, m_ltn, m_nlt, m_nle, m_len, m_ne, m_ne', k_mltT, k_mltF, k_mleT, k_mleF, k_meqT, k_meqF, m_neg]
          refine Eq.trans b98 ?_
          unfold M_X12_copy_B98 M_X12_copy_B116
          simp (disch := omega) only [↓ob_some, ↓zm_some, ↓zm_none, ↓zg_true, ↓zg_in, e1, e2, reduceIte, li, lo, k_leT, k_leF, k_ltT, k_ltF, k_eqT, k_eqF, c_cl, c_sub, nI_add, pk_mul, zin_nI, zg_true, ob_some, zm_none, zm_some, if_true, if_false, Bool.false_eq_true, d_t, d_f, ob_eta, ob_eta1, m_ltn, m_nlt, m_nle, m_len, m_ne, m_ne', k_mltT, k_mltF, k_mleT, k_mleF, k_meqT, k_meqF, m_neg]
        · have rf : M_X11_refusalOfTwo pk S (some s1) (some s2) = some (-nI 2) := by unfold M_X11_refusalOfTwo; simp (disch := omega) only [↓ob_some, ↓zm_some, ↓zm_none, ↓zg_true, ↓zg_in, ↓(ob_of p1), ↓(ob_of p2), reduceIte, li, lo, k_leT, k_leF, k_ltT, k_ltF, k_eqT, k_eqF, c_cl, c_sub, nI_add, pk_mul, zin_nI, zg_true, ob_some, zm_none, zm_some, if_true, if_false, Bool.false_eq_true, d_t, d_f, ob_eta, ob_eta1, m_ltn, m_nlt, m_nle, m_len, m_ne, m_ne', k_mltT, k_mltF, k_mleT, k_mleF, k_meqT, k_meqF, m_neg]
          have e1 := (z 2 s1).trans e1
          have e2 := (z 2 s2).trans e2
          exact st_no h 2 (by decide) (by decide) (by simp (disch := omega) only [↓ob_some, ↓zm_some, ↓zm_none, ↓zg_true, ↓zg_in, ↓(ob_of a1), ↓(zg_of c1), ↓(ob_of a2), ↓(zg_of c2), ↓(ob_of rf), reduceIte, li, lo, k_leT, k_leF, k_ltT, k_ltF, k_eqT, k_eqF, c_cl, c_sub, nI_add, pk_mul, zin_nI, zg_true, ob_some, zm_none, zm_some, if_true, if_false, Bool.false_eq_true, d_t, d_f, ob_eta, ob_eta1, m_ltn, m_nlt, m_nle, m_len, m_ne, m_ne', k_mltT, k_mltF, k_mleT, k_mleF, k_meqT, k_meqF, m_neg]) (by simp (disch := omega) only [↓ob_some, ↓zm_some, ↓zm_none, ↓zg_true, ↓zg_in, ↓(ob_of (b1 (zR1 S 2))), ↓(ob_of (b2 (zR1 S 2))), M_X12_copy_B43, M_X12_copy_B91, e1, e2, ↓(ob_of (iP (zR1 S 2) s2 q2 hs2 hq2 e2)), reduceIte, li, lo, k_leT, k_leF, k_ltT, k_ltF, k_eqT, k_eqF, c_cl, c_sub, nI_add, pk_mul, zin_nI, zg_true, ob_some, zm_none, zm_some, if_true, if_false, Bool.false_eq_true, d_t, d_f, ob_eta, ob_eta1, m_ltn, m_nlt, m_nle, m_len, m_ne, m_ne', k_mltT, k_mltF, k_mleT, k_mleF, k_meqT, k_meqF, m_neg])
        · have rf : M_X11_refusalOfTwo pk S (some s1) (some s2) = some (-nI 3) := by unfold M_X11_refusalOfTwo; simp (disch := omega) only [↓ob_some, ↓zm_some, ↓zm_none, ↓zg_true, ↓zg_in, ↓(ob_of p1), ↓(ob_of p2), ↓(ob_of r1), reduceIte, li, lo, k_leT, k_leF, k_ltT, k_ltF, k_eqT, k_eqF, c_cl, c_sub, nI_add, pk_mul, zin_nI, zg_true, ob_some, zm_none, zm_some, if_true, if_false, Bool.false_eq_true, d_t, d_f, ob_eta, ob_eta1, m_ltn, m_nlt, m_nle, m_len, m_ne, m_ne', k_mltT, k_mltF, k_mleT, k_mleF, k_meqT, k_meqF, m_neg]
          have e1 := (z 3 s1).trans e1
          have e2 := (z 3 s2).trans e2
          refine st_no h 3 (by decide) (by decide) (by simp (disch := omega) only [↓ob_some, ↓zm_some, ↓zm_none, ↓zg_true, ↓zg_in, ↓(ob_of a1), ↓(zg_of c1), ↓(ob_of a2), ↓(zg_of c2), ↓(ob_of rf), reduceIte, li, lo, k_leT, k_leF, k_ltT, k_ltF, k_eqT, k_eqF, c_cl, c_sub, nI_add, pk_mul, zin_nI, zg_true, ob_some, zm_none, zm_some, if_true, if_false, Bool.false_eq_true, d_t, d_f, ob_eta, ob_eta1, m_ltn, m_nlt, m_nle, m_len, m_ne, m_ne', k_mltT, k_mltF, k_mleT, k_mleF, k_meqT, k_meqF, m_neg]) ?_
          have b98 : M_X12_copy (zR1 S 3) (nI s1) (nI s2) x3 x4 x5 = M_X12_copy_B98 (zR1 S 3) (nI s1) (nI s2) x3 x4 x5 := by
            unfold M_X12_copy
            simp (disch := omega) only [↓ob_some, ↓zm_some, ↓zm_none, ↓zg_true, ↓zg_in, ↓(ob_of (b1 (zR1 S 3))), ↓(ob_of (b2 (zR1 S 3))), M_X12_copy_B43, M_X12_copy_B60, e1, e2, ↓(ob_of (iN (zR1 S 3) s1 hs1 e1)), ↓(ob_of (iR (zR1 S 3) s2 t2 hs2 ht2 e2)), reduceIte, li, lo, k_leT, k_leF, k_ltT, k_ltF, k_eqT, k_eqF, c_cl, c_sub, nI_add, pk_mul, zin_nI, zg_true, ob_some, zm_none, zm_some, if_true, if_false, Bool.false_eq_true, d_t, d_f, ob_eta, ob_eta1, m_ltn, m_nlt, m_nle, m_len, m_ne, m_ne', k_mltT, k_mltF, k_mleT, k_mleF, k_meqT, k_meqF, m_neg]
          refine Eq.trans b98 ?_
          unfold M_X12_copy_B98 M_X12_copy_B116
          simp (disch := omega) only [↓ob_some, ↓zm_some, ↓zm_none, ↓zg_true, ↓zg_in, e1, e2, reduceIte, li, lo, k_leT, k_leF, k_ltT, k_ltF, k_eqT, k_eqF, c_cl, c_sub, nI_add, pk_mul, zin_nI, zg_true, ob_some, zm_none, zm_some, if_true, if_false, Bool.false_eq_true, d_t, d_f, ob_eta, ob_eta1, m_ltn, m_nlt, m_nle, m_len, m_ne, m_ne', k_mltT, k_mltF, k_mleT, k_mleF, k_meqT, k_meqF, m_neg]
      · have rf : M_X11_refusalOfTwo pk S (some s1) (some s2) = some (-nI 2) := by unfold M_X11_refusalOfTwo; simp (disch := omega) only [↓ob_some, ↓zm_some, ↓zm_none, ↓zg_true, ↓zg_in, ↓(ob_of p1), reduceIte, li, lo, k_leT, k_leF, k_ltT, k_ltF, k_eqT, k_eqF, c_cl, c_sub, nI_add, pk_mul, zin_nI, zg_true, ob_some, zm_none, zm_some, if_true, if_false, Bool.false_eq_true, d_t, d_f, ob_eta, ob_eta1, m_ltn, m_nlt, m_nle, m_len, m_ne, m_ne', k_mltT, k_mltF, k_mleT, k_mleF, k_meqT, k_meqF, m_neg]
        have e1 := (z 2 s1).trans e1
        exact st_no h 2 (by decide) (by decide) (by simp (disch := omega) only [↓ob_some, ↓zm_some, ↓zm_none, ↓zg_true, ↓zg_in, ↓(ob_of a1), ↓(zg_of c1), ↓(ob_of a2), ↓(zg_of c2), ↓(ob_of rf), reduceIte, li, lo, k_leT, k_leF, k_ltT, k_ltF, k_eqT, k_eqF, c_cl, c_sub, nI_add, pk_mul, zin_nI, zg_true, ob_some, zm_none, zm_some, if_true, if_false, Bool.false_eq_true, d_t, d_f, ob_eta, ob_eta1, m_ltn, m_nlt, m_nle, m_len, m_ne, m_ne', k_mltT, k_mltF, k_mleT, k_mleF, k_meqT, k_meqF, m_neg]) (by simp (disch := omega) only [↓ob_some, ↓zm_some, ↓zm_none, ↓zg_true, ↓zg_in, ↓(ob_of (b1 (zR1 S 2))), ↓(ob_of (b2 (zR1 S 2))), M_X12_copy_B91, e1, ↓(ob_of (iP (zR1 S 2) s1 q1 hs1 hq1 e1)), reduceIte, li, lo, k_leT, k_leF, k_ltT, k_ltF, k_eqT, k_eqF, c_cl, c_sub, nI_add, pk_mul, zin_nI, zg_true, ob_some, zm_none, zm_some, if_true, if_false, Bool.false_eq_true, d_t, d_f, ob_eta, ob_eta1, m_ltn, m_nlt, m_nle, m_len, m_ne, m_ne', k_mltT, k_mltF, k_mleT, k_mleF, k_meqT, k_meqF, m_neg])
      · rcases cSt h hs2 with ⟨p2, r2, e2⟩ | ⟨q2, hq2, p2, r2, e2⟩ | ⟨m2, t2, hm2, ht2, p2, r2, e2, u2, v2, w2, y2⟩
        · have rf : M_X11_refusalOfTwo pk S (some s1) (some s2) = some (-nI 3) := by unfold M_X11_refusalOfTwo; simp (disch := omega) only [↓ob_some, ↓zm_some, ↓zm_none, ↓zg_true, ↓zg_in, ↓(ob_of p1), ↓(ob_of p2), ↓(ob_of r1), ↓(ob_of r2), reduceIte, li, lo, k_leT, k_leF, k_ltT, k_ltF, k_eqT, k_eqF, c_cl, c_sub, nI_add, pk_mul, zin_nI, zg_true, ob_some, zm_none, zm_some, if_true, if_false, Bool.false_eq_true, d_t, d_f, ob_eta, ob_eta1, m_ltn, m_nlt, m_nle, m_len, m_ne, m_ne', k_mltT, k_mltF, k_mleT, k_mleF, k_meqT, k_meqF, m_neg]
          have e1 := (z 3 s1).trans e1
          have e2 := (z 3 s2).trans e2
          refine st_no h 3 (by decide) (by decide) (by simp (disch := omega) only [↓ob_some, ↓zm_some, ↓zm_none, ↓zg_true, ↓zg_in, ↓(ob_of a1), ↓(zg_of c1), ↓(ob_of a2), ↓(zg_of c2), ↓(ob_of rf), reduceIte, li, lo, k_leT, k_leF, k_ltT, k_ltF, k_eqT, k_eqF, c_cl, c_sub, nI_add, pk_mul, zin_nI, zg_true, ob_some, zm_none, zm_some, if_true, if_false, Bool.false_eq_true, d_t, d_f, ob_eta, ob_eta1, m_ltn, m_nlt, m_nle, m_len, m_ne, m_ne', k_mltT, k_mltF, k_mleT, k_mleF, k_meqT, k_meqF, m_neg]) ?_
          have b98 : M_X12_copy (zR1 S 3) (nI s1) (nI s2) x3 x4 x5 = M_X12_copy_B98 (zR1 S 3) (nI s1) (nI s2) x3 x4 x5 := by
            unfold M_X12_copy
            simp (disch := omega) only [↓ob_some, ↓zm_some, ↓zm_none, ↓zg_true, ↓zg_in, ↓(ob_of (b1 (zR1 S 3))), ↓(ob_of (b2 (zR1 S 3))), M_X12_copy_B43, M_X12_copy_B60, e1, e2, ↓(ob_of (iR (zR1 S 3) s1 t1 hs1 ht1 e1)), ↓(ob_of (iN (zR1 S 3) s2 hs2 e2)), reduceIte, li, lo, k_leT, k_leF, k_ltT, k_ltF, k_eqT, k_eqF, c_cl, c_sub, nI_add, pk_mul, zin_nI, zg_true, ob_some, zm_none, zm_some, if_true, if_false, Bool.false_eq_true, d_t, d_f, ob_eta, ob_eta1, m_ltn, m_nlt, m_nle, m_len, m_ne, m_ne', k_mltT, k_mltF, k_mleT, k_mleF, k_meqT, k_meqF, m_neg]
          refine Eq.trans b98 ?_
          unfold M_X12_copy_B98 M_X12_copy_B116
          simp (disch := omega) only [↓ob_some, ↓zm_some, ↓zm_none, ↓zg_true, ↓zg_in, e1, e2, reduceIte, li, lo, k_leT, k_leF, k_ltT, k_ltF, k_eqT, k_eqF, c_cl, c_sub, nI_add, pk_mul, zin_nI, zg_true, ob_some, zm_none, zm_some, if_true, if_false, Bool.false_eq_true, d_t, d_f, ob_eta, ob_eta1, m_ltn, m_nlt, m_nle, m_len, m_ne, m_ne', k_mltT, k_mltF, k_mleT, k_mleF, k_meqT, k_meqF, m_neg]
        · have rf : M_X11_refusalOfTwo pk S (some s1) (some s2) = some (-nI 2) := by unfold M_X11_refusalOfTwo; simp (disch := omega) only [↓ob_some, ↓zm_some, ↓zm_none, ↓zg_true, ↓zg_in, ↓(ob_of p1), ↓(ob_of p2), reduceIte, li, lo, k_leT, k_leF, k_ltT, k_ltF, k_eqT, k_eqF, c_cl, c_sub, nI_add, pk_mul, zin_nI, zg_true, ob_some, zm_none, zm_some, if_true, if_false, Bool.false_eq_true, d_t, d_f, ob_eta, ob_eta1, m_ltn, m_nlt, m_nle, m_len, m_ne, m_ne', k_mltT, k_mltF, k_mleT, k_mleF, k_meqT, k_meqF, m_neg]
          have e1 := (z 2 s1).trans e1
          have e2 := (z 2 s2).trans e2
          exact st_no h 2 (by decide) (by decide) (by simp (disch := omega) only [↓ob_some, ↓zm_some, ↓zm_none, ↓zg_true, ↓zg_in, ↓(ob_of a1), ↓(zg_of c1), ↓(ob_of a2), ↓(zg_of c2), ↓(ob_of rf), reduceIte, li, lo, k_leT, k_leF, k_ltT, k_ltF, k_eqT, k_eqF, c_cl, c_sub, nI_add, pk_mul, zin_nI, zg_true, ob_some, zm_none, zm_some, if_true, if_false, Bool.false_eq_true, d_t, d_f, ob_eta, ob_eta1, m_ltn, m_nlt, m_nle, m_len, m_ne, m_ne', k_mltT, k_mltF, k_mleT, k_mleF, k_meqT, k_meqF, m_neg]) (by simp (disch := omega) only [↓ob_some, ↓zm_some, ↓zm_none, ↓zg_true, ↓zg_in, ↓(ob_of (b1 (zR1 S 2))), ↓(ob_of (b2 (zR1 S 2))), M_X12_copy_B43, M_X12_copy_B91, e1, e2, ↓(ob_of (iR (zR1 S 2) s1 t1 hs1 ht1 e1)), ↓(ob_of (iP (zR1 S 2) s2 q2 hs2 hq2 e2)), reduceIte, li, lo, k_leT, k_leF, k_ltT, k_ltF, k_eqT, k_eqF, c_cl, c_sub, nI_add, pk_mul, zin_nI, zg_true, ob_some, zm_none, zm_some, if_true, if_false, Bool.false_eq_true, d_t, d_f, ob_eta, ob_eta1, m_ltn, m_nlt, m_nle, m_len, m_ne, m_ne', k_mltT, k_mltF, k_mleT, k_mleF, k_meqT, k_meqF, m_neg])
        · by_cases et : t1 = t2
          · subst et
            have rf : M_X11_refusalOfTwo pk S (some s1) (some s2) = some (nI 0) := by unfold M_X11_refusalOfTwo; simp (disch := omega) only [↓ob_some, ↓zm_some, ↓zm_none, ↓zg_true, ↓zg_in, ↓(ob_of p1), ↓(ob_of p2), ↓(ob_of r1), ↓(ob_of r2), u1, u2, reduceIte, li, lo, k_leT, k_leF, k_ltT, k_ltF, k_eqT, k_eqF, c_cl, c_sub, nI_add, pk_mul, zin_nI, zg_true, ob_some, zm_none, zm_some, if_true, if_false, Bool.false_eq_true, d_t, d_f, ob_eta, ob_eta1, m_ltn, m_nlt, m_nle, m_len, m_ne, m_ne', k_mltT, k_mltF, k_mleT, k_mleF, k_meqT, k_meqF, m_neg]
            have toB : ∀ T, zar T 1 = zar S 1 → M_X12_copy T (nI s1) (nI s2) x3 x4 x5 = M_X12_copy_B98 T (nI s1) (nI s2) x3 x4 x5 := by
              intro T hT
              have e1 : zar T 1 s1 = nI (100 + t1) := by rw [hT]; exact e1
              have e2 : zar T 1 s2 = nI (100 + t1) := by rw [hT]; exact e2
              unfold M_X12_copy
              simp (disch := omega) only [↓ob_some, ↓zm_some, ↓zm_none, ↓zg_true, ↓zg_in, ↓(ob_of (b1 T)), ↓(ob_of (b2 T)), M_X12_copy_B43, M_X12_copy_B60, e1, e2, ↓(ob_of (iR T s1 t1 hs1 ht1 e1)), ↓(ob_of (iR T s2 t1 hs2 ht1 e2)), reduceIte, li, lo, k_leT, k_leF, k_ltT, k_ltF, k_eqT, k_eqF, c_cl, c_sub, nI_add, pk_mul, zin_nI, zg_true, ob_some, zm_none, zm_some, if_true, if_false, Bool.false_eq_true, d_t, d_f, ob_eta, ob_eta1, m_ltn, m_nlt, m_nle, m_len, m_ne, m_ne', k_mltT, k_mltF, k_mleT, k_mleF, k_meqT, k_meqF, m_neg]
            have e1' := fun c => (z c s1).trans e1
            have e2' := fun c => (z c s2).trans e2
            have w1' := fun c => (z2 c s1).trans w1
            have w2' := fun c => (z2 c s2).trans w2
            show zStp pk _ (fun T => M_X12_copy T (nI s1) (nI s2) x3 x4 x5)
            by_cases n0 : x5 < nI 0
            · have n1 : ¬ nI 0 ≤ x5 := Int32.not_le.mpr n0
              refine st_no h 4 (by decide) (by decide) (by simp (disch := omega) only [↓ob_some, ↓zm_some, ↓zm_none, ↓zg_true, ↓zg_in, ↓(ob_of a1), ↓(zg_of c1), ↓(ob_of a2), ↓(zg_of c2), ↓(ob_of rf), n1, reduceIte, li, lo, k_leT, k_leF, k_ltT, k_ltF, k_eqT, k_eqF, c_cl, c_sub, nI_add, pk_mul, zin_nI, zg_true, ob_some, zm_none, zm_some, if_true, if_false, Bool.false_eq_true, d_t, d_f, ob_eta, ob_eta1, m_ltn, m_nlt, m_nle, m_len, m_ne, m_ne', k_mltT, k_mltF, k_mleT, k_mleF, k_meqT, k_meqF, m_neg]) ?_
              show M_X12_copy (zR1 S 4) (nI s1) (nI s2) x3 x4 x5 = _
              rw [toB _ (r1_a (by decide))]
              unfold M_X12_copy_B98
              have e1' := e1' 4
              have e2' := e2' 4
              simp (disch := omega) only [↓ob_some, ↓zm_some, ↓zm_none, ↓zg_true, ↓zg_in, e1', e2', n1, reduceIte, li, lo, k_leT, k_leF, k_ltT, k_ltF, k_eqT, k_eqF, c_cl, c_sub, nI_add, pk_mul, zin_nI, zg_true, ob_some, zm_none, zm_some, if_true, if_false, Bool.false_eq_true, d_t, d_f, ob_eta, ob_eta1, m_ltn, m_nlt, m_nle, m_len, m_ne, m_ne', k_mltT, k_mltF, k_mleT, k_mleF, k_meqT, k_meqF, m_neg]
            · obtain ⟨b, hb, rfl⟩ := nI_of n0
              have e15 := e1' 5
              have e25 := e2' 5
              have w15 := w1' 5
              have w25 := w2' 5
              by_cases i0 : x3 < nI 0
              · have hp1 : M_X7_hasPart pk S s1 x3 (nI b) = some (nI 0) := by unfold M_X7_hasPart; simp (disch := omega) only [↓ob_some, ↓zm_some, ↓zm_none, ↓zg_true, ↓zg_in, ↓(ob_of r1), i0, reduceIte, li, lo, k_leT, k_leF, k_ltT, k_ltF, k_eqT, k_eqF, c_cl, c_sub, nI_add, pk_mul, zin_nI, zg_true, ob_some, zm_none, zm_some, if_true, if_false, Bool.false_eq_true, d_t, d_f, ob_eta, ob_eta1, m_ltn, m_nlt, m_nle, m_len, m_ne, m_ne', k_mltT, k_mltF, k_mleT, k_mleF, k_meqT, k_meqF, m_neg]
                refine st_no h 5 (by decide) (by decide) (by simp (disch := omega) only [↓ob_some, ↓zm_some, ↓zm_none, ↓zg_true, ↓zg_in, ↓(ob_of a1), ↓(zg_of c1), ↓(ob_of a2), ↓(zg_of c2), ↓(ob_of rf), ↓(ob_of hp1), reduceIte, li, lo, k_leT, k_leF, k_ltT, k_ltF, k_eqT, k_eqF, c_cl, c_sub, nI_add, pk_mul, zin_nI, zg_true, ob_some, zm_none, zm_some, if_true, if_false, Bool.false_eq_true, d_t, d_f, ob_eta, ob_eta1, m_ltn, m_nlt, m_nle, m_len, m_ne, m_ne', k_mltT, k_mltF, k_mleT, k_mleF, k_meqT, k_meqF, m_neg]) ?_
                show M_X12_copy (zR1 S 5) (nI s1) (nI s2) x3 x4 (nI b) = _
                rw [toB _ (r1_a (by decide))]
                unfold M_X12_copy_B98 M_X12_copy_B179
                simp (disch := omega) only [↓ob_some, ↓zm_some, ↓zm_none, ↓zg_true, ↓zg_in, e15, e25, i0, reduceIte, li, lo, k_leT, k_leF, k_ltT, k_ltF, k_eqT, k_eqF, c_cl, c_sub, nI_add, pk_mul, zin_nI, zg_true, ob_some, zm_none, zm_some, if_true, if_false, Bool.false_eq_true, d_t, d_f, ob_eta, ob_eta1, m_ltn, m_nlt, m_nle, m_len, m_ne, m_ne', k_mltT, k_mltF, k_mleT, k_mleF, k_meqT, k_meqF, m_neg]
              · obtain ⟨a, ha, rfl⟩ := nI_of i0
                by_cases le1 : a + b ≤ m1
                · have hp1 : M_X7_hasPart pk S s1 (nI a) (nI b) = some (nI 1) := by
                    unfold M_X7_hasPart
                    have := eq_false (p := m1 < a + b) (by omega)
                    rw [← lgT (by omega) (by omega) (by omega)] at this
                    simp (disch := omega) only [↓ob_some, ↓zm_some, ↓zm_none, ↓zg_true, ↓zg_in, ↓(ob_of r1), v1, this, reduceIte, li, lo, k_leT, k_leF, k_ltT, k_ltF, k_eqT, k_eqF, c_cl, c_sub, nI_add, pk_mul, zin_nI, zg_true, ob_some, zm_none, zm_some, if_true, if_false, Bool.false_eq_true, d_t, d_f, ob_eta, ob_eta1, m_ltn, m_nlt, m_nle, m_len, m_ne, m_ne', k_mltT, k_mltF, k_mleT, k_mleF, k_meqT, k_meqF, m_neg]
                  by_cases j0 : x4 < nI 0
                  · have hp2 : M_X7_hasPart pk S s2 x4 (nI b) = some (nI 0) := by unfold M_X7_hasPart; simp (disch := omega) only [↓ob_some, ↓zm_some, ↓zm_none, ↓zg_true, ↓zg_in, ↓(ob_of r2), j0, reduceIte, li, lo, k_leT, k_leF, k_ltT, k_ltF, k_eqT, k_eqF, c_cl, c_sub, nI_add, pk_mul, zin_nI, zg_true, ob_some, zm_none, zm_some, if_true, if_false, Bool.false_eq_true, d_t, d_f, ob_eta, ob_eta1, m_ltn, m_nlt, m_nle, m_len, m_ne, m_ne', k_mltT, k_mltF, k_mleT, k_mleF, k_meqT, k_meqF, m_neg]
                    refine st_no h 5 (by decide) (by decide) (by simp (disch := omega) only [↓ob_some, ↓zm_some, ↓zm_none, ↓zg_true, ↓zg_in, ↓(ob_of a1), ↓(zg_of c1), ↓(ob_of a2), ↓(zg_of c2), ↓(ob_of rf), ↓(ob_of hp1), ↓(ob_of hp2), reduceIte, li, lo, k_leT, k_leF, k_ltT, k_ltF, k_eqT, k_eqF, c_cl, c_sub, nI_add, pk_mul, zin_nI, zg_true, ob_some, zm_none, zm_some, if_true, if_false, Bool.false_eq_true, d_t, d_f, ob_eta, ob_eta1, m_ltn, m_nlt, m_nle, m_len, m_ne, m_ne', k_mltT, k_mltF, k_mleT, k_mleF, k_meqT, k_meqF, m_neg]) ?_
                    show M_X12_copy (zR1 S 5) (nI s1) (nI s2) (nI a) x4 (nI b) = _
                    rw [toB _ (r1_a (by decide))]
                    unfold M_X12_copy_B98 M_X12_copy_B179
                    simp (disch := omega) only [↓ob_some, ↓zm_some, ↓zm_none, ↓zg_true, ↓zg_in, e15, e25, j0, reduceIte, li, lo, k_leT, k_leF, k_ltT, k_ltF, k_eqT, k_eqF, c_cl, c_sub, nI_add, pk_mul, zin_nI, zg_true, ob_some, zm_none, zm_some, if_true, if_false, Bool.false_eq_true, d_t, d_f, ob_eta, ob_eta1, m_ltn, m_nlt, m_nle, m_len, m_ne, m_ne', k_mltT, k_mltF, k_mleT, k_mleF, k_meqT, k_meqF, m_neg]
                  · obtain ⟨c, hc, rfl⟩ := nI_of j0
                    have g1 := lgT (a := a) (b := b) (m := m1) (by omega) (by omega) (by omega)
                    rw [eq_false (show ¬ m1 < a + b by omega)] at g1
                    by_cases le2 : c + b ≤ m2
                    · have hp2 : M_X7_hasPart pk S s2 (nI c) (nI b) = some (nI 1) := by
                        unfold M_X7_hasPart
                        have := eq_false (p := m2 < c + b) (by omega)
                        rw [← lgT (by omega) (by omega) (by omega)] at this
                        simp (disch := omega) only [↓ob_some, ↓zm_some, ↓zm_none, ↓zg_true, ↓zg_in, ↓(ob_of r2), v2, this, reduceIte, li, lo, k_leT, k_leF, k_ltT, k_ltF, k_eqT, k_eqF, c_cl, c_sub, nI_add, pk_mul, zin_nI, zg_true, ob_some, zm_none, zm_some, if_true, if_false, Bool.false_eq_true, d_t, d_f, ob_eta, ob_eta1, m_ltn, m_nlt, m_nle, m_len, m_ne, m_ne', k_mltT, k_mltF, k_mleT, k_mleF, k_meqT, k_meqF, m_neg]
                      have g2 := lgL (a := c) (b := b) (m := m2) (by omega) (by omega) (by omega)
                      rw [eq_true (show c + b ≤ m2 by omega)] at g2
                      have zc : zcp (nI a) (nI c) (nI b) 160 160 = true := by
                        unfold zcp
                        rw [c_cl (by omega), c_cl (by omega), c_cl (by omega), decide_eq_false (nI_pos (by omega)), decide_eq_false (nI_pos (by omega)), decide_eq_false (nI_pos (by omega)), decide_eq_true (show a + b ≤ 160 by omega), decide_eq_true (show c + b ≤ 160 by omega)]
                        rfl
                      have S1 : ∃ T', M_X12_copy (zL S (40 + 2 * s2 + 1) (va_cpy (zlo S (40 + 2 * s1 + 1)) (zlo S (40 + 2 * s2 + 1)) a c b)) (nI s1) (nI s2) (nI a) (nI c) (nI b) = some (nI 1, T') ∧ zFr (fun k => k = 3) (zL S (40 + 2 * s2 + 1) (va_cpy (zlo S (40 + 2 * s1 + 1)) (zlo S (40 + 2 * s2 + 1)) a c b)) T' ∧ ∀ j, zlo T' 3 j = if 160 * s2 + c ≤ j ∧ j < 160 * s2 + c + b then zlo S 3 (160 * s1 + a + (j - (160 * s2 + c))) else zlo S 3 j := by
                        have l3 : zlo (zL S (40 + 2 * s2 + 1) (va_cpy (zlo S (40 + 2 * s1 + 1)) (zlo S (40 + 2 * s2 + 1)) a c b)) 3 = zlo S 3 := l_n (by omega)
                        rw [toB (zL S (40 + 2 * s2 + 1) (va_cpy (zlo S (40 + 2 * s1 + 1)) (zlo S (40 + 2 * s2 + 1)) a c b)) rfl, ← l3]
                        unfold M_X12_copy_B98 M_X12_copy_B248
                        by_cases q : s1 = s2
                        · subst q
                          have em : m2 = m1 := (nI_eq (by omega) (by omega)).mp (w2.symm.trans w1)
                          rw [em] at g2
                          by_cases q2 : c ≤ a
                          · obtain ⟨T', h1, h2, h3⟩ := r_fwd (zL S (40 + 2 * s1 + 1) (va_cpy (zlo S (40 + 2 * s1 + 1)) (zlo S (40 + 2 * s1 + 1)) a c b)) hs1 hs1 (a := a) (c := c) (b := b) (by omega) (by omega) (Or.inr q2)
                            refine ⟨T', ?_, h2, h3⟩
                            rw [← h1]
                            simp (disch := omega) only [↓ob_some, ↓zm_some, ↓zm_none, ↓zg_true, ↓zg_in, l_a, e1, w1, g1, w2, g2, reduceIte, li, lo, k_leT, k_leF, k_ltT, k_ltF, k_eqT, k_eqF, c_cl, c_sub, nI_add, pk_mul, zin_nI, zg_true, ob_some, zm_none, zm_some, if_true, if_false, Bool.false_eq_true, d_t, d_f, ob_eta, ob_eta1, m_ltn, m_nlt, m_nle, m_len, m_ne, m_ne', k_mltT, k_mltF, k_mleT, k_mleF, k_meqT, k_meqF, m_neg]
                          · obtain ⟨T', h1, h2, h3⟩ := r_bwd (zL S (40 + 2 * s1 + 1) (va_cpy (zlo S (40 + 2 * s1 + 1)) (zlo S (40 + 2 * s1 + 1)) a c b)) hs1 (a := a) (c := c) (b := b) (by omega) (by omega) (by omega)
                            refine ⟨T', ?_, h2, h3⟩
                            rw [← h1]
                            simp (disch := omega) only [↓ob_some, ↓zm_some, ↓zm_none, ↓zg_true, ↓zg_in, l_a, e1, w1, g1, w2, g2, reduceIte, li, lo, k_leT, k_leF, k_ltT, k_ltF, k_eqT, k_eqF, c_cl, c_sub, nI_add, pk_mul, zin_nI, zg_true, ob_some, zm_none, zm_some, if_true, if_false, Bool.false_eq_true, d_t, d_f, ob_eta, ob_eta1, m_ltn, m_nlt, m_nle, m_len, m_ne, m_ne', k_mltT, k_mltF, k_mleT, k_mleF, k_meqT, k_meqF, m_neg]
                        · obtain ⟨T', h1, h2, h3⟩ := r_fwd (zL S (40 + 2 * s2 + 1) (va_cpy (zlo S (40 + 2 * s1 + 1)) (zlo S (40 + 2 * s2 + 1)) a c b)) hs1 hs2 (a := a) (c := c) (b := b) (by omega) (by omega) (Or.inl q)
                          refine ⟨T', ?_, h2, h3⟩
                          rw [← h1]
                          simp (disch := omega) only [↓ob_some, ↓zm_some, ↓zm_none, ↓zg_true, ↓zg_in, l_a, e1, e2, w1, g1, w2, g2, reduceIte, li, lo, k_leT, k_leF, k_ltT, k_ltF, k_eqT, k_eqF, c_cl, c_sub, nI_add, pk_mul, zin_nI, zg_true, ob_some, zm_none, zm_some, if_true, if_false, Bool.false_eq_true, d_t, d_f, ob_eta, ob_eta1, m_ltn, m_nlt, m_nle, m_len, m_ne, m_ne', k_mltT, k_mltF, k_mleT, k_mleF, k_meqT, k_meqF, m_neg]
                      obtain ⟨T', q1, q2, q3⟩ := S1
                      have hf : zFr (fun k => k = 40 + 2 * s2 ∨ k = 40 + 2 * s2 + 1 ∨ k = 1 ∨ k = 2 ∨ k = 3) S T' := (zFr_L (by omega)).trans (q2.mono (fun k q => by omega))
                      have f1 : zar T' 1 = zar S 1 := q2.ar (by omega)
                      have f2 : zar T' 2 = zar S 2 := q2.ar (by omega)
                      have f3 : zsc T' (40 + 2 * s2) = zsc S (40 + 2 * s2) := q2.sc (by omega)
                      have f4 : zlo T' (40 + 2 * s2 + 1) = va_cpy (zlo S (40 + 2 * s1 + 1)) (zlo S (40 + 2 * s2 + 1)) a c b := (q2.lo (by omega)).trans l_y
                      refine ⟨nI 1, _, T', by simp (disch := omega) only [↓ob_some, ↓zm_some, ↓zm_none, ↓zg_true, ↓zg_in, ↓(ob_of a1), ↓(zg_of c1), ↓(ob_of a2), ↓(zg_of c2), ↓(ob_of rf), ↓(ob_of hp1), ↓(ob_of hp2), ↓(zg_of zc), reduceIte, li, lo, k_leT, k_leF, k_ltT, k_ltF, k_eqT, k_eqF, c_cl, c_sub, nI_add, pk_mul, zin_nI, zg_true, ob_some, zm_none, zm_some, if_true, if_false, Bool.false_eq_true, d_t, d_f, ob_eta, ob_eta1, m_ltn, m_nlt, m_nle, m_len, m_ne, m_ne', k_mltT, k_mltF, k_mleT, k_mleF, k_meqT, k_meqF, m_neg], q1, d, h.she hs2 hf hm2 ?_ ?_ ?_ (fun j hj => ?_) (Or.inr (Or.inr ⟨t1, ht1, by rw [f1]; exact e2⟩)) (fun j hj => by rw [f1]) (fun j hj => by rw [f2]) (fun s' j hs' hj => ?_)⟩
                      · rw [f3, f1, u2, e2]
                      · rw [f3]; exact v2
                      · rw [f2]; exact w2
                      · rw [f4, q3]
                        by_cases e : c ≤ j ∧ j < c + b
                        · rw [pk_cpy_in e.1 e.2, if_pos (by omega), y1 _ (by omega)]; congr 1; omega
                        · rw [pk_cpy_out (by omega), if_neg (by omega), y2 _ hj]
                      · rw [q3, if_neg (by omega)]
                    · have hp2 : M_X7_hasPart pk S s2 (nI c) (nI b) = some (nI 0) := by
                        unfold M_X7_hasPart
                        have := eq_true (p := m2 < c + b) (by omega)
                        rw [← lgT (by omega) (by omega) (by omega)] at this
                        simp (disch := omega) only [↓ob_some, ↓zm_some, ↓zm_none, ↓zg_true, ↓zg_in, ↓(ob_of r2), v2, this, reduceIte, li, lo, k_leT, k_leF, k_ltT, k_ltF, k_eqT, k_eqF, c_cl, c_sub, nI_add, pk_mul, zin_nI, zg_true, ob_some, zm_none, zm_some, if_true, if_false, Bool.false_eq_true, d_t, d_f, ob_eta, ob_eta1, m_ltn, m_nlt, m_nle, m_len, m_ne, m_ne', k_mltT, k_mltF, k_mleT, k_mleF, k_meqT, k_meqF, m_neg]
                      have g2 := lgL (a := c) (b := b) (m := m2) (by omega) (by omega) (by omega)
                      rw [eq_false (show ¬ c + b ≤ m2 by omega)] at g2
                      refine st_no h 5 (by decide) (by decide) (by simp (disch := omega) only [↓ob_some, ↓zm_some, ↓zm_none, ↓zg_true, ↓zg_in, ↓(ob_of a1), ↓(zg_of c1), ↓(ob_of a2), ↓(zg_of c2), ↓(ob_of rf), ↓(ob_of hp1), ↓(ob_of hp2), reduceIte, li, lo, k_leT, k_leF, k_ltT, k_ltF, k_eqT, k_eqF, c_cl, c_sub, nI_add, pk_mul, zin_nI, zg_true, ob_some, zm_none, zm_some, if_true, if_false, Bool.false_eq_true, d_t, d_f, ob_eta, ob_eta1, m_ltn, m_nlt, m_nle, m_len, m_ne, m_ne', k_mltT, k_mltF, k_mleT, k_mleF, k_meqT, k_meqF, m_neg]) ?_
                      show M_X12_copy (zR1 S 5) (nI s1) (nI s2) (nI a) (nI c) (nI b) = _
                      rw [toB _ (r1_a (by decide))]
                      unfold M_X12_copy_B98 M_X12_copy_B179
                      simp (disch := omega) only [↓ob_some, ↓zm_some, ↓zm_none, ↓zg_true, ↓zg_in, e15, e25, w15, w25, g1, g2, reduceIte, li, lo, k_leT, k_leF, k_ltT, k_ltF, k_eqT, k_eqF, c_cl, c_sub, nI_add, pk_mul, zin_nI, zg_true, ob_some, zm_none, zm_some, if_true, if_false, Bool.false_eq_true, d_t, d_f, ob_eta, ob_eta1, m_ltn, m_nlt, m_nle, m_len, m_ne, m_ne', k_mltT, k_mltF, k_mleT, k_mleF, k_meqT, k_meqF, m_neg]
                · have hp1 : M_X7_hasPart pk S s1 (nI a) (nI b) = some (nI 0) := by
                    unfold M_X7_hasPart
                    have := eq_true (p := m1 < a + b) (by omega)
                    rw [← lgT (by omega) (by omega) (by omega)] at this
                    simp (disch := omega) only [↓ob_some, ↓zm_some, ↓zm_none, ↓zg_true, ↓zg_in, ↓(ob_of r1), v1, this, reduceIte, li, lo, k_leT, k_leF, k_ltT, k_ltF, k_eqT, k_eqF, c_cl, c_sub, nI_add, pk_mul, zin_nI, zg_true, ob_some, zm_none, zm_some, if_true, if_false, Bool.false_eq_true, d_t, d_f, ob_eta, ob_eta1, m_ltn, m_nlt, m_nle, m_len, m_ne, m_ne', k_mltT, k_mltF, k_mleT, k_mleF, k_meqT, k_meqF, m_neg]
                  have g1 := lgT (a := a) (b := b) (m := m1) (by omega) (by omega) (by omega)
                  rw [eq_true (show m1 < a + b by omega)] at g1
                  refine st_no h 5 (by decide) (by decide) (by simp (disch := omega) only [↓ob_some, ↓zm_some, ↓zm_none, ↓zg_true, ↓zg_in, ↓(ob_of a1), ↓(zg_of c1), ↓(ob_of a2), ↓(zg_of c2), ↓(ob_of rf), ↓(ob_of hp1), reduceIte, li, lo, k_leT, k_leF, k_ltT, k_ltF, k_eqT, k_eqF, c_cl, c_sub, nI_add, pk_mul, zin_nI, zg_true, ob_some, zm_none, zm_some, if_true, if_false, Bool.false_eq_true, d_t, d_f, ob_eta, ob_eta1, m_ltn, m_nlt, m_nle, m_len, m_ne, m_ne', k_mltT, k_mltF, k_mleT, k_mleF, k_meqT, k_meqF, m_neg]) ?_
                  show M_X12_copy (zR1 S 5) (nI s1) (nI s2) (nI a) x4 (nI b) = _
                  rw [toB _ (r1_a (by decide))]
                  unfold M_X12_copy_B98 M_X12_copy_B179
                  by_cases j0 : x4 < nI 0
                  · simp (disch := omega) only [↓ob_some, ↓zm_some, ↓zm_none, ↓zg_true, ↓zg_in, e15, e25, w15, g1, j0, reduceIte, li, lo, k_leT, k_leF, k_ltT, k_ltF, k_eqT, k_eqF, c_cl, c_sub, nI_add, pk_mul, zin_nI, zg_true, ob_some, zm_none, zm_some, if_true, if_false, Bool.false_eq_true, d_t, d_f, ob_eta, ob_eta1, m_ltn, m_nlt, m_nle, m_len, m_ne, m_ne', k_mltT, k_mltF, k_mleT, k_mleF, k_meqT, k_meqF, m_neg]
                  · simp (disch := omega) only [↓ob_some, ↓zm_some, ↓zm_none, ↓zg_true, ↓zg_in, e15, e25, w15, g1, j0, reduceIte, li, lo, k_leT, k_leF, k_ltT, k_ltF, k_eqT, k_eqF, c_cl, c_sub, nI_add, pk_mul, zin_nI, zg_true, ob_some, zm_none, zm_some, if_true, if_false, Bool.false_eq_true, d_t, d_f, ob_eta, ob_eta1, m_ltn, m_nlt, m_nle, m_len, m_ne, m_ne', k_mltT, k_mltF, k_mleT, k_mleF, k_meqT, k_meqF, m_neg]
          · have rf : M_X11_refusalOfTwo pk S (some s1) (some s2) = some (-nI 2) := by unfold M_X11_refusalOfTwo; simp (disch := omega) only [↓ob_some, ↓zm_some, ↓zm_none, ↓zg_true, ↓zg_in, ↓(ob_of p1), ↓(ob_of p2), ↓(ob_of r1), ↓(ob_of r2), u1, u2, reduceIte, li, lo, k_leT, k_leF, k_ltT, k_ltF, k_eqT, k_eqF, c_cl, c_sub, nI_add, pk_mul, zin_nI, zg_true, ob_some, zm_none, zm_some, if_true, if_false, Bool.false_eq_true, d_t, d_f, ob_eta, ob_eta1, m_ltn, m_nlt, m_nle, m_len, m_ne, m_ne', k_mltT, k_mltF, k_mleT, k_mleF, k_meqT, k_meqF, m_neg]
            have e1 := (z 2 s1).trans e1
            have e2 := (z 2 s2).trans e2
            exact st_no h 2 (by decide) (by decide) (by simp (disch := omega) only [↓ob_some, ↓zm_some, ↓zm_none, ↓zg_true, ↓zg_in, ↓(ob_of a1), ↓(zg_of c1), ↓(ob_of a2), ↓(zg_of c2), ↓(ob_of rf), reduceIte, li, lo, k_leT, k_leF, k_ltT, k_ltF, k_eqT, k_eqF, c_cl, c_sub, nI_add, pk_mul, zin_nI, zg_true, ob_some, zm_none, zm_some, if_true, if_false, Bool.false_eq_true, d_t, d_f, ob_eta, ob_eta1, m_ltn, m_nlt, m_nle, m_len, m_ne, m_ne', k_mltT, k_mltF, k_mleT, k_mleF, k_meqT, k_meqF, m_neg]) (by simp (disch := omega) only [↓ob_some, ↓zm_some, ↓zm_none, ↓zg_true, ↓zg_in, ↓(ob_of (b1 (zR1 S 2))), ↓(ob_of (b2 (zR1 S 2))), M_X12_copy_B43, M_X12_copy_B60, M_X12_copy_B91, e1, e2, ↓(ob_of (iR (zR1 S 2) s1 t1 hs1 ht1 e1)), ↓(ob_of (iR (zR1 S 2) s2 t2 hs2 ht2 e2)), reduceIte, li, lo, k_leT, k_leF, k_ltT, k_ltF, k_eqT, k_eqF, c_cl, c_sub, nI_add, pk_mul, zin_nI, zg_true, ob_some, zm_none, zm_some, if_true, if_false, Bool.false_eq_true, d_t, d_f, ob_eta, ob_eta1, m_ltn, m_nlt, m_nle, m_len, m_ne, m_ne', k_mltT, k_mltF, k_mleT, k_mleF, k_meqT, k_meqF, m_neg])
end COP
