/-! WHICH COPY, AND WHAT TO ASK IT NEXT -/
theorem i32_lo (a : Int32) : -2147483648 ≤ a.toInt := Int32.minValue_le_toInt a
theorem i32_hi (a : Int32) : a.toInt < 2147483648 := Int32.toInt_lt a
theorem off_t (a b : Int32) : (Int32.toInt64 a - Int32.toInt64 b).toInt = a.toInt - b.toInt := by
  have h1 := i32_lo a
  have h2 := i32_hi a
  have h3 := i32_lo b
  have h4 := i32_hi b
  rw [Int64.toInt_sub, Int32.toInt_toInt64, Int32.toInt_toInt64]
  exact Int.bmod_eq_of_le_mul_two (by omega) (by omega)
theorem offn_t (a b : Int32) : (-(Int32.toInt64 a - Int32.toInt64 b)).toInt = b.toInt - a.toInt := by
  have h1 := i32_lo a
  have h2 := i32_hi a
  have h3 := i32_lo b
  have h4 := i32_hi b
  rw [Int64.toInt_neg, off_t, Int.bmod_eq_of_le_mul_two (by omega) (by omega)]
  omega
/-- off by e at most -/
def near (a b : Int32) (e : Nat) : Bool := decide (a.toInt - b.toInt ≤ e ∧ b.toInt - a.toInt ≤ e)
theorem near_l (a b : Int32) {e : Nat} (he : e < 1000) : (near a b e = true ∧ (nI 0 < lg_cmp (Int32.toInt64 a - Int32.toInt64 b) (Int32.toInt64 (nI e))) = False ∧ (nI 0 ≤ lg_cmp (Int32.toInt64 a - Int32.toInt64 b) (Int32.toInt64 (-nI e))) = True) ∨ (near a b e = false ∧ ((nI 0 < lg_cmp (Int32.toInt64 a - Int32.toInt64 b) (Int32.toInt64 (nI e))) = True ∨ ((nI 0 < lg_cmp (Int32.toInt64 a - Int32.toInt64 b) (Int32.toInt64 (nI e))) = False ∧ (nI 0 ≤ lg_cmp (Int32.toInt64 a - Int32.toInt64 b) (Int32.toInt64 (-nI e))) = False))) := by
  have g1 : (nI 0 < lg_cmp (Int32.toInt64 a - Int32.toInt64 b) (Int32.toInt64 (nI e))) = ((e : Int) < a.toInt - b.toInt) := by
    apply propext
    rw [show nI 0 = (0 : Int32) from rfl, lg_cmp_gt, Int64.lt_iff_toInt_lt, off_t, Int32.toInt_toInt64, n_toInt (by omega)]
  have g2 : (nI 0 ≤ lg_cmp (Int32.toInt64 a - Int32.toInt64 b) (Int32.toInt64 (-nI e))) = (-(e : Int) ≤ a.toInt - b.toInt) := by
    apply propext
    rw [show nI 0 = (0 : Int32) from rfl, lg_cmp_ge, Int64.le_iff_toInt_le, off_t, Int32.toInt_toInt64, m_toInt (by omega)]
  rw [g1, g2]
  unfold near
  by_cases c : a.toInt - b.toInt ≤ e ∧ b.toInt - a.toInt ≤ e
  · exact Or.inl ⟨decide_eq_true c, eq_false (by omega), eq_true (by omega)⟩
  · refine Or.inr ⟨decide_eq_false c, ?_⟩
    by_cases c2 : (e : Int) < a.toInt - b.toInt
    · exact Or.inl (eq_true c2)
    · exact Or.inr ⟨eq_false c2, eq_false (by omega)⟩
theorem near_r (a b : Int32) {e : Nat} (he : e < 1000) : (lg_cmp (if 0 < Int32.toInt64 b - Int32.toInt64 a then Int32.toInt64 b - Int32.toInt64 a else -(Int32.toInt64 b - Int32.toInt64 a)) (Int32.toInt64 (nI e)) ≤ nI 0) = (near a b e = true) := by
  apply propext
  rw [show nI 0 = (0 : Int32) from rfl, lg_cmp_le, Int64.le_iff_toInt_le, Int32.toInt_toInt64, n_toInt (by omega)]
  unfold near
  rw [decide_eq_true_eq]
  by_cases c : (0 : Int64) < Int32.toInt64 b - Int32.toInt64 a
  · rw [if_pos c, off_t]
    rw [Int64.lt_iff_toInt_lt, off_t] at c
    have z : (0 : Int64).toInt = 0 := by decide
    omega
  · rw [if_neg c, offn_t]
    rw [Int64.lt_iff_toInt_lt, off_t] at c
    have z : (0 : Int64).toInt = 0 := by decide
    omega
/-- what is told by the first n elements fits a copy -/
def sFit (d : zD) (u : Nat → Int32) (n e p c : Nat) : Bool := decide (dou d p ≤ c) && sNo (fun x => !near (dv d p (8 * c + x)) (u x) e) 0 n
def sFI (d : zD) (u : Nat → Int32) (n e p : Nat) (L : List Nat) (c : Nat) : List Nat := if sFit d u n e p c = true then L ++ [10 * p + c] else L
def sFL (d : zD) (u : Nat → Int32) (n e : Nat) : List Nat := sFo (fun L p => sFo (sFI d u n e p) 0 6 L) 0 (dn d) []
def uv (S : zSt) (s x : Nat) : Int32 := Int64.toInt32 (zlo S 3 (160 * s + x))
section WHI
variable {P : Nat → Prop} {pk : Nat → Nat} {S S' T : zSt} {q s p n m c e x : Nat} {d : zD} {u : Nat → Int32}
theorem l_fits (h : Lp pk S q d p) (hc : c < 6) (he : e < 1000) (hn : n ≤ 8) (hu : ∀ j, j < n → M_X7_intAt pk S s (nI j) = some (u j)) : M_X4_fitsTold pk S q s (nI c) (nI n) (nI e) = some (if sNo (fun x => !near (dv d p (8 * c + x)) (u x) e) 0 n = true then nI 1 else nI 0) := by
  have go : ∀ r n' i, i + r = n → r < n' → M_X4_fitsTold_B3 pk S q s n' (nI c) (nI n) (nI e) (nI i) = some (if sNo (fun x => !near (dv d p (8 * c + x)) (u x) e) i r = true then nI 1 else nI 0) := by
    intro r
    induction r with
    | zero =>
      intro n' i h1 h2
      obtain ⟨n', rfl⟩ : ∃ k, n' = k + 1 := ⟨n' - 1, by omega⟩
      unfold sNo
      rw [M_X4_fitsTold_B3]
      simp (disch := omega) only [reduceIte, li, lo, k_leT, k_leF, k_ltT, k_ltF, k_eqT, k_eqF, c_cl, c_sub, nI_add, pk_mul, zin_nI, zg_true, ob_some, zm_none, zm_some, if_true, if_false, Bool.false_eq_true, d_t, d_f, ob_eta, ob_eta1, m_ltn, m_nlt, m_nle, m_len, m_ne, m_ne', k_mltT, k_mltF, k_mleT, k_mleF, k_meqT, k_meqF, m_neg]
    | succ r ih =>
      intro n' i h1 h2
      obtain ⟨n', rfl⟩ : ∃ k, n' = k + 1 := ⟨n' - 1, by omega⟩
      have st := l_strengthOf h hc (show i < 8 by omega)
      have ia := hu i (by omega)
      have ih := ih n' (i + 1) (by omega) (by omega)
      unfold sNo
      rw [M_X4_fitsTold_B3]
      rcases near_l (dv d p (8 * c + i)) (u i) he with ⟨g0, g1, g2⟩ | ⟨g0, g1 | ⟨g1, g2⟩⟩
      · rw [g0]
        simp (disch := omega) only [↓ob_some, ↓zm_some, ↓zm_none, ↓zg_true, ↓zg_in, ↓(ob_of st), ↓(ob_of ia), g1, g2, Bool.not_true, reduceIte, li, lo, k_leT, k_leF, k_ltT, k_ltF, k_eqT, k_eqF, c_cl, c_sub, nI_add, pk_mul, zin_nI, zg_true, ob_some, zm_none, zm_some, if_true, if_false, Bool.false_eq_true, d_t, d_f, ob_eta, ob_eta1, m_ltn, m_nlt, m_nle, m_len, m_ne, m_ne', k_mltT, k_mltF, k_mleT, k_mleF, k_meqT, k_meqF, m_neg]
        exact ih
      · rw [g0]
        simp (disch := omega) only [↓ob_some, ↓zm_some, ↓zm_none, ↓zg_true, ↓zg_in, ↓(ob_of st), ↓(ob_of ia), g1, Bool.not_false, reduceIte, li, lo, k_leT, k_leF, k_ltT, k_ltF, k_eqT, k_eqF, c_cl, c_sub, nI_add, pk_mul, zin_nI, zg_true, ob_some, zm_none, zm_some, if_true, if_false, Bool.false_eq_true, d_t, d_f, ob_eta, ob_eta1, m_ltn, m_nlt, m_nle, m_len, m_ne, m_ne', k_mltT, k_mltF, k_mleT, k_mleF, k_meqT, k_meqF, m_neg]
      · rw [g0]
        simp (disch := omega) only [↓ob_some, ↓zm_some, ↓zm_none, ↓zg_true, ↓zg_in, ↓(ob_of st), ↓(ob_of ia), g1, g2, Bool.not_false, reduceIte, li, lo, k_leT, k_leF, k_ltT, k_ltF, k_eqT, k_eqF, c_cl, c_sub, nI_add, pk_mul, zin_nI, zg_true, ob_some, zm_none, zm_some, if_true, if_false, Bool.false_eq_true, d_t, d_f, ob_eta, ob_eta1, m_ltn, m_nlt, m_nle, m_len, m_ne, m_ne', k_mltT, k_mltF, k_mleT, k_mleF, k_meqT, k_meqF, m_neg]
  unfold M_X4_fitsTold
  exact go n zF 0 (by omega) (by show _ < 4096; omega)
theorem r_fits (h : Rp T d p) (K : Kp d p) (hp : p < 6) (hc : c < 6) (he : e < 1000) (hn : n ≤ 8) (hs : s < 8) (hu : ∀ j, j < n → uv T s j = u j) : M_X12_fits T (nI s) (nI n) (nI e) (nI p) (nI c) = some (if sFit d u n e p c = true then nI 1 else nI 0) := by
  have go : ∀ r n' i, i + r = n → r < n' → M_X12_fits_B16 T n' (nI s) (nI n) (nI e) (nI p) (nI c) (nI i) = some (if sNo (fun x => !near (dv d p (8 * c + x)) (u x) e) i r = true then nI 1 else nI 0) := by
    intro r
    induction r with
    | zero =>
      intro n' i h1 h2
      obtain ⟨n', rfl⟩ : ∃ k, n' = k + 1 := ⟨n' - 1, by omega⟩
      unfold sNo
      rw [M_X12_fits_B16]
      simp (disch := omega) only [reduceIte, li, lo, k_leT, k_leF, k_ltT, k_ltF, k_eqT, k_eqF, c_cl, c_sub, nI_add, pk_mul, zin_nI, zg_true, ob_some, zm_none, zm_some, if_true, if_false, Bool.false_eq_true, d_t, d_f, ob_eta, ob_eta1, m_ltn, m_nlt, m_nle, m_len, m_ne, m_ne', k_mltT, k_mltF, k_mleT, k_mleF, k_meqT, k_meqF, m_neg]
    | succ r ih =>
      intro n' i h1 h2
      obtain ⟨n', rfl⟩ : ∃ k, n' = k + 1 := ⟨n' - 1, by omega⟩
      have st := r_strengthOf h hp hc (show i < 8 by omega)
      have ta : M_X12_toldAt T (nI s) (nI i) = some (u i) := by
        rw [← hu i (by omega)]
        unfold M_X12_toldAt uv
        simp (disch := omega) only [reduceIte, li, lo, k_leT, k_leF, k_ltT, k_ltF, k_eqT, k_eqF, c_cl, c_sub, nI_add, pk_mul, zin_nI, zg_true, ob_some, zm_none, zm_some, if_true, if_false, Bool.false_eq_true, d_t, d_f, ob_eta, ob_eta1, m_ltn, m_nlt, m_nle, m_len, m_ne, m_ne', k_mltT, k_mltF, k_mleT, k_mleF, k_meqT, k_meqF, m_neg]
      have ih := ih n' (i + 1) (by omega) (by omega)
      have nr := near_r (dv d p (8 * c + i)) (u i) he
      unfold sNo
      rw [M_X12_fits_B16]
      cases g0 : near (dv d p (8 * c + i)) (u i) e with
      | true =>
        rw [g0] at nr
        simp (disch := omega) only [↓ob_some, ↓zm_some, ↓zm_none, ↓zg_true, ↓zg_in, ↓(ob_of ta), ↓(ob_of st), nr, Bool.not_true, reduceIte, li, lo, k_leT, k_leF, k_ltT, k_ltF, k_eqT, k_eqF, c_cl, c_sub, nI_add, pk_mul, zin_nI, zg_true, ob_some, zm_none, zm_some, if_true, if_false, Bool.false_eq_true, d_t, d_f, ob_eta, ob_eta1, m_ltn, m_nlt, m_nle, m_len, m_ne, m_ne', k_mltT, k_mltF, k_mleT, k_mleF, k_meqT, k_meqF, m_neg]
        exact ih
      | false =>
        rw [g0] at nr
        simp (disch := omega) only [↓ob_some, ↓zm_some, ↓zm_none, ↓zg_true, ↓zg_in, ↓(ob_of ta), ↓(ob_of st), nr, Bool.not_false, reduceIte, li, lo, k_leT, k_leF, k_ltT, k_ltF, k_eqT, k_eqF, c_cl, c_sub, nI_add, pk_mul, zin_nI, zg_true, ob_some, zm_none, zm_some, if_true, if_false, Bool.false_eq_true, d_t, d_f, ob_eta, ob_eta1, m_ltn, m_nlt, m_nle, m_len, m_ne, m_ne', k_mltT, k_mltF, k_mleT, k_mleF, k_meqT, k_meqF, m_neg]
  have il := r_lives (d := d) h.ou hp K.o hc
  unfold M_X12_fits sFit
  by_cases o : c < dou d p
  · rw [if_pos o] at il
    rw [decide_eq_false (show ¬ dou d p ≤ c by omega)]
    simp (disch := omega) only [↓ob_some, ↓zm_some, ↓zm_none, ↓zg_true, ↓zg_in, ↓(ob_of il), Bool.false_and, reduceIte, li, lo, k_leT, k_leF, k_ltT, k_ltF, k_eqT, k_eqF, c_cl, c_sub, nI_add, pk_mul, zin_nI, zg_true, ob_some, zm_none, zm_some, if_true, if_false, Bool.false_eq_true, d_t, d_f, ob_eta, ob_eta1, m_ltn, m_nlt, m_nle, m_len, m_ne, m_ne', k_mltT, k_mltF, k_mleT, k_mleF, k_meqT, k_meqF, m_neg]
  · rw [if_neg o] at il
    rw [decide_eq_true (show dou d p ≤ c by omega)]
    simp (disch := omega) only [↓ob_some, ↓zm_some, ↓zm_none, ↓zg_true, ↓zg_in, ↓(ob_of il), Bool.true_and, reduceIte, li, lo, k_leT, k_leF, k_ltT, k_ltF, k_eqT, k_eqF, c_cl, c_sub, nI_add, pk_mul, zin_nI, zg_true, ob_some, zm_none, zm_some, if_true, if_false, Bool.false_eq_true, d_t, d_f, ob_eta, ob_eta1, m_ltn, m_nlt, m_nle, m_len, m_ne, m_ne', k_mltT, k_mltF, k_mleT, k_mleF, k_meqT, k_meqF, m_neg]
    exact go n zF 0 (by omega) (by show _ < 4096; omega)
theorem gd_l {L : List Nat} {j : Nat} (h : j < L.length) (v : Nat) : (L ++ [v]).getD j 0 = L.getD j 0 := by
  rw [List.getD_eq_getElem?_getD, List.getD_eq_getElem?_getD, List.getElem?_append_left h]
theorem gd_r {L : List Nat} (v : Nat) : (L ++ [v]).getD L.length 0 = v := by
  rw [List.getD_eq_getElem?_getD, List.getElem?_append_right (Nat.le_refl _), Nat.sub_self]; rfl
/-- row 23 holds the list -/
def rw23 (S : zSt) (L : List Nat) : Prop := ∀ j, j < L.length → zar S 23 j = nI (L.getD j 0)
theorem rw23_app {L : List Nat} (h : rw23 S L) (v : Nat) : rw23 (zAs S 23 L.length (nI v)) (L ++ [v]) := by
  intro j hj
  rw [List.length_append, List.length_singleton] at hj
  rw [as_y, upd_a]
  by_cases e : j = L.length
  · subst e
    rw [if_pos rfl, gd_r]
  · rw [if_neg e, gd_l (by omega)]; exact h j (by omega)
theorem l_findFits (h : LL 0 pk S d) (K : KK d) (he : e < 1000) (hn : n ≤ 8) (hu : ∀ S', zFr (fun k => k = 23) S S' → ∀ j, j < n → M_X7_intAt pk S' s (nI j) = some (u j)) : ∃ S', M_X4_findFits pk S 0 s (nI n) (nI e) = some (nI (sFL d u n e).length, S') ∧ zFr (fun k => k = 23) S S' ∧ rw23 S' (sFL d u n e) ∧ (sFL d u n e).length ≤ 36 := by
  have hn6 := K.1
  have key := lpR (fun n' (a : zSt × Int32) z => M_X4_findFits_B6 pk 0 s n' a.1 (nI n) (nI e) a.2 z) (fun L p => sFo (sFI d u n e p) 0 6 L) (fun z a L => zFr (fun k => k = 23) S a.1 ∧ rw23 a.1 L ∧ a.2 = nI L.length ∧ L.length ≤ 6 * z) (fun L o => ∃ S', o = some (nI L.length, S') ∧ zFr (fun k => k = 23) S S' ∧ rw23 S' L ∧ L.length ≤ 36) (dn d) (fun n' a L hR => ?_) (fun n' a L z hz hR => ?_) (dn d) 0 zF (S, nI 0) [] ⟨zFr.rf, fun j hj => absurd hj (Nat.not_lt_zero _), rfl, Nat.le_refl _⟩ (by omega) (by show _ < 4096; omega)
  · exact key
  · obtain ⟨f, g, e2, l⟩ := hR
    have hl : LL 0 pk a.1 d := h.fr hn6 f (by omega) (fun k a b => by omega)
    refine ⟨a.1, ?_, f, g, by omega⟩
    rw [← e2]
    simp (disch := omega) only [reduceIte, li, lo, k_leT, k_leF, k_ltT, k_ltF, k_eqT, k_eqF, c_cl, c_sub, nI_add, pk_mul, zin_nI, zg_true, ob_some, zm_none, zm_some, if_true, if_false, Bool.false_eq_true, d_t, d_f, ob_eta, ob_eta1, m_ltn, m_nlt, m_nle, m_len, m_ne, m_ne', k_mltT, k_mltF, k_mleT, k_mleF, k_meqT, k_meqF, m_neg, M_X4_findFits_B6, hl.1]
  · obtain ⟨f, g, e2, l⟩ := hR
    have hl : LL 0 pk a.1 d := h.fr hn6 f (by omega) (fun k a b => by omega)
    have pa := l_perY hl hn6 hz
    have ok := (hl.pe hz).ok (show 6 * 0 + z < 18 by omega)
    have inner : ∀ K' : zSt → Int32 → Int32 → Int32 → Int32 → Option (Int32 × zSt), ∃ S', M_X4_findFits_B26 pk 0 s K' zF a.1 (nI n) (nI e) (nI L.length) (nI z) (some (6 * 0 + z)) (nI 0) = K' S' (nI n) (nI e) (nI (sFo (sFI d u n e z) 0 6 L).length) (nI (z + 1)) ∧ zFr (fun k => k = 23) S S' ∧ rw23 S' (sFo (sFI d u n e z) 0 6 L) ∧ (sFo (sFI d u n e z) 0 6 L).length ≤ 6 * z + 6 := by
      intro K'
      refine lpR (fun n' (b : zSt × Int32) y => M_X4_findFits_B26 pk 0 s K' n' b.1 (nI n) (nI e) b.2 (nI z) (some (6 * 0 + z)) y) (sFI d u n e z) (fun y b M => zFr (fun k => k = 23) S b.1 ∧ rw23 b.1 M ∧ b.2 = nI M.length ∧ M.length ≤ 6 * z + y) (fun M o => ∃ S', o = K' S' (nI n) (nI e) (nI M.length) (nI (z + 1)) ∧ zFr (fun k => k = 23) S S' ∧ rw23 S' M ∧ M.length ≤ 6 * z + 6) 6 (fun n' b M hR => ?_) (fun n' b M y hy hR => ?_) 6 0 zF (a.1, nI L.length) L ⟨f, g, rfl, l⟩ rfl (by decide)
      · obtain ⟨f1, g1, e3, l1⟩ := hR
        refine ⟨b.1, ?_, f1, g1, l1⟩
        rw [← e3]
        simp (disch := omega) only [reduceIte, li, lo, k_leT, k_leF, k_ltT, k_ltF, k_eqT, k_eqF, c_cl, c_sub, nI_add, pk_mul, zin_nI, zg_true, ob_some, zm_none, zm_some, if_true, if_false, Bool.false_eq_true, d_t, d_f, ob_eta, ob_eta1, m_ltn, m_nlt, m_nle, m_len, m_ne, m_ne', k_mltT, k_mltF, k_mleT, k_mleF, k_meqT, k_meqF, m_neg, M_X4_findFits_B26, ok]
      · obtain ⟨f1, g1, e3, l1⟩ := hR
        have hl1 : LL 0 pk b.1 d := h.fr hn6 f1 (by omega) (fun k a b => by omega)
        have il := l_isLeft (hl1.pe hz) (K.pe hz).o hy
        have fi := l_fits (hl1.pe hz) hy he hn (hu b.1 f1)
        by_cases o : y < dou d z
        · rw [if_pos o] at il
          have sf : sFit d u n e z y = false := by unfold sFit; rw [decide_eq_false (by omega), Bool.false_and]
          refine ⟨b, ⟨?_, ?_, ?_, ?_⟩, ?_⟩
          · exact f1
          · unfold sFI; rw [sf]; exact g1
          · unfold sFI; rw [sf]; exact e3
          · unfold sFI; rw [sf]; show M.length ≤ _; omega
          · show M_X4_findFits_B26 pk 0 s K' (n' + 1) b.1 (nI n) (nI e) b.2 (nI z) (some (6 * 0 + z)) (nI y) = _
            rw [M_X4_findFits_B26]
            simp (disch := omega) only [↓ob_some, ↓zm_some, ↓zm_none, ↓zg_true, ↓zg_in, ↓(zg_of ok), ↓(ob_of il), reduceIte, li, lo, k_leT, k_leF, k_ltT, k_ltF, k_eqT, k_eqF, c_cl, c_sub, nI_add, pk_mul, zin_nI, zg_true, ob_some, zm_none, zm_some, if_true, if_false, Bool.false_eq_true, d_t, d_f, ob_eta, ob_eta1, m_ltn, m_nlt, m_nle, m_len, m_ne, m_ne', k_mltT, k_mltF, k_mleT, k_mleF, k_meqT, k_meqF, m_neg]
        · rw [if_neg o] at il
          cases sv : sNo (fun x => !near (dv d z (8 * y + x)) (u x) e) 0 n with
          | false =>
            rw [sv] at fi
            have fi : M_X4_fitsTold pk b.1 (6 * 0 + z) s (nI y) (nI n) (nI e) = some (nI 0) := fi
            have sf : sFit d u n e z y = false := by unfold sFit; rw [sv, Bool.and_false]
            refine ⟨b, ⟨?_, ?_, ?_, ?_⟩, ?_⟩
            · exact f1
            · unfold sFI; rw [sf]; exact g1
            · unfold sFI; rw [sf]; exact e3
            · unfold sFI; rw [sf]; show M.length ≤ _; omega
            · show M_X4_findFits_B26 pk 0 s K' (n' + 1) b.1 (nI n) (nI e) b.2 (nI z) (some (6 * 0 + z)) (nI y) = _
              rw [M_X4_findFits_B26]
              simp (disch := omega) only [↓ob_some, ↓zm_some, ↓zm_none, ↓zg_true, ↓zg_in, ↓(zg_of ok), ↓(ob_of il), ↓(ob_of fi), reduceIte, li, lo, k_leT, k_leF, k_ltT, k_ltF, k_eqT, k_eqF, c_cl, c_sub, nI_add, pk_mul, zin_nI, zg_true, ob_some, zm_none, zm_some, if_true, if_false, Bool.false_eq_true, d_t, d_f, ob_eta, ob_eta1, m_ltn, m_nlt, m_nle, m_len, m_ne, m_ne', k_mltT, k_mltF, k_mleT, k_mleF, k_meqT, k_meqF, m_neg]
          | true =>
            rw [sv] at fi
            have fi : M_X4_fitsTold pk b.1 (6 * 0 + z) s (nI y) (nI n) (nI e) = some (nI 1) := fi
            have sf : sFit d u n e z y = true := by unfold sFit; rw [sv, decide_eq_true (show dou d z ≤ y by omega)]; rfl
            refine ⟨(zAs b.1 23 M.length (nI (10 * z + y)), nI (M.length + 1)), ⟨?_, ?_, ?_, ?_⟩, ?_⟩
            · exact f1.trans (zFr_As rfl)
            · unfold sFI; rw [if_pos sf]; exact rw23_app g1 _
            · unfold sFI; rw [if_pos sf, List.length_append, List.length_singleton]
            · unfold sFI; rw [if_pos sf, List.length_append, List.length_singleton]; omega
            · show M_X4_findFits_B26 pk 0 s K' (n' + 1) b.1 (nI n) (nI e) b.2 (nI z) (some (6 * 0 + z)) (nI y) = M_X4_findFits_B26 pk 0 s K' n' (zAs b.1 23 M.length (nI (10 * z + y))) (nI n) (nI e) (nI (M.length + 1)) (nI z) (some (6 * 0 + z)) (nI (y + 1))
              rw [M_X4_findFits_B26, e3]
              simp (disch := omega) only [↓ob_some, ↓zm_some, ↓zm_none, ↓zg_true, ↓zg_in, ↓(zg_of ok), ↓(ob_of il), ↓(ob_of fi), reduceIte, li, lo, k_leT, k_leF, k_ltT, k_ltF, k_eqT, k_eqF, c_cl, c_sub, nI_add, pk_mul, zin_nI, zg_true, ob_some, zm_none, zm_some, if_true, if_false, Bool.false_eq_true, d_t, d_f, ob_eta, ob_eta1, m_ltn, m_nlt, m_nle, m_len, m_ne, m_ne', k_mltT, k_mltF, k_mleT, k_mleF, k_meqT, k_meqF, m_neg]
    obtain ⟨S', r1, r2, r3, r4⟩ := inner (fun S_ x2_ x3_ x5_ x6_ => M_X4_findFits_B6 pk 0 s n' S_ x2_ x3_ x5_ x6_)
    refine ⟨(S', nI (sFo (sFI d u n e z) 0 6 L).length), ⟨r2, r3, rfl, by omega⟩, ?_⟩
    show M_X4_findFits_B6 pk 0 s (n' + 1) a.1 (nI n) (nI e) a.2 (nI z) = _
    rw [M_X4_findFits_B6, e2]
    simp (disch := omega) only [↓ob_some, ↓zm_some, ↓zm_none, ↓zg_true, ↓zg_in, hl.1, ↓(ob_of pa), ↓(zg_of ok), reduceIte, li, lo, k_leT, k_leF, k_ltT, k_ltF, k_eqT, k_eqF, c_cl, c_sub, nI_add, pk_mul, zin_nI, zg_true, ob_some, zm_none, zm_some, if_true, if_false, Bool.false_eq_true, d_t, d_f, ob_eta, ob_eta1, m_ltn, m_nlt, m_nle, m_len, m_ne, m_ne', k_mltT, k_mltF, k_mleT, k_mleF, k_meqT, k_meqF, m_neg]
    exact r1
/-- the i-th of a list -/
def fnd (L : List Nat) (i : Int32) : Int32 := if ¬ i < nI 0 ∧ i < nI L.length then nI (L.getD i.toNatClampNeg 0) else -nI 1
theorem fnd_app {L : List Nat} (hl : L.length < 1000) (v : Nat) (i : Int32) : fnd (L ++ [v]) i = if nI L.length = i then nI v else fnd L i := by
  unfold fnd
  rw [List.length_append, List.length_singleton]
  rcases pk_ix i (n := L.length + 1) (by omega) with h | h | ⟨j, hj, rfl⟩
  · have h : i < nI 0 := h
    have ne : ¬ nI L.length = i := fun q => by subst q; rw [c_lt (by omega) (by decide)] at h; omega
    rw [if_neg (fun q => q.1 h), if_neg ne, if_neg (fun q => q.1 h)]
  · have h2 : ¬ i < nI (L.length + 1) := Int32.not_lt.mpr h
    have h3 : ¬ i < nI L.length := fun q => h2 (Int32.lt_trans q (nI_lt (Nat.lt_succ_self _) (by omega)))
    have ne : ¬ nI L.length = i := fun q => by subst q; rw [c_le (by omega) (by omega)] at h; omega
    rw [if_neg (fun q => h2 q.2), if_neg ne, if_neg (fun q => h3 q.2)]
  · rw [if_pos ⟨not_lt0 (by omega), nI_lt hj (by omega)⟩, c_cl (by omega)]
    by_cases e : L.length = j
    · subst e
      rw [if_pos rfl, gd_r]
    · rw [if_neg (fun q => e ((nI_eq (by omega) (by omega)).mp q)), if_pos ⟨not_lt0 (by omega), nI_lt (by omega) (by omega)⟩, gd_l (by omega)]
theorem r_which (h : RR T d) (K : KK d) (he : e < 1000) (hn : n ≤ 8) (hs : s < 8) (hu : ∀ j, j < n → uv T s j = u j) (i : Int32) : M_X12_which_B51 zF T (nI s) (nI n) (nI e) i (nI 0) (-nI 1) (nI 0) = if i = -nI 1 then some (nI (sFL d u n e).length, T) else if fnd (sFL d u n e) i = -nI 1 then M_X12_no T (-nI 5) else some (fnd (sFL d u n e) i, T) := by
  have hn6 := K.1
  refine lpR (fun n' (a : Int32 × Int32) z => M_X12_which_B51 n' T (nI s) (nI n) (nI e) i a.1 a.2 z) (fun L p => sFo (sFI d u n e p) 0 6 L) (fun z a L => a = (nI L.length, fnd L i) ∧ L.length ≤ 6 * z) (fun L o => o = if i = -nI 1 then some (nI L.length, T) else if fnd L i = -nI 1 then M_X12_no T (-nI 5) else some (fnd L i, T)) (dn d) (fun n' a L hR => ?_) (fun n' a L z hz hR => ?_) (dn d) 0 zF (nI 0, -nI 1) [] ⟨?_, Nat.le_refl _⟩ (by omega) (by show _ < 4096; omega)
  · obtain ⟨rfl, l⟩ := hR
    show M_X12_which_B51 (n' + 1) T (nI s) (nI n) (nI e) i (nI L.length) (fnd L i) (nI (dn d)) = _
    rw [M_X12_which_B51]
    by_cases c1 : i = -nI 1
    · simp (disch := omega) only [↓ob_some, ↓zm_some, ↓zm_none, ↓zg_true, ↓zg_in, h.1, c1, reduceIte, li, lo, k_leT, k_leF, k_ltT, k_ltF, k_eqT, k_eqF, c_cl, c_sub, nI_add, pk_mul, zin_nI, zg_true, ob_some, zm_none, zm_some, if_true, if_false, Bool.false_eq_true, d_t, d_f, ob_eta, ob_eta1, m_ltn, m_nlt, m_nle, m_len, m_ne, m_ne', k_mltT, k_mltF, k_mleT, k_mleF, k_meqT, k_meqF, m_neg]
    · by_cases c2 : fnd L i = -nI 1
      · simp (disch := omega) only [↓ob_some, ↓zm_some, ↓zm_none, ↓zg_true, ↓zg_in, h.1, c1, c2, reduceIte, li, lo, k_leT, k_leF, k_ltT, k_ltF, k_eqT, k_eqF, c_cl, c_sub, nI_add, pk_mul, zin_nI, zg_true, ob_some, zm_none, zm_some, if_true, if_false, Bool.false_eq_true, d_t, d_f, ob_eta, ob_eta1, m_ltn, m_nlt, m_nle, m_len, m_ne, m_ne', k_mltT, k_mltF, k_mleT, k_mleF, k_meqT, k_meqF, m_neg]
      · simp (disch := omega) only [↓ob_some, ↓zm_some, ↓zm_none, ↓zg_true, ↓zg_in, h.1, c1, c2, reduceIte, li, lo, k_leT, k_leF, k_ltT, k_ltF, k_eqT, k_eqF, c_cl, c_sub, nI_add, pk_mul, zin_nI, zg_true, ob_some, zm_none, zm_some, if_true, if_false, Bool.false_eq_true, d_t, d_f, ob_eta, ob_eta1, m_ltn, m_nlt, m_nle, m_len, m_ne, m_ne', k_mltT, k_mltF, k_mleT, k_mleF, k_meqT, k_meqF, m_neg]
  · obtain ⟨rfl, l⟩ := hR
    have inner : ∀ K' : zSt → Int32 → Int32 → Int32 → Int32 → Int32 → Int32 → Int32 → Option (Int32 × zSt), M_X12_which_B63 K' zF T (nI s) (nI n) (nI e) i (nI L.length) (fnd L i) (nI z) (nI 0) = K' T (nI s) (nI n) (nI e) i (nI (sFo (sFI d u n e z) 0 6 L).length) (fnd (sFo (sFI d u n e z) 0 6 L) i) (nI (z + 1)) ∧ (sFo (sFI d u n e z) 0 6 L).length ≤ 6 * z + 6 := by
      intro K'
      refine lpR (fun n' (b : Int32 × Int32) y => M_X12_which_B63 K' n' T (nI s) (nI n) (nI e) i b.1 b.2 (nI z) y) (sFI d u n e z) (fun y b M => b = (nI M.length, fnd M i) ∧ M.length ≤ 6 * z + y) (fun M o => o = K' T (nI s) (nI n) (nI e) i (nI M.length) (fnd M i) (nI (z + 1)) ∧ M.length ≤ 6 * z + 6) 6 (fun n' b M hR => ?_) (fun n' b M y hy hR => ?_) 6 0 zF (nI L.length, fnd L i) L ⟨rfl, l⟩ rfl (by decide)
      · obtain ⟨rfl, l1⟩ := hR
        exact ⟨by simp (disch := omega) only [reduceIte, li, lo, k_leT, k_leF, k_ltT, k_ltF, k_eqT, k_eqF, c_cl, c_sub, nI_add, pk_mul, zin_nI, zg_true, ob_some, zm_none, zm_some, if_true, if_false, Bool.false_eq_true, d_t, d_f, ob_eta, ob_eta1, m_ltn, m_nlt, m_nle, m_len, m_ne, m_ne', k_mltT, k_mltF, k_mleT, k_mleF, k_meqT, k_meqF, m_neg, M_X12_which_B63], l1⟩
      · obtain ⟨rfl, l1⟩ := hR
        have fi := r_fits (h.pe hz) (K.pe hz) (show z < 6 by omega) hy he hn hs hu
        show ∃ a' : Int32 × Int32, _ ∧ M_X12_which_B63 K' (n' + 1) T (nI s) (nI n) (nI e) i (nI M.length) (fnd M i) (nI z) (nI y) = _
        unfold sFI
        cases sf : sFit d u n e z y with
        | false =>
          rw [sf] at fi
          have fi : M_X12_fits T (nI s) (nI n) (nI e) (nI z) (nI y) = some (nI 0) := fi
          refine ⟨(nI M.length, fnd M i), ⟨rfl, by show M.length ≤ _; omega⟩, ?_⟩
          rw [M_X12_which_B63]
          simp (disch := omega) only [↓ob_some, ↓zm_some, ↓zm_none, ↓zg_true, ↓zg_in, ↓(ob_of fi), reduceIte, li, lo, k_leT, k_leF, k_ltT, k_ltF, k_eqT, k_eqF, c_cl, c_sub, nI_add, pk_mul, zin_nI, zg_true, ob_some, zm_none, zm_some, if_true, if_false, Bool.false_eq_true, d_t, d_f, ob_eta, ob_eta1, m_ltn, m_nlt, m_nle, m_len, m_ne, m_ne', k_mltT, k_mltF, k_mleT, k_mleF, k_meqT, k_meqF, m_neg]
        | true =>
          rw [sf] at fi
          have fi : M_X12_fits T (nI s) (nI n) (nI e) (nI z) (nI y) = some (nI 1) := fi
          have fa := fnd_app (L := M) (by omega) (10 * z + y) i
          refine ⟨(nI (M.length + 1), fnd (M ++ [10 * z + y]) i), ⟨?_, ?_⟩, ?_⟩
          · rw [if_pos rfl, List.length_append, List.length_singleton]
          · rw [if_pos rfl, List.length_append, List.length_singleton]; omega
          · rw [M_X12_which_B63]
            by_cases c : nI M.length = i
            · rw [if_pos c] at fa
              subst c
              simp (disch := omega) only [↓ob_some, ↓zm_some, ↓zm_none, ↓zg_true, ↓zg_in, ↓(ob_of fi), fa, reduceIte, li, lo, k_leT, k_leF, k_ltT, k_ltF, k_eqT, k_eqF, c_cl, c_sub, nI_add, pk_mul, zin_nI, zg_true, ob_some, zm_none, zm_some, if_true, if_false, Bool.false_eq_true, d_t, d_f, ob_eta, ob_eta1, m_ltn, m_nlt, m_nle, m_len, m_ne, m_ne', k_mltT, k_mltF, k_mleT, k_mleF, k_meqT, k_meqF, m_neg]
            · rw [if_neg c] at fa
              simp (disch := omega) only [↓ob_some, ↓zm_some, ↓zm_none, ↓zg_true, ↓zg_in, ↓(ob_of fi), c, fa, reduceIte, li, lo, k_leT, k_leF, k_ltT, k_ltF, k_eqT, k_eqF, c_cl, c_sub, nI_add, pk_mul, zin_nI, zg_true, ob_some, zm_none, zm_some, if_true, if_false, Bool.false_eq_true, d_t, d_f, ob_eta, ob_eta1, m_ltn, m_nlt, m_nle, m_len, m_ne, m_ne', k_mltT, k_mltF, k_mleT, k_mleF, k_meqT, k_meqF, m_neg]
    refine ⟨(nI (sFo (sFI d u n e z) 0 6 L).length, fnd (sFo (sFI d u n e z) 0 6 L) i), ⟨rfl, by have := (inner (fun _ _ _ _ _ _ _ _ => none)).2; omega⟩, ?_⟩
    show M_X12_which_B51 (n' + 1) T (nI s) (nI n) (nI e) i (nI L.length) (fnd L i) (nI z) = _
    rw [M_X12_which_B51]
    simp (disch := omega) only [↓ob_some, ↓zm_some, ↓zm_none, ↓zg_true, ↓zg_in, h.1, reduceIte, li, lo, k_leT, k_leF, k_ltT, k_ltF, k_eqT, k_eqF, c_cl, c_sub, nI_add, pk_mul, zin_nI, zg_true, ob_some, zm_none, zm_some, if_true, if_false, Bool.false_eq_true, d_t, d_f, ob_eta, ob_eta1, m_ltn, m_nlt, m_nle, m_len, m_ne, m_ne', k_mltT, k_mltF, k_mleT, k_mleF, k_meqT, k_meqF, m_neg]
    exact (inner _).1
  · have : fnd [] i = -nI 1 := by
      unfold fnd
      by_cases c : i < nI 0
      · rw [if_neg (fun q => q.1 c)]
      · rw [if_neg (fun q => c q.2)]
    rw [this]
    rfl
end WHI
