/-! SUMS over all; status; who is the odd one; unlike copies; heirs -/
def sDead (d : zD) : Int32 := sFo (fun acc p => acc + nI (dou d p)) 0 (dn d) 0
def sStrA (d : zD) : Int32 := sFo (fun acc p => acc + sStr d p) 0 (dn d) 0
def sRubA (d : zD) : Int32 := sFo (fun acc p => acc + sRubd d p) 0 (dn d) 0
theorem sFo_add {α : Type} (g : α → Nat → α) : ∀ (m k i : Nat) (a : α), sFo g i (m + k) a = sFo g (i + m) k (sFo g i m a) := by
  intro m
  induction m with
  | zero => intro k i a; rw [Nat.zero_add]; rfl
  | succ m ih =>
    intro k i a
    rw [show m + 1 + k = (m + k) + 1 by omega]
    show sFo g (i + 1) (m + k) (g a i) = sFo g (i + (m + 1)) k (sFo g (i + 1) m (g a i))
    rw [ih, show i + 1 + m = i + (m + 1) by omega]
theorem sFo_sum (f : Nat → Int32) : ∀ (m i : Nat) (a : Int32), sFo (fun acc j => acc + f j) i m a = a + sFo (fun acc j => acc + f j) i m 0 := by
  intro m
  induction m with
  | zero => intro i a; exact (Int32.add_zero a).symm
  | succ m ih =>
    intro i a
    show sFo _ (i + 1) m (a + f i) = a + sFo _ (i + 1) m (0 + f i)
    rw [ih (i + 1) (a + f i), ih (i + 1) (0 + f i), Int32.zero_add, Int32.add_assoc]
theorem sFo_shift {α : Type} (g : α → Nat → α) (k : Nat) : ∀ (m i : Nat) (a : α), sFo g (k + i) m a = sFo (fun a j => g a (k + j)) i m a := by
  intro m
  induction m with
  | zero => intro i a; rfl
  | succ m ih => intro i a; exact ih (i + 1) _
theorem sFo_flat (d : zD) : ∀ (n : Nat) (a : Int32), sFo (fun acc j => acc + dv d (j / 48) (j % 48)) 0 (48 * n) a = sFo (fun acc p => acc + sStr d p) 0 n a := by
  intro n
  induction n with
  | zero => intro a; rfl
  | succ n ih =>
    intro a
    rw [show 48 * (n + 1) = 48 * n + 48 by omega, sFo_add, ih, sFo_snoc _ n, Nat.zero_add, Nat.zero_add]
    rw [sFo_sum (fun j => dv d (j / 48) (j % 48)) 48 (48 * n)]
    refine congrArg (HAdd.hAdd (sFo (fun acc p => acc + sStr d p) 0 n a)) ?_
    unfold sStr
    have := sFo_shift (fun (acc : Int32) j => acc + dv d (j / 48) (j % 48)) (48 * n) 48 0 0
    rw [Nat.add_zero] at this
    rw [this]
    apply sFo_congr
    intro j b h1 h2
    rw [show (48 * n + j) / 48 = n by omega, show (48 * n + j) % 48 = j by omega]
section TOT
variable {pk : Nat → Nat} {S T : zSt} {i n p x c : Nat} {d : zD}
theorem l_deadTotal (h : LL i pk S d) (hn : dn d ≤ 6) (hi : i < 3) : M_X4_deadTotal pk S i = some (sDead d) := by
  unfold M_X4_deadTotal sDead
  refine lp (fun n acc z => M_X4_deadTotal_B4 pk S i n acc z) _ (fun a => a) (dn d) (fun n acc => ?_) (fun n acc z hz => ?_) (dn d) 0 zF 0 (by omega) (by show _ < 4096; omega)
  · simp (disch := omega) only [li, lo, c_le, c_lt, c_eq, c_cl, c_sub, nI_add, pk_mul, zin_nI, zg_true, ob_some, zm_none, zm_some, if_pos, if_neg, if_true, if_false, Bool.false_eq_true, d_t, d_f, ob_eta, ob_eta1, m_ltn, m_nlt, m_nle, m_len, m_ne, m_ne', m_mlt, m_mle, m_meq, m_neg, M_X4_deadTotal_B4, h.1]
  · simp (disch := omega) only [li, lo, c_le, c_lt, c_eq, c_cl, c_sub, nI_add, pk_mul, zin_nI, zg_true, ob_some, zm_none, zm_some, if_pos, if_neg, if_true, if_false, Bool.false_eq_true, d_t, d_f, ob_eta, ob_eta1, m_ltn, m_nlt, m_nle, m_len, m_ne, m_ne', m_mlt, m_mle, m_meq, m_neg, M_X4_deadTotal_B4, h.1, l_perY h hn hz, (h.pe hz).ok (show 6 * i + z < 18 by omega), M_X4_deadTotal_B31, (h.pe hz).ou]
theorem l_strengthTotal (h : LL i pk S d) (hn : dn d ≤ 6) (hi : i < 3) : M_X4_strengthTotal pk S i = some (sStrA d) := by
  unfold M_X4_strengthTotal sStrA
  refine lp (fun n acc z => M_X4_strengthTotal_B4 pk S i n acc z) _ (fun a => a) (dn d) (fun n acc => ?_) (fun n acc z hz => ?_) (dn d) 0 zF 0 (by omega) (by show _ < 4096; omega)
  · simp (disch := omega) only [li, lo, c_le, c_lt, c_eq, c_cl, c_sub, nI_add, pk_mul, zin_nI, zg_true, ob_some, zm_none, zm_some, if_pos, if_neg, if_true, if_false, Bool.false_eq_true, d_t, d_f, ob_eta, ob_eta1, m_ltn, m_nlt, m_nle, m_len, m_ne, m_ne', m_mlt, m_mle, m_meq, m_neg, M_X4_strengthTotal_B4, h.1]
  · simp (disch := omega) only [li, lo, c_le, c_lt, c_eq, c_cl, c_sub, nI_add, pk_mul, zin_nI, zg_true, ob_some, zm_none, zm_some, if_pos, if_neg, if_true, if_false, Bool.false_eq_true, d_t, d_f, ob_eta, ob_eta1, m_ltn, m_nlt, m_nle, m_len, m_ne, m_ne', m_mlt, m_mle, m_meq, m_neg, M_X4_strengthTotal_B4, h.1, l_perY h hn hz, (h.pe hz).ok (show 6 * i + z < 18 by omega), M_X4_strengthTotal_B31, l_strengthSum (h.pe hz)]
theorem l_smearTotal (h : LL i pk S d) (hn : dn d ≤ 6) (hi : i < 3) : M_X4_smearTotal pk S i = some (sRubA d) := by
  unfold M_X4_smearTotal sRubA
  refine lp (fun n acc z => M_X4_smearTotal_B4 pk S i n acc z) _ (fun a => a) (dn d) (fun n acc => ?_) (fun n acc z hz => ?_) (dn d) 0 zF 0 (by omega) (by show _ < 4096; omega)
  · simp (disch := omega) only [li, lo, c_le, c_lt, c_eq, c_cl, c_sub, nI_add, pk_mul, zin_nI, zg_true, ob_some, zm_none, zm_some, if_pos, if_neg, if_true, if_false, Bool.false_eq_true, d_t, d_f, ob_eta, ob_eta1, m_ltn, m_nlt, m_nle, m_len, m_ne, m_ne', m_mlt, m_mle, m_meq, m_neg, M_X4_smearTotal_B4, h.1]
  · simp (disch := omega) only [li, lo, c_le, c_lt, c_eq, c_cl, c_sub, nI_add, pk_mul, zin_nI, zg_true, ob_some, zm_none, zm_some, if_pos, if_neg, if_true, if_false, Bool.false_eq_true, d_t, d_f, ob_eta, ob_eta1, m_ltn, m_nlt, m_nle, m_len, m_ne, m_ne', m_mlt, m_mle, m_meq, m_neg, M_X4_smearTotal_B4, h.1, l_perY h hn hz, (h.pe hz).ok (show 6 * i + z < 18 by omega), M_X4_smearTotal_B31, l_smearSum (h.pe hz)]
theorem r_allDead (h : RR T d) (hn : dn d ≤ 6) : M_X12_allDead T = some (sDead d) := by
  unfold M_X12_allDead sDead
  refine lp (fun n acc z => M_X12_allDead_B4 T n acc z) _ (fun a => a) (dn d) (fun n acc => ?_) (fun n acc z hz => ?_) (dn d) 0 zF 0 (by omega) (by show _ < 4096; omega)
  · simp (disch := omega) only [li, lo, c_le, c_lt, c_eq, c_cl, c_sub, nI_add, pk_mul, zin_nI, zg_true, ob_some, zm_none, zm_some, if_pos, if_neg, if_true, if_false, Bool.false_eq_true, d_t, d_f, ob_eta, ob_eta1, m_ltn, m_nlt, m_nle, m_len, m_ne, m_ne', m_mlt, m_mle, m_meq, m_neg, M_X12_allDead_B4, h.1]
  · simp (disch := omega) only [li, lo, c_le, c_lt, c_eq, c_cl, c_sub, nI_add, pk_mul, zin_nI, zg_true, ob_some, zm_none, zm_some, if_pos, if_neg, if_true, if_false, Bool.false_eq_true, d_t, d_f, ob_eta, ob_eta1, m_ltn, m_nlt, m_nle, m_len, m_ne, m_ne', m_mlt, m_mle, m_meq, m_neg, M_X12_allDead_B4, h.1, (h.pe hz).ou]
theorem r_allSmears (h : RR T d) (hn : dn d ≤ 6) : M_X12_allSmears T = some (sRubA d) := by
  unfold M_X12_allSmears sRubA
  refine lp (fun n acc z => M_X12_allSmears_B4 T n acc z) _ (fun a => a) (dn d) (fun n acc => ?_) (fun n acc z hz => ?_) (dn d) 0 zF 0 (by omega) (by show _ < 4096; omega)
  · simp (disch := omega) only [li, lo, c_le, c_lt, c_eq, c_cl, c_sub, nI_add, pk_mul, zin_nI, zg_true, ob_some, zm_none, zm_some, if_pos, if_neg, if_true, if_false, Bool.false_eq_true, d_t, d_f, ob_eta, ob_eta1, m_ltn, m_nlt, m_nle, m_len, m_ne, m_ne', m_mlt, m_mle, m_meq, m_neg, M_X12_allSmears_B4, h.1]
  · simp (disch := omega) only [li, lo, c_le, c_lt, c_eq, c_cl, c_sub, nI_add, pk_mul, zin_nI, zg_true, ob_some, zm_none, zm_some, if_pos, if_neg, if_true, if_false, Bool.false_eq_true, d_t, d_f, ob_eta, ob_eta1, m_ltn, m_nlt, m_nle, m_len, m_ne, m_ne', m_mlt, m_mle, m_meq, m_neg, M_X12_allSmears_B4, h.1, r_rubbed (h.pe hz) (show z < 6 by omega)]
theorem r_allStrength (h : RR T d) (hn : dn d ≤ 6) : M_X12_allStrength T = some (sStrA d) := by
  unfold M_X12_allStrength sStrA
  rw [← sFo_flat]
  refine lp (fun n acc z => M_X12_allStrength_B4 T n acc z) _ (fun a => a) (48 * dn d) (fun n acc => ?_) (fun n acc z hz => ?_) (48 * dn d) 0 zF 0 (by omega) (by show _ < 4096; omega)
  · simp (disch := omega) only [li, lo, c_le, c_lt, c_eq, c_cl, c_sub, nI_add, pk_mul, zin_nI, zg_true, ob_some, zm_none, zm_some, if_pos, if_neg, if_true, if_false, Bool.false_eq_true, d_t, d_f, ob_eta, ob_eta1, m_ltn, m_nlt, m_nle, m_len, m_ne, m_ne', m_mlt, m_mle, m_meq, m_neg, M_X12_allStrength_B4, h.1]
  · have e := (h.pe (show z / 48 < dn d by omega)).st (show z % 48 < 48 by omega)
    rw [show 48 * (z / 48) + z % 48 = z by omega] at e
    simp (disch := omega) only [li, lo, c_le, c_lt, c_eq, c_cl, c_sub, nI_add, pk_mul, zin_nI, zg_true, ob_some, zm_none, zm_some, if_pos, if_neg, if_true, if_false, Bool.false_eq_true, d_t, d_f, ob_eta, ob_eta1, m_ltn, m_nlt, m_nle, m_len, m_ne, m_ne', m_mlt, m_mle, m_meq, m_neg, M_X12_allStrength_B4, h.1, e]
theorem s_status (h : Inv pk S d) (x1 : Int32) : zStq (M_X11_status pk S x1) (M_X12_status S x1) := by
  have hn := h.k.1
  obtain ⟨t, ht, t1, t2, t3⟩ := h.tr
  unfold M_X11_status M_X12_status
  rcases cN x1 18 with n | ⟨j, hj, rfl⟩
  · have n0 := n 0 (by decide)
    have n1 := n 1 (by decide)
    have n2 := n 2 (by decide)
    have n3 := n 3 (by decide)
    have n4 := n 4 (by decide)
    have n5 := n 5 (by decide)
    have n6 := n 6 (by decide)
    rcases cR x1 11 17 (by decide) (by decide) with q | ⟨q1, q2, q3⟩ | ⟨j, j1, j2, rfl⟩
    · exact ⟨-nI 1, by simp (disch := omega) only [li, lo, c_le, c_lt, c_eq, c_cl, c_sub, nI_add, pk_mul, zin_nI, zg_true, ob_some, zm_none, zm_some, if_pos, if_neg, if_true, if_false, Bool.false_eq_true, d_t, d_f, ob_eta, ob_eta1, m_ltn, m_nlt, m_nle, m_len, m_ne, m_ne', m_mlt, m_mle, m_meq, m_neg, n0, n1, n2, n3, n4, n5, n6, q], by simp (disch := omega) only [li, lo, c_le, c_lt, c_eq, c_cl, c_sub, nI_add, pk_mul, zin_nI, zg_true, ob_some, zm_none, zm_some, if_pos, if_neg, if_true, if_false, Bool.false_eq_true, d_t, d_f, ob_eta, ob_eta1, m_ltn, m_nlt, m_nle, m_len, m_ne, m_ne', m_mlt, m_mle, m_meq, m_neg, n0, n1, n2, n3, n4, n5, n6, w_lo S q]⟩
    · exact ⟨-nI 1, by simp (disch := omega) only [li, lo, c_le, c_lt, c_eq, c_cl, c_sub, nI_add, pk_mul, zin_nI, zg_true, ob_some, zm_none, zm_some, if_pos, if_neg, if_true, if_false, Bool.false_eq_true, d_t, d_f, ob_eta, ob_eta1, m_ltn, m_nlt, m_nle, m_len, m_ne, m_ne', m_mlt, m_mle, m_meq, m_neg, n0, n1, n2, n3, n4, n5, n6, q1, q3], by simp (disch := omega) only [li, lo, c_le, c_lt, c_eq, c_cl, c_sub, nI_add, pk_mul, zin_nI, zg_true, ob_some, zm_none, zm_some, if_pos, if_neg, if_true, if_false, Bool.false_eq_true, d_t, d_f, ob_eta, ob_eta1, m_ltn, m_nlt, m_nle, m_len, m_ne, m_ne', m_mlt, m_mle, m_meq, m_neg, n0, n1, n2, n3, n4, n5, n6, w_hi S q2]⟩
    · exact absurd (n j (by omega)) (by simp)
  · have e1 : j = 0 ∨ j = 1 ∨ j = 2 ∨ j = 3 ∨ j = 4 ∨ j = 5 ∨ j = 6 ∨ (7 ≤ j ∧ j ≤ 10) ∨ (11 ≤ j ∧ j ≤ 17) := by omega
    rcases e1 with rfl | rfl | rfl | rfl | rfl | rfl | rfl | e | e
    · exact ⟨nI (dn d), by simp (disch := omega) only [li, lo, c_le, c_lt, c_eq, c_cl, c_sub, nI_add, pk_mul, zin_nI, zg_true, ob_some, zm_none, zm_some, if_pos, if_neg, if_true, if_false, Bool.false_eq_true, d_t, d_f, ob_eta, ob_eta1, m_ltn, m_nlt, m_nle, m_len, m_ne, m_ne', m_mlt, m_mle, m_meq, m_neg, h.n1], by simp (disch := omega) only [li, lo, c_le, c_lt, c_eq, c_cl, c_sub, nI_add, pk_mul, zin_nI, zg_true, ob_some, zm_none, zm_some, if_pos, if_neg, if_true, if_false, Bool.false_eq_true, d_t, d_f, ob_eta, ob_eta1, m_ltn, m_nlt, m_nle, m_len, m_ne, m_ne', m_mlt, m_mle, m_meq, m_neg, h.r.1]⟩
    · exact ⟨sDead d, by simp (disch := omega) only [li, lo, c_le, c_lt, c_eq, c_cl, c_sub, nI_add, pk_mul, zin_nI, zg_true, ob_some, zm_none, zm_some, if_pos, if_neg, if_true, if_false, Bool.false_eq_true, d_t, d_f, ob_eta, ob_eta1, m_ltn, m_nlt, m_nle, m_len, m_ne, m_ne', m_mlt, m_mle, m_meq, m_neg, l_deadTotal h.l hn (by decide)], by simp (disch := omega) only [li, lo, c_le, c_lt, c_eq, c_cl, c_sub, nI_add, pk_mul, zin_nI, zg_true, ob_some, zm_none, zm_some, if_pos, if_neg, if_true, if_false, Bool.false_eq_true, d_t, d_f, ob_eta, ob_eta1, m_ltn, m_nlt, m_nle, m_len, m_ne, m_ne', m_mlt, m_mle, m_meq, m_neg, r_allDead h.r hn]⟩
    · exact ⟨dle d, by simp (disch := omega) only [li, lo, c_le, c_lt, c_eq, c_cl, c_sub, nI_add, pk_mul, zin_nI, zg_true, ob_some, zm_none, zm_some, if_pos, if_neg, if_true, if_false, Bool.false_eq_true, d_t, d_f, ob_eta, ob_eta1, m_ltn, m_nlt, m_nle, m_len, m_ne, m_ne', m_mlt, m_mle, m_meq, m_neg, h.le1], by simp (disch := omega) only [li, lo, c_le, c_lt, c_eq, c_cl, c_sub, nI_add, pk_mul, zin_nI, zg_true, ob_some, zm_none, zm_some, if_pos, if_neg, if_true, if_false, Bool.false_eq_true, d_t, d_f, ob_eta, ob_eta1, m_ltn, m_nlt, m_nle, m_len, m_ne, m_ne', m_mlt, m_mle, m_meq, m_neg, h.le2]⟩
    · exact ⟨sStrA d, by simp (disch := omega) only [li, lo, c_le, c_lt, c_eq, c_cl, c_sub, nI_add, pk_mul, zin_nI, zg_true, ob_some, zm_none, zm_some, if_pos, if_neg, if_true, if_false, Bool.false_eq_true, d_t, d_f, ob_eta, ob_eta1, m_ltn, m_nlt, m_nle, m_len, m_ne, m_ne', m_mlt, m_mle, m_meq, m_neg, l_strengthTotal h.l hn (by decide)], by simp (disch := omega) only [li, lo, c_le, c_lt, c_eq, c_cl, c_sub, nI_add, pk_mul, zin_nI, zg_true, ob_some, zm_none, zm_some, if_pos, if_neg, if_true, if_false, Bool.false_eq_true, d_t, d_f, ob_eta, ob_eta1, m_ltn, m_nlt, m_nle, m_len, m_ne, m_ne', m_mlt, m_mle, m_meq, m_neg, r_allStrength h.r hn]⟩
    · exact ⟨sRubA d, by simp (disch := omega) only [li, lo, c_le, c_lt, c_eq, c_cl, c_sub, nI_add, pk_mul, zin_nI, zg_true, ob_some, zm_none, zm_some, if_pos, if_neg, if_true, if_false, Bool.false_eq_true, d_t, d_f, ob_eta, ob_eta1, m_ltn, m_nlt, m_nle, m_len, m_ne, m_ne', m_mlt, m_mle, m_meq, m_neg, l_smearTotal h.l hn (by decide)], by simp (disch := omega) only [li, lo, c_le, c_lt, c_eq, c_cl, c_sub, nI_add, pk_mul, zin_nI, zg_true, ob_some, zm_none, zm_some, if_pos, if_neg, if_true, if_false, Bool.false_eq_true, d_t, d_f, ob_eta, ob_eta1, m_ltn, m_nlt, m_nle, m_len, m_ne, m_ne', m_mlt, m_mle, m_meq, m_neg, r_allSmears h.r hn]⟩
    · exact ⟨dse d, by simp (disch := omega) only [li, lo, c_le, c_lt, c_eq, c_cl, c_sub, nI_add, pk_mul, zin_nI, zg_true, ob_some, zm_none, zm_some, if_pos, if_neg, if_true, if_false, Bool.false_eq_true, d_t, d_f, ob_eta, ob_eta1, m_ltn, m_nlt, m_nle, m_len, m_ne, m_ne', m_mlt, m_mle, m_meq, m_neg, h.se1], by simp (disch := omega) only [li, lo, c_le, c_lt, c_eq, c_cl, c_sub, nI_add, pk_mul, zin_nI, zg_true, ob_some, zm_none, zm_some, if_pos, if_neg, if_true, if_false, Bool.false_eq_true, d_t, d_f, ob_eta, ob_eta1, m_ltn, m_nlt, m_nle, m_len, m_ne, m_ne', m_mlt, m_mle, m_meq, m_neg, h.r.2.2.1]⟩
    · exact ⟨nI t, by simp (disch := omega) only [li, lo, c_le, c_lt, c_eq, c_cl, c_sub, nI_add, pk_mul, zin_nI, zg_true, ob_some, zm_none, zm_some, if_pos, if_neg, if_true, if_false, Bool.false_eq_true, d_t, d_f, ob_eta, ob_eta1, m_ltn, m_nlt, m_nle, m_len, m_ne, m_ne', m_mlt, m_mle, m_meq, m_neg, t1], by simp (disch := omega) only [li, lo, c_le, c_lt, c_eq, c_cl, c_sub, nI_add, pk_mul, zin_nI, zg_true, ob_some, zm_none, zm_some, if_pos, if_neg, if_true, if_false, Bool.false_eq_true, d_t, d_f, ob_eta, ob_eta1, m_ltn, m_nlt, m_nle, m_len, m_ne, m_ne', m_mlt, m_mle, m_meq, m_neg, t2]⟩
    · have w : M_X12_within S (nI j) (nI 11) (nI 17) = some (nI 0) := w_lo S (by rw [c_lt (by omega) (by decide)]; omega)
      exact ⟨-nI 1, by simp (disch := omega) only [li, lo, c_le, c_lt, c_eq, c_cl, c_sub, nI_add, pk_mul, zin_nI, zg_true, ob_some, zm_none, zm_some, if_pos, if_neg, if_true, if_false, Bool.false_eq_true, d_t, d_f, ob_eta, ob_eta1, m_ltn, m_nlt, m_nle, m_len, m_ne, m_ne', m_mlt, m_mle, m_meq, m_neg], by simp (disch := omega) only [li, lo, c_le, c_lt, c_eq, c_cl, c_sub, nI_add, pk_mul, zin_nI, zg_true, ob_some, zm_none, zm_some, if_pos, if_neg, if_true, if_false, Bool.false_eq_true, d_t, d_f, ob_eta, ob_eta1, m_ltn, m_nlt, m_nle, m_len, m_ne, m_ne', m_mlt, m_mle, m_meq, m_neg, w]⟩
    · have w := w_n (a := 11) (b := 17) S e.1 e.2 (by decide)
      exact ⟨zar S 13 (j - 10), by simp (disch := omega) only [li, lo, c_le, c_lt, c_eq, c_cl, c_sub, nI_add, pk_mul, zin_nI, zg_true, ob_some, zm_none, zm_some, if_pos, if_neg, if_true, if_false, Bool.false_eq_true, d_t, d_f, ob_eta, ob_eta1, m_ltn, m_nlt, m_nle, m_len, m_ne, m_ne', m_mlt, m_mle, m_meq, m_neg, h.rf (j - 10) (by omega)], by simp (disch := omega) only [li, lo, c_le, c_lt, c_eq, c_cl, c_sub, nI_add, pk_mul, zin_nI, zg_true, ob_some, zm_none, zm_some, if_pos, if_neg, if_true, if_false, Bool.false_eq_true, d_t, d_f, ob_eta, ob_eta1, m_ltn, m_nlt, m_nle, m_len, m_ne, m_ne', m_mlt, m_mle, m_meq, m_neg, w]⟩
/-! the deeds a copy has, as a number -/
theorem or_new : ∀ i, i < 8 → ∀ k, k < 2 ^ i → nI k ||| ((1 : Int32) <<< (nI i &&& 31)) = nI (k + 2 ^ i) := by decide +kernel
theorem sHas_n (d : zD) (p : Nat) (le : Int32) (c : Nat) : ∃ k, k < 256 ∧ sHas d p le c = nI k ∧ ∀ x, x < 8 → k / 2 ^ x % 2 = if dv d p (8 * c + x) < le then 0 else 1 := by
  have key := sFo_invI (fun (acc : Int32) x => if dv d p (8 * c + x) < le then acc else acc ||| ((1 : Int32) <<< (nI x &&& 31))) (fun i a => ∃ k, k < 2 ^ i ∧ a = nI k ∧ ∀ x, x < i → k / 2 ^ x % 2 = if dv d p (8 * c + x) < le then 0 else 1) 8 0 0 (fun a j h1 h2 hI => ?_) ⟨0, by decide, rfl, fun x hx => absurd hx (Nat.not_lt_zero _)⟩
  · exact key
  · obtain ⟨k, hk, rfl, hb⟩ := hI
    by_cases e : dv d p (8 * c + j) < le
    · rw [if_pos e]
      refine ⟨k, by rw [Nat.pow_succ]; omega, rfl, fun x hx => ?_⟩
      by_cases ex : x = j
      · subst ex
        rw [if_pos e, Nat.div_eq_of_lt hk]
      · exact hb x (by omega)
    · rw [if_neg e, or_new j (by omega) k hk]
      refine ⟨k + 2 ^ j, by rw [Nat.pow_succ]; omega, rfl, fun x hx => ?_⟩
      by_cases ex : x = j
      · subst ex
        rw [if_neg e, Nat.add_div_right _ (Nat.two_pow_pos x), Nat.div_eq_of_lt hk]
      · rw [← hb x (by omega)]
        obtain ⟨r, hr⟩ : ∃ r, j = x + 1 + r := ⟨j - x - 1, by omega⟩
        rw [hr, Nat.pow_add, Nat.pow_succ, Nat.mul_assoc, Nat.add_mul_div_left _ _ (Nat.two_pow_pos x)]
        rw [show k / 2 ^ x + 2 * 2 ^ r = k / 2 ^ x + 2 ^ r * 2 by omega, Nat.add_mul_mod_self_right]
theorem sHas_nm (d : zD) (p : Nat) (le : Int32) (c : Nat) : (sHas d p le c = -nI 1) = False := by
  obtain ⟨k, hk, e, -⟩ := sHas_n d p le c
  rw [e]
  exact m_ne (by decide) (by decide) (by omega)
/-- a copy that is told as one number, or none such -/
theorem cTold (h : Inv pk S d) (x : Int32) : (M_X11_hasOfTold pk S x = some (-nI 1) ∧ ∀ T, zsc T 0 3 = zsc S 0 3 → M_X12_isOne T x = some (nI 0)) ∨ ∃ p c, p < dn d ∧ c < 6 ∧ p < 6 ∧ x = nI (10 * p + c) ∧ M_X11_hasOfTold pk S x = some (sHas d p (dle d) c) ∧ (∀ T, zsc T 0 3 = zsc S 0 3 → M_X12_isOne T x = some (nI 1)) ∧ x / nI 10 = nI p ∧ x - x / nI 10 * nI 10 = nI c := by
  unfold M_X11_hasOfTold M_X12_isOne
  by_cases hx : x < nI 0
  · have hx2 : ¬ nI 0 ≤ x := Int32.not_le.mpr hx
    exact Or.inl ⟨by simp (disch := omega) only [li, lo, c_le, c_lt, c_eq, c_cl, c_sub, nI_add, pk_mul, zin_nI, zg_true, ob_some, zm_none, zm_some, if_pos, if_neg, if_true, if_false, Bool.false_eq_true, d_t, d_f, ob_eta, ob_eta1, m_ltn, m_nlt, m_nle, m_len, m_ne, m_ne', m_mlt, m_mle, m_meq, m_neg, hx2], fun T hT => by simp (disch := omega) only [li, lo, c_le, c_lt, c_eq, c_cl, c_sub, nI_add, pk_mul, zin_nI, zg_true, ob_some, zm_none, zm_some, if_pos, if_neg, if_true, if_false, Bool.false_eq_true, d_t, d_f, ob_eta, ob_eta1, m_ltn, m_nlt, m_nle, m_len, m_ne, m_ne', m_mlt, m_mle, m_meq, m_neg, hx]⟩
  · obtain ⟨k, hk, rfl⟩ := nI_of hx
    have hx2 : nI 0 ≤ nI k := nI_le (Nat.zero_le _) hk
    have e1 : nI k / nI 10 = nI (k / 10) := pk_div hk (by decide) (by decide)
    have e2 : nI k - nI (k / 10) * nI 10 = nI (k % 10) := by rw [← e1]; exact pk_rem hk (by decide) (by decide)
    rcases cPer h (nI (k / 10)) with ⟨a1, b1, -⟩ | ⟨p, hp, e, a1, b1, h6, ok⟩
    · refine Or.inl ⟨?_, fun T hT => ?_⟩
      · simp only [li]
        rw [if_pos hx2, e1, a1]; rfl
      · simp only [li]
        rw [if_neg hx, e1, b1 T hT]; rfl
    · have e : k / 10 = p := (nI_eq (by omega) (by omega)).mp e
      subst e
      rcases cCopy (nI (k % 10)) with ⟨a2, b2, -⟩ | ⟨c, hc, e3⟩
      · refine Or.inl ⟨?_, fun T hT => ?_⟩
        · simp only [li]
          rw [if_pos hx2, e1, a1, e2]
          simp (disch := omega) only [li, lo, c_le, c_lt, c_eq, c_cl, c_sub, nI_add, pk_mul, zin_nI, zg_true, ob_some, zm_none, zm_some, if_pos, if_neg, if_true, if_false, Bool.false_eq_true, d_t, d_f, ob_eta, ob_eta1, m_ltn, m_nlt, m_nle, m_len, m_ne, m_ne', m_mlt, m_mle, m_meq, m_neg, ok, a2]
        · simp only [li]
          rw [if_neg hx, e1, b1 T hT, e2]
          simp (disch := omega) only [li, lo, c_le, c_lt, c_eq, c_cl, c_sub, nI_add, pk_mul, zin_nI, zg_true, ob_some, zm_none, zm_some, if_pos, if_neg, if_true, if_false, Bool.false_eq_true, d_t, d_f, ob_eta, ob_eta1, m_ltn, m_nlt, m_nle, m_len, m_ne, m_ne', m_mlt, m_mle, m_meq, m_neg, b2]
      · have e3 : k % 10 = c := (nI_eq (by omega) (by omega)).mp e3
        subst e3
        refine Or.inr ⟨k / 10, k % 10, hp, hc, h6, by congr 1; omega, ?_, fun T hT => ?_, e1, by rw [e1]; exact e2⟩
        · simp only [li]
          rw [if_pos hx2, e1, a1, e2]
          simp (disch := omega) only [li, lo, c_le, c_lt, c_eq, c_cl, c_sub, nI_add, pk_mul, zin_nI, zg_true, ob_some, zm_none, zm_some, if_pos, if_neg, if_true, if_false, Bool.false_eq_true, d_t, d_f, ob_eta, ob_eta1, m_ltn, m_nlt, m_nle, m_len, m_ne, m_ne', m_mlt, m_mle, m_meq, m_neg, ok, t_isCopy pk S hc, l_hasBits (h.l.pe hp) hc, h.le1]
        · simp only [li]
          rw [if_neg hx, e1, b1 T hT, e2]
          simp (disch := omega) only [li, lo, c_le, c_lt, c_eq, c_cl, c_sub, nI_add, pk_mul, zin_nI, zg_true, ob_some, zm_none, zm_some, if_pos, if_neg, if_true, if_false, Bool.false_eq_true, d_t, d_f, ob_eta, ob_eta1, m_ltn, m_nlt, m_nle, m_len, m_ne, m_ne', m_mlt, m_mle, m_meq, m_neg, r_isCopyY hc]
theorem s_unlike (h : Inv pk S d) (x1 x2 : Int32) : zStp pk (M_X11_unlike pk S x1 x2) (fun T => M_X12_unlike T x1 x2) := by
  unfold M_X11_unlike M_X12_unlike M_X11_unlike_B24 M_X12_unlike_B39
  rcases cTold h x1 with ⟨a1, b1⟩ | ⟨p, c, hp, hc, h6, e, a1, b1, u1, v1⟩
  · rcases cTold h x2 with ⟨a2, b2⟩ | ⟨p2, c2, hp2, hc2, h62, e2, a2, b2, u2, v2⟩
    · exact st_no h 6 (by decide) (by decide) (by simp (disch := omega) only [li, lo, c_le, c_lt, c_eq, c_cl, c_sub, nI_add, pk_mul, zin_nI, zg_true, ob_some, zm_none, zm_some, if_pos, if_neg, if_true, if_false, Bool.false_eq_true, d_t, d_f, ob_eta, ob_eta1, m_ltn, m_nlt, m_nle, m_len, m_ne, m_ne', m_mlt, m_mle, m_meq, m_neg, a1, a2]) (by simp (disch := omega) only [li, lo, c_le, c_lt, c_eq, c_cl, c_sub, nI_add, pk_mul, zin_nI, zg_true, ob_some, zm_none, zm_some, if_pos, if_neg, if_true, if_false, Bool.false_eq_true, d_t, d_f, ob_eta, ob_eta1, m_ltn, m_nlt, m_nle, m_len, m_ne, m_ne', m_mlt, m_mle, m_meq, m_neg, b1 (zR1 S 6) rfl])
    · exact st_no h 6 (by decide) (by decide) (by simp (disch := omega) only [li, lo, c_le, c_lt, c_eq, c_cl, c_sub, nI_add, pk_mul, zin_nI, zg_true, ob_some, zm_none, zm_some, if_pos, if_neg, if_true, if_false, Bool.false_eq_true, d_t, d_f, ob_eta, ob_eta1, m_ltn, m_nlt, m_nle, m_len, m_ne, m_ne', m_mlt, m_mle, m_meq, m_neg, a1, a2]) (by simp (disch := omega) only [li, lo, c_le, c_lt, c_eq, c_cl, c_sub, nI_add, pk_mul, zin_nI, zg_true, ob_some, zm_none, zm_some, if_pos, if_neg, if_true, if_false, Bool.false_eq_true, d_t, d_f, ob_eta, ob_eta1, m_ltn, m_nlt, m_nle, m_len, m_ne, m_ne', m_mlt, m_mle, m_meq, m_neg, b1 (zR1 S 6) rfl])
  · rcases cTold h x2 with ⟨a2, b2⟩ | ⟨p2, c2, hp2, hc2, h62, e2, a2, b2, u2, v2⟩
    · exact st_no h 6 (by decide) (by decide) (by simp (disch := omega) only [li, lo, c_le, c_lt, c_eq, c_cl, c_sub, nI_add, pk_mul, zin_nI, zg_true, ob_some, zm_none, zm_some, if_pos, if_neg, if_true, if_false, Bool.false_eq_true, d_t, d_f, ob_eta, ob_eta1, m_ltn, m_nlt, m_nle, m_len, m_ne, m_ne', m_mlt, m_mle, m_meq, m_neg, a1, a2, sHas_nm]) (by simp (disch := omega) only [li, lo, c_le, c_lt, c_eq, c_cl, c_sub, nI_add, pk_mul, zin_nI, zg_true, ob_some, zm_none, zm_some, if_pos, if_neg, if_true, if_false, Bool.false_eq_true, d_t, d_f, ob_eta, ob_eta1, m_ltn, m_nlt, m_nle, m_len, m_ne, m_ne', m_mlt, m_mle, m_meq, m_neg, b1 (zR1 S 6) rfl, b2 (zR1 S 6) rfl])
    · refine st_eq h (bc (sHas d p (dle d) c ^^^ sHas d p2 (dle d) c2)) (by simp (disch := omega) only [li, lo, c_le, c_lt, c_eq, c_cl, c_sub, nI_add, pk_mul, zin_nI, zg_true, ob_some, zm_none, zm_some, if_pos, if_neg, if_true, if_false, Bool.false_eq_true, d_t, d_f, ob_eta, ob_eta1, m_ltn, m_nlt, m_nle, m_len, m_ne, m_ne', m_mlt, m_mle, m_meq, m_neg, a1, a2, sHas_nm, t_bc]) ?_
      simp only [li]
      rw [b1 S rfl, b2 S rfl, v1, v2, u1, u2]
      simp (disch := omega) only [li, lo, c_le, c_lt, c_eq, c_cl, c_sub, nI_add, pk_mul, zin_nI, zg_true, ob_some, zm_none, zm_some, if_pos, if_neg, if_true, if_false, Bool.false_eq_true, d_t, d_f, ob_eta, ob_eta1, m_ltn, m_nlt, m_nle, m_len, m_ne, m_ne', m_mlt, m_mle, m_meq, m_neg, M_X12_unlikes, r_hasAll (h.r.pe hp) h6 hc, r_hasAll (h.r.pe hp2) h62 hc2, t_bc, h.le2]
/-! the odd one -/
def sDif (d : zD) (p : Nat) (le : Int32) (c : Nat) : Int32 := sFo (fun acc e => acc + bc (sHas d p le c ^^^ sHas d p le e)) (dou d p) (6 - dou d p) 0
def sOddS (d : zD) (p : Nat) (le : Int32) (a : Int32 × Int32) (c : Nat) : Int32 × Int32 := if sDif d p le c ≤ a.2 then a else (nI c, sDif d p le c)
theorem sDif_n (d : zD) (p : Nat) (le : Int32) (c : Nat) (ho : dou d p ≤ 6) : ∃ k, k < 1000 ∧ sDif d p le c = nI k := by
  have key := sFo_invI (fun (acc : Int32) e => acc + bc (sHas d p le c ^^^ sHas d p le e)) (fun i a => ∃ k, k ≤ 64 * i ∧ a = nI k) (6 - dou d p) (dou d p) 0 (fun a j h1 h2 hI => ?_) ⟨0, Nat.zero_le _, rfl⟩
  · obtain ⟨k, hk, e⟩ := key
    exact ⟨k, by omega, e⟩
  · obtain ⟨k, hk, rfl⟩ := hI
    obtain ⟨b, hb, e⟩ := bc_n (sHas d p le c ^^^ sHas d p le j)
    exact ⟨k + b, by omega, by rw [e, nI_add]⟩
theorem l_odd (h : Lp pk S (6 * 0 + p) d p) (k : Kp d p) (hle : zsc S 60 4 = dle d) : M_X11_oddOf pk S (6 * 0 + p) = some (sFo (sOddS d p (dle d)) (dou d p) (6 - dou d p) (nI (dou d p), -nI 1)).1 := by
  have ho := k.o
  unfold M_X11_oddOf
  rw [h.ou]
  refine lp (fun n (acc : Int32 × Int32) i => M_X11_oddOf_B13 pk S (6 * 0 + p) n acc.1 acc.2 i) (sOddS d p (dle d)) (fun a => a.1) 6 (fun n acc => ?_) (fun n acc i hi => ?_) (6 - dou d p) (dou d p) zF (nI (dou d p), -nI 1) (by omega) (by show _ < 4096; omega)
  · simp (disch := omega) only [li, lo, c_le, c_lt, c_eq, c_cl, c_sub, nI_add, pk_mul, zin_nI, zg_true, ob_some, zm_none, zm_some, if_pos, if_neg, if_true, if_false, Bool.false_eq_true, d_t, d_f, ob_eta, ob_eta1, m_ltn, m_nlt, m_nle, m_len, m_ne, m_ne', m_mlt, m_mle, m_meq, m_neg, M_X11_oddOf_B13]
  · have inner : ∀ K : Int32 → Int32 → Int32 → Option Int32, M_X11_oddOf_B44 pk S (6 * 0 + p) K zF acc.1 acc.2 (nI i) (sHas d p (dle d) i) (nI 0) (nI (dou d p)) = if sDif d p (dle d) i ≤ acc.2 then K acc.1 acc.2 (nI (i + 1)) else K (nI i) (sDif d p (dle d) i) (nI (i + 1)) := by
      intro K
      unfold sDif
      refine lpK (fun n (a : Int32) z => M_X11_oddOf_B44 pk S (6 * 0 + p) K n acc.1 acc.2 (nI i) (sHas d p (dle d) i) a z) (fun a e => a + bc (sHas d p (dle d) i ^^^ sHas d p (dle d) e)) (fun a => if a ≤ acc.2 then K acc.1 acc.2 (nI (i + 1)) else K (nI i) a (nI (i + 1))) 6 (fun n a => ?_) (fun n a z hz => ?_) (6 - dou d p) (dou d p) zF (nI 0) (by omega) (by show _ < 4096; omega)
      · simp (disch := omega) only [li, lo, c_le, c_lt, c_eq, c_cl, c_sub, nI_add, pk_mul, zin_nI, zg_true, ob_some, zm_none, zm_some, if_pos, if_neg, if_true, if_false, Bool.false_eq_true, d_t, d_f, ob_eta, ob_eta1, m_ltn, m_nlt, m_nle, m_len, m_ne, m_ne', m_mlt, m_mle, m_meq, m_neg, M_X11_oddOf_B44]
      · simp (disch := omega) only [li, lo, c_le, c_lt, c_eq, c_cl, c_sub, nI_add, pk_mul, zin_nI, zg_true, ob_some, zm_none, zm_some, if_pos, if_neg, if_true, if_false, Bool.false_eq_true, d_t, d_f, ob_eta, ob_eta1, m_ltn, m_nlt, m_nle, m_len, m_ne, m_ne', m_mlt, m_mle, m_meq, m_neg, M_X11_oddOf_B44, l_hasBits h hz, hle, t_bc]
    show M_X11_oddOf_B13 pk S (6 * 0 + p) (n + 1) acc.1 acc.2 (nI i) = M_X11_oddOf_B13 pk S (6 * 0 + p) n (sOddS d p (dle d) acc i).1 (sOddS d p (dle d) acc i).2 (nI (i + 1))
    unfold sOddS
    by_cases e : sDif d p (dle d) i ≤ acc.2
    · simp (disch := omega) only [li, lo, c_le, c_lt, c_eq, c_cl, c_sub, nI_add, pk_mul, zin_nI, zg_true, ob_some, zm_none, zm_some, if_pos, if_neg, if_true, if_false, Bool.false_eq_true, d_t, d_f, ob_eta, ob_eta1, m_ltn, m_nlt, m_nle, m_len, m_ne, m_ne', m_mlt, m_mle, m_meq, m_neg, M_X11_oddOf_B13, l_hasBits h hi, hle, h.ou, inner, e]
    · simp (disch := omega) only [li, lo, c_le, c_lt, c_eq, c_cl, c_sub, nI_add, pk_mul, zin_nI, zg_true, ob_some, zm_none, zm_some, if_pos, if_neg, if_true, if_false, Bool.false_eq_true, d_t, d_f, ob_eta, ob_eta1, m_ltn, m_nlt, m_nle, m_len, m_ne, m_ne', m_mlt, m_mle, m_meq, m_neg, M_X11_oddOf_B13, l_hasBits h hi, hle, h.ou, inner, e]
theorem r_odd (h : Rp T d p) (k : Kp d p) (hp : p < 6) (hle : zsc T 0 11 = dle d) : M_X12_odd_B44 zF T (nI p) (-nI 1) (-nI 1) (nI (dou d p)) = some ((sFo (sOddS d p (dle d)) (dou d p) (6 - dou d p) (-nI 1, -nI 1)).1, T) := by
  have ho := k.o
  refine lp (fun n (acc : Int32 × Int32) i => M_X12_odd_B44 n T (nI p) acc.1 acc.2 i) (sOddS d p (dle d)) (fun a => (a.1, T)) 6 (fun n acc => ?_) (fun n acc i hi => ?_) (6 - dou d p) (dou d p) zF (-nI 1, -nI 1) (by omega) (by show _ < 4096; omega)
  · simp (disch := omega) only [li, lo, c_le, c_lt, c_eq, c_cl, c_sub, nI_add, pk_mul, zin_nI, zg_true, ob_some, zm_none, zm_some, if_pos, if_neg, if_true, if_false, Bool.false_eq_true, d_t, d_f, ob_eta, ob_eta1, m_ltn, m_nlt, m_nle, m_len, m_ne, m_ne', m_mlt, m_mle, m_meq, m_neg, M_X12_odd_B44]
  · have inner : ∀ K : zSt → Int32 → Int32 → Int32 → Int32 → Option (Int32 × zSt), M_X12_odd_B62 K zF T (nI p) acc.1 acc.2 (nI i) (nI 0) (nI (dou d p)) = if sDif d p (dle d) i ≤ acc.2 then K T (nI p) acc.1 acc.2 (nI (i + 1)) else K T (nI p) (nI i) (sDif d p (dle d) i) (nI (i + 1)) := by
      intro K
      unfold sDif
      refine lpK (fun n (a : Int32) z => M_X12_odd_B62 K n T (nI p) acc.1 acc.2 (nI i) a z) (fun a e => a + bc (sHas d p (dle d) i ^^^ sHas d p (dle d) e)) (fun a => if a ≤ acc.2 then K T (nI p) acc.1 acc.2 (nI (i + 1)) else K T (nI p) (nI i) a (nI (i + 1))) 6 (fun n a => ?_) (fun n a z hz => ?_) (6 - dou d p) (dou d p) zF (nI 0) (by omega) (by show _ < 4096; omega)
      · rw [M_X12_odd_B62]
        by_cases e : a ≤ acc.2
        · have e2 : ¬ acc.2 < a := Int32.not_lt.mpr e
          simp (disch := omega) only [li, lo, c_le, c_lt, c_eq, c_cl, c_sub, nI_add, pk_mul, zin_nI, zg_true, ob_some, zm_none, zm_some, if_pos, if_neg, if_true, if_false, Bool.false_eq_true, d_t, d_f, ob_eta, ob_eta1, m_ltn, m_nlt, m_nle, m_len, m_ne, m_ne', m_mlt, m_mle, m_meq, m_neg, e, e2]
        · have e2 : acc.2 < a := Int32.not_le.mp e
          simp (disch := omega) only [li, lo, c_le, c_lt, c_eq, c_cl, c_sub, nI_add, pk_mul, zin_nI, zg_true, ob_some, zm_none, zm_some, if_pos, if_neg, if_true, if_false, Bool.false_eq_true, d_t, d_f, ob_eta, ob_eta1, m_ltn, m_nlt, m_nle, m_len, m_ne, m_ne', m_mlt, m_mle, m_meq, m_neg, e, e2]
      · simp (disch := omega) only [li, lo, c_le, c_lt, c_eq, c_cl, c_sub, nI_add, pk_mul, zin_nI, zg_true, ob_some, zm_none, zm_some, if_pos, if_neg, if_true, if_false, Bool.false_eq_true, d_t, d_f, ob_eta, ob_eta1, m_ltn, m_nlt, m_nle, m_len, m_ne, m_ne', m_mlt, m_mle, m_meq, m_neg, M_X12_odd_B62, M_X12_unlikes, r_hasAll h hp hz, r_hasAll h hp hi, hle, t_bc]
    show M_X12_odd_B44 (n + 1) T (nI p) acc.1 acc.2 (nI i) = M_X12_odd_B44 n T (nI p) (sOddS d p (dle d) acc i).1 (sOddS d p (dle d) acc i).2 (nI (i + 1))
    unfold sOddS
    by_cases e : sDif d p (dle d) i ≤ acc.2
    · simp (disch := omega) only [li, lo, c_le, c_lt, c_eq, c_cl, c_sub, nI_add, pk_mul, zin_nI, zg_true, ob_some, zm_none, zm_some, if_pos, if_neg, if_true, if_false, Bool.false_eq_true, d_t, d_f, ob_eta, ob_eta1, m_ltn, m_nlt, m_nle, m_len, m_ne, m_ne', m_mlt, m_mle, m_meq, m_neg, M_X12_odd_B44, h.ou, inner, e]
    · simp (disch := omega) only [li, lo, c_le, c_lt, c_eq, c_cl, c_sub, nI_add, pk_mul, zin_nI, zg_true, ob_some, zm_none, zm_some, if_pos, if_neg, if_true, if_false, Bool.false_eq_true, d_t, d_f, ob_eta, ob_eta1, m_ltn, m_nlt, m_nle, m_len, m_ne, m_ne', m_mlt, m_mle, m_meq, m_neg, M_X12_odd_B44, h.ou, inner, e]
theorem s_odd (h : Inv pk S d) (x1 : Int32) : zStp pk (M_X11_odd pk S x1) (fun T => M_X12_odd T x1) := by
  unfold M_X11_odd M_X12_odd
  rcases cPer h x1 with ⟨a1, b1, -⟩ | ⟨p, hp, rfl, a1, b1, h6, ok⟩
  · exact st_no h 1 (by decide) (by decide) (by simp (disch := omega) only [li, lo, c_le, c_lt, c_eq, c_cl, c_sub, nI_add, pk_mul, zin_nI, zg_true, ob_some, zm_none, zm_some, if_pos, if_neg, if_true, if_false, Bool.false_eq_true, d_t, d_f, ob_eta, ob_eta1, m_ltn, m_nlt, m_nle, m_len, m_ne, m_ne', m_mlt, m_mle, m_meq, m_neg, a1]) (by simp (disch := omega) only [li, lo, c_le, c_lt, c_eq, c_cl, c_sub, nI_add, pk_mul, zin_nI, zg_true, ob_some, zm_none, zm_some, if_pos, if_neg, if_true, if_false, Bool.false_eq_true, d_t, d_f, ob_eta, ob_eta1, m_ltn, m_nlt, m_nle, m_len, m_ne, m_ne', m_mlt, m_mle, m_meq, m_neg, b1 (zR1 S 1) rfl])
  · have hl := h.l.pe hp
    have hr := h.r.pe hp
    have kp := h.k.pe hp
    have ho := kp.o
    have hr6 : zar (zR1 S 6) 7 p = nI (dou d p) := by rw [r1_a (by decide)]; exact hr.ou
    by_cases e : dou d p < 6
    · refine st_eq h (sFo (sOddS d p (dle d)) (dou d p) (6 - dou d p) (nI (dou d p), -nI 1)).1 (by simp (disch := omega) only [li, lo, c_le, c_lt, c_eq, c_cl, c_sub, nI_add, pk_mul, zin_nI, zg_true, ob_some, zm_none, zm_some, if_pos, if_neg, if_true, if_false, Bool.false_eq_true, d_t, d_f, ob_eta, ob_eta1, m_ltn, m_nlt, m_nle, m_len, m_ne, m_ne', m_mlt, m_mle, m_meq, m_neg, a1, ok, l_isGone hl ho, l_odd hl kp h.le1]) ?_
      have eq : sFo (sOddS d p (dle d)) (dou d p) (6 - dou d p) (-nI 1, -nI 1) = sFo (sOddS d p (dle d)) (dou d p) (6 - dou d p) (nI (dou d p), -nI 1) := by
        rw [show 6 - dou d p = (5 - dou d p) + 1 by omega]
        show sFo _ _ _ (sOddS d p (dle d) (-nI 1, -nI 1) (dou d p)) = sFo _ _ _ (sOddS d p (dle d) (nI (dou d p), -nI 1) (dou d p))
        obtain ⟨k, hk, ek⟩ := sDif_n d p (dle d) (dou d p) ho
        have : ¬ sDif d p (dle d) (dou d p) ≤ -nI 1 := by rw [ek, m_nle (by decide) (by decide) (by omega)]; exact id
        unfold sOddS
        rw [if_neg this, if_neg this]
      have r2 := r_odd hr kp h6 h.le2
      rw [eq] at r2
      simp (disch := omega) only [li, lo, c_le, c_lt, c_eq, c_cl, c_sub, nI_add, pk_mul, zin_nI, zg_true, ob_some, zm_none, zm_some, if_pos, if_neg, if_true, if_false, Bool.false_eq_true, d_t, d_f, ob_eta, ob_eta1, m_ltn, m_nlt, m_nle, m_len, m_ne, m_ne', m_mlt, m_mle, m_meq, m_neg, b1 S rfl, hr.ou, r2]
    · exact st_no h 6 (by decide) (by decide) (by simp (disch := omega) only [li, lo, c_le, c_lt, c_eq, c_cl, c_sub, nI_add, pk_mul, zin_nI, zg_true, ob_some, zm_none, zm_some, if_pos, if_neg, if_true, if_false, Bool.false_eq_true, d_t, d_f, ob_eta, ob_eta1, m_ltn, m_nlt, m_nle, m_len, m_ne, m_ne', m_mlt, m_mle, m_meq, m_neg, a1, ok, l_isGone hl ho]) (by simp (disch := omega) only [li, lo, c_le, c_lt, c_eq, c_cl, c_sub, nI_add, pk_mul, zin_nI, zg_true, ob_some, zm_none, zm_some, if_pos, if_neg, if_true, if_false, Bool.false_eq_true, d_t, d_f, ob_eta, ob_eta1, m_ltn, m_nlt, m_nle, m_len, m_ne, m_ne', m_mlt, m_mle, m_meq, m_neg, b1 (zR1 S 6) rfl, hr6])
end TOT
