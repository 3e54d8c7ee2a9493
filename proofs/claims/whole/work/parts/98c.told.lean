/-! JUDGE, BEHIND, DONE -/
section TOL
variable {P : Nat → Prop} {pk pk' : Nat → Nat} {S S' S1 T : zSt} {i s p n m c : Nat} {d d' : zD} {v x1 x2 : Int32}
theorem cLife (h : Inv pk S d) (x1 x2 : Int32) : (∃ c, 1 ≤ c ∧ c ≤ 5 ∧ ((M_X11_shelfAt pk S x1 = some none ∧ ∀ y, M_X11_refusalOfLife pk S none x2 y = some (-nI c)) ∨ ∃ s, M_X11_shelfAt pk S x1 = some (some s) ∧ decide (s < 8) = true ∧ ∀ y, M_X11_refusalOfLife pk S (some s) x2 y = some (-nI c)) ∧ ∀ T, zar T 1 = zar S 1 → zar T 2 = zar S 2 → M_X12_noTold T x1 x2 (nI 0) (nI 40) = some (-nI c)) ∨ ∃ s m n, s < 8 ∧ m ≤ 160 ∧ n ≤ m ∧ x1 = nI s ∧ x2 = nI n ∧ M_X11_shelfAt pk S x1 = some (some s) ∧ decide (s < 8) = true ∧ M_X11_refusalOfLife pk S (some s) x2 (nI 0) = some (-nI 5) ∧ M_X11_refusalOfLife pk S (some s) x2 (nI 1) = some (if n ≤ 40 then nI 0 else -nI 6) ∧ (∀ T, zar T 1 = zar S 1 → zar T 2 = zar S 2 → M_X12_noTold T x1 x2 (nI 0) (nI 40) = some (if n ≤ 40 then nI 0 else -nI 6)) ∧ rowOk pk S s m (wv S s) := by
  rcases cRow h x1 with ⟨a1, b1⟩ | ⟨s, c, hs, hc, rfl, a1, c1, r0, l0, b1⟩ | ⟨s, m, t, hs, hm, ht, rfl, a1, c1, r0, b1, e1, e2, e3, e4, e5⟩
  · refine Or.inl ⟨1, by decide, by decide, Or.inl ⟨a1, fun y => rfl⟩, fun T h1 h2 => ?_⟩
    unfold M_X12_noTold
    simp (disch := omega) only [↓ob_some, ↓zm_some, ↓zm_none, ↓zg_true, ↓zg_in, ↓(ob_of (b1 T h1)), reduceIte, li, lo, k_leT, k_leF, k_ltT, k_ltF, k_eqT, k_eqF, c_cl, c_sub, nI_add, pk_mul, zin_nI, zg_true, ob_some, zm_none, zm_some, if_true, if_false, Bool.false_eq_true, d_t, d_f, ob_eta, ob_eta1, m_ltn, m_nlt, m_nle, m_len, m_ne, m_ne', k_mltT, k_mltF, k_mleT, k_mleF, k_meqT, k_meqF, m_neg]
  · refine Or.inl ⟨c, by omega, by omega, Or.inr ⟨s, a1, c1, fun y => ?_⟩, fun T h1 h2 => ?_⟩
    · unfold M_X11_refusalOfLife M_X11_refusalOfLife_B11
      simp (disch := omega) only [↓ob_some, ↓zm_some, ↓zm_none, ↓zg_true, ↓zg_in, ↓(ob_of r0), ↓(zg_of c1), ↓(ob_of l0), reduceIte, li, lo, k_leT, k_leF, k_ltT, k_ltF, k_eqT, k_eqF, c_cl, c_sub, nI_add, pk_mul, zin_nI, zg_true, ob_some, zm_none, zm_some, if_true, if_false, Bool.false_eq_true, d_t, d_f, ob_eta, ob_eta1, m_ltn, m_nlt, m_nle, m_len, m_ne, m_ne', k_mltT, k_mltF, k_mleT, k_mleF, k_meqT, k_meqF, m_neg]
    · unfold M_X12_noTold
      simp (disch := omega) only [↓ob_some, ↓zm_some, ↓zm_none, ↓zg_true, ↓zg_in, ↓(ob_of (b1 T h1)), reduceIte, li, lo, k_leT, k_leF, k_ltT, k_ltF, k_eqT, k_eqF, c_cl, c_sub, nI_add, pk_mul, zin_nI, zg_true, ob_some, zm_none, zm_some, if_true, if_false, Bool.false_eq_true, d_t, d_f, ob_eta, ob_eta1, m_ltn, m_nlt, m_nle, m_len, m_ne, m_ne', k_mltT, k_mltF, k_mleT, k_mleF, k_meqT, k_meqF, m_neg]
  · by_cases n0 : x2 < nI 0
    · have n1 : ¬ nI 0 ≤ x2 := Int32.not_le.mpr n0
      refine Or.inl ⟨4, by decide, by decide, Or.inr ⟨s, a1, c1, fun y => ?_⟩, fun T h1 h2 => ?_⟩
      · unfold M_X11_refusalOfLife
        simp (disch := omega) only [↓ob_some, ↓zm_some, ↓zm_none, ↓zg_true, ↓zg_in, ↓(ob_of r0), n1, reduceIte, li, lo, k_leT, k_leF, k_ltT, k_ltF, k_eqT, k_eqF, c_cl, c_sub, nI_add, pk_mul, zin_nI, zg_true, ob_some, zm_none, zm_some, if_true, if_false, Bool.false_eq_true, d_t, d_f, ob_eta, ob_eta1, m_ltn, m_nlt, m_nle, m_len, m_ne, m_ne', k_mltT, k_mltF, k_mleT, k_mleF, k_meqT, k_meqF, m_neg]
      · unfold M_X12_noTold
        simp (disch := omega) only [↓ob_some, ↓zm_some, ↓zm_none, ↓zg_true, ↓zg_in, ↓(ob_of (b1 T h1)), n1, reduceIte, li, lo, k_leT, k_leF, k_ltT, k_ltF, k_eqT, k_eqF, c_cl, c_sub, nI_add, pk_mul, zin_nI, zg_true, ob_some, zm_none, zm_some, if_true, if_false, Bool.false_eq_true, d_t, d_f, ob_eta, ob_eta1, m_ltn, m_nlt, m_nle, m_len, m_ne, m_ne', k_mltT, k_mltF, k_mleT, k_mleF, k_meqT, k_meqF, m_neg]
    · obtain ⟨n, hn, rfl⟩ := nI_of n0
      by_cases hnm : n ≤ m
      · refine Or.inr ⟨s, m, n, hs, hm, hnm, rfl, rfl, a1, c1, ?_, ?_, fun T h1 h2 => ?_, row_ok hm ht e1 e3 e5⟩
        · unfold M_X11_refusalOfLife
          simp (disch := omega) only [↓ob_some, ↓zm_some, ↓zm_none, ↓zg_true, ↓zg_in, ↓(ob_of r0), e3, reduceIte, li, lo, k_leT, k_leF, k_ltT, k_ltF, k_eqT, k_eqF, c_cl, c_sub, nI_add, pk_mul, zin_nI, zg_true, ob_some, zm_none, zm_some, if_true, if_false, Bool.false_eq_true, d_t, d_f, ob_eta, ob_eta1, m_ltn, m_nlt, m_nle, m_len, m_ne, m_ne', k_mltT, k_mltF, k_mleT, k_mleF, k_meqT, k_meqF, m_neg]
        · unfold M_X11_refusalOfLife
          by_cases e : n ≤ 40
          · rw [if_pos e]
            simp (disch := omega) only [↓ob_some, ↓zm_some, ↓zm_none, ↓zg_true, ↓zg_in, ↓(ob_of r0), e3, reduceIte, li, lo, k_leT, k_leF, k_ltT, k_ltF, k_eqT, k_eqF, c_cl, c_sub, nI_add, pk_mul, zin_nI, zg_true, ob_some, zm_none, zm_some, if_true, if_false, Bool.false_eq_true, d_t, d_f, ob_eta, ob_eta1, m_ltn, m_nlt, m_nle, m_len, m_ne, m_ne', k_mltT, k_mltF, k_mleT, k_mleF, k_meqT, k_meqF, m_neg]
          · rw [if_neg e]
            simp (disch := omega) only [↓ob_some, ↓zm_some, ↓zm_none, ↓zg_true, ↓zg_in, ↓(ob_of r0), e3, reduceIte, li, lo, k_leT, k_leF, k_ltT, k_ltF, k_eqT, k_eqF, c_cl, c_sub, nI_add, pk_mul, zin_nI, zg_true, ob_some, zm_none, zm_some, if_true, if_false, Bool.false_eq_true, d_t, d_f, ob_eta, ob_eta1, m_ltn, m_nlt, m_nle, m_len, m_ne, m_ne', k_mltT, k_mltF, k_mleT, k_mleF, k_meqT, k_meqF, m_neg]
        · have e4' : zar T 2 s = nI m := by rw [h2]; exact e4
          unfold M_X12_noTold
          by_cases e : n ≤ 40
          · rw [if_pos e]
            simp (disch := omega) only [↓ob_some, ↓zm_some, ↓zm_none, ↓zg_true, ↓zg_in, ↓(ob_of (b1 T h1)), e4', ↓(ob_of (w_n (a := 0) (b := 40) T (Nat.zero_le n) e (by decide))), reduceIte, li, lo, k_leT, k_leF, k_ltT, k_ltF, k_eqT, k_eqF, c_cl, c_sub, nI_add, pk_mul, zin_nI, zg_true, ob_some, zm_none, zm_some, if_true, if_false, Bool.false_eq_true, d_t, d_f, ob_eta, ob_eta1, m_ltn, m_nlt, m_nle, m_len, m_ne, m_ne', k_mltT, k_mltF, k_mleT, k_mleF, k_meqT, k_meqF, m_neg]
          · rw [if_neg e]
            simp (disch := omega) only [↓ob_some, ↓zm_some, ↓zm_none, ↓zg_true, ↓zg_in, ↓(ob_of (b1 T h1)), e4', ↓(ob_of (w_hi (a := nI 0) T (show nI 40 < nI n from nI_lt (by omega) hn))), reduceIte, li, lo, k_leT, k_leF, k_ltT, k_ltF, k_eqT, k_eqF, c_cl, c_sub, nI_add, pk_mul, zin_nI, zg_true, ob_some, zm_none, zm_some, if_true, if_false, Bool.false_eq_true, d_t, d_f, ob_eta, ob_eta1, m_ltn, m_nlt, m_nle, m_len, m_ne, m_ne', k_mltT, k_mltF, k_mleT, k_mleF, k_meqT, k_meqF, m_neg]
      · refine Or.inl ⟨5, by decide, by decide, Or.inr ⟨s, a1, c1, fun y => ?_⟩, fun T h1 h2 => ?_⟩
        · unfold M_X11_refusalOfLife
          simp (disch := omega) only [↓ob_some, ↓zm_some, ↓zm_none, ↓zg_true, ↓zg_in, ↓(ob_of r0), e3, reduceIte, li, lo, k_leT, k_leF, k_ltT, k_ltF, k_eqT, k_eqF, c_cl, c_sub, nI_add, pk_mul, zin_nI, zg_true, ob_some, zm_none, zm_some, if_true, if_false, Bool.false_eq_true, d_t, d_f, ob_eta, ob_eta1, m_ltn, m_nlt, m_nle, m_len, m_ne, m_ne', k_mltT, k_mltF, k_mleT, k_mleF, k_meqT, k_meqF, m_neg]
        · have e4' : zar T 2 s = nI m := by rw [h2]; exact e4
          unfold M_X12_noTold
          simp (disch := omega) only [↓ob_some, ↓zm_some, ↓zm_none, ↓zg_true, ↓zg_in, ↓(ob_of (b1 T h1)), e4', reduceIte, li, lo, k_leT, k_leF, k_ltT, k_ltF, k_eqT, k_eqF, c_cl, c_sub, nI_add, pk_mul, zin_nI, zg_true, ob_some, zm_none, zm_some, if_true, if_false, Bool.false_eq_true, d_t, d_f, ob_eta, ob_eta1, m_ltn, m_nlt, m_nle, m_len, m_ne, m_ne', k_mltT, k_mltF, k_mleT, k_mleF, k_meqT, k_meqF, m_neg]
/-- the reference: what is told is lived, from an image -/
def zHp (k : Nat) : Prop := (4 ≤ k ∧ k ≤ 10) ∨ k = 15 ∨ k = 16
theorem r_told (h : RR T d) (K : KK d) (hs : s < 8) (hn : n ≤ 160) (w : Nat → Nat) (hw : ∀ j, j < 160 → wv T s j = w j) : ∃ T1 T2, M_X12_keep T 15 = some T1 ∧ M_X12_happen T1 (nI s) (nI n) = some (oI (sLf w 0 n d).1, T2) ∧ RR T2 (sLf w 0 n d).2 ∧ SN 15 T2 d ∧ zFr zHp T T2 := by
  obtain ⟨T1, e1, f1, g1⟩ := r_keepS h K.1 (k := 15) (Or.inr rfl)
  have h1 : RR T1 d := h.fr f1 (by rw [f1.sc (by decide)]) (by rw [f1.sc (by decide)]) (by rw [f1.sc (by decide)]) (fun k a b => by omega)
  obtain ⟨T2, e2, r2, f2⟩ := r_happen w hs hn n 0 zF T1 d (by omega) (by show _ < 4096; omega) h1 K (fun j hj => by rw [← hw j hj]; unfold wv; rw [f1.lo (by omega)])
  exact ⟨T1, T2, e1, e2, r2, g1.fr f2 (by omega), (f1.mono (fun k z => by unfold zHp; omega)).trans (f2.mono (fun k z => by unfold zHp; omega))⟩
theorem lf_kk (w : Nat → Nat) : ∀ (r z : Nat) (d : zD), KK d → KK (sLf w z r d).2 ∧ dn (sLf w z r d).2 = dn d := by
  intro r
  induction r with
  | zero => intro z d K; exact ⟨K, rfl⟩
  | succ r ih =>
    intro z d K
    unfold sLf
    cases e : sHap d (w z) with
    | none => exact ⟨K, rfl⟩
    | some d' =>
      have kk := hap_kk K e
      obtain ⟨a, b⟩ := ih (z + 1) d' kk.1
      exact ⟨a, b.trans kk.2.1⟩
theorem r_no' (T : zSt) (h1 : 1 ≤ c) (h2 : c ≤ 7) : M_X12_no T (-nI c) = some (-nI c, zAs T 13 c (zar T 13 c + nI 1)) := by
  unfold M_X12_no
  simp (disch := omega) only [reduceIte, li, lo, k_leT, k_leF, k_ltT, k_ltF, k_eqT, k_eqF, c_cl, c_sub, nI_add, pk_mul, zin_nI, zg_true, ob_some, zm_none, zm_some, if_true, if_false, Bool.false_eq_true, d_t, d_f, ob_eta, ob_eta1, m_ltn, m_nlt, m_nle, m_len, m_ne, m_ne', k_mltT, k_mltF, k_mleT, k_mleF, k_meqT, k_meqF, m_neg]
theorem fr_no (f : zFr P (zR1 S c) T) (h13 : ¬ P 13) : zFr P (zR2 S c) (zAs T 13 c (zar T 13 c + nI 1)) := by
  intro k hk
  obtain ⟨a, b, e⟩ := f k hk
  refine ⟨a, ?_, e⟩
  have q13 : zar T 13 = zar S 13 := (f.ar h13).trans (r1_a (by decide))
  unfold zR2
  by_cases e : k = 13
  · subst e
    rw [as_y, as_y, q13, r1_a (by decide)]
  · rw [as_n e, as_n e]; exact b
theorem zHp_up {k : Nat} (h : zHp k ∨ zAg k) : zUp k ∨ zZ 1 k := by
  unfold zHp zAg at h
  unfold zUp zIr zZ
  omega
/-- the reference alone lives, and takes it back -/
theorem Inv.back (h : Inv pk S d) (f : zFr (fun k => zHp k ∨ zAg k) S T) (hR : RR T d) (h0 : ∀ g, g ≠ 3 → g ≠ 11 → g ≠ 12 → zsc T 0 g = zsc S 0 g) : Inv pk T d :=
  h.upG f (fun k q => zHp_up q) (h0 15 (by decide) (by decide) (by decide)) (h0 17 (by decide) (by decide) (by decide)) (h0 20 (by decide) (by decide) (by decide)) (fun _ _ _ => rfl) h.k (Nat.le_refl _) (h.l.fr h.k.1 f (by unfold zHp zAg; omega) (fun k a b => by unfold zHp zAg; omega)) hR (h.pe.fr f (fun q _ => by unfold zHp zAg; omega))
theorem s_judge (h : Inv pk S d) (x1 x2 : Int32) : zStp pk (M_X11_judge pk S x1 x2) (fun T => M_X12_judge T x1 x2) := by
  unfold M_X11_judge M_X12_judge M_X11_judge_B23
  rcases cLife h x1 x2 with ⟨c, c1, c2, hc, b⟩ | ⟨s, m, n, hs, hm, hn, rfl, rfl, a1, z1, r0, r1, b, rk⟩
  · have b := b (zR1 S c) (r1_a (by decide)) (r1_a (by decide))
    refine st_no10 h c c1 (by omega) ?_ (by simp (disch := omega) only [↓ob_some, ↓zm_some, ↓zm_none, ↓zg_true, ↓zg_in, ↓(ob_of b), reduceIte, li, lo, k_leT, k_leF, k_ltT, k_ltF, k_eqT, k_eqF, c_cl, c_sub, nI_add, pk_mul, zin_nI, zg_true, ob_some, zm_none, zm_some, if_true, if_false, Bool.false_eq_true, d_t, d_f, ob_eta, ob_eta1, m_ltn, m_nlt, m_nle, m_len, m_ne, m_ne', k_mltT, k_mltF, k_mleT, k_mleF, k_meqT, k_meqF, m_neg])
    rcases hc with ⟨a1, r0⟩ | ⟨s, a1, z1, r0⟩
    · simp (disch := omega) only [↓ob_some, ↓zm_some, ↓zm_none, ↓zg_true, ↓zg_in, ↓(ob_of a1), ↓(ob_of (r0 (nI 1))), reduceIte, li, lo, k_leT, k_leF, k_ltT, k_ltF, k_eqT, k_eqF, c_cl, c_sub, nI_add, pk_mul, zin_nI, zg_true, ob_some, zm_none, zm_some, if_true, if_false, Bool.false_eq_true, d_t, d_f, ob_eta, ob_eta1, m_ltn, m_nlt, m_nle, m_len, m_ne, m_ne', k_mltT, k_mltF, k_mleT, k_mleF, k_meqT, k_meqF, m_neg]
    · simp (disch := omega) only [↓ob_some, ↓zm_some, ↓zm_none, ↓zg_true, ↓zg_in, ↓(ob_of a1), ↓(zg_of z1), ↓(ob_of (r0 (nI 1))), reduceIte, li, lo, k_leT, k_leF, k_ltT, k_ltF, k_eqT, k_eqF, c_cl, c_sub, nI_add, pk_mul, zin_nI, zg_true, ob_some, zm_none, zm_some, if_true, if_false, Bool.false_eq_true, d_t, d_f, ob_eta, ob_eta1, m_ltn, m_nlt, m_nle, m_len, m_ne, m_ne', k_mltT, k_mltF, k_mleT, k_mleF, k_meqT, k_meqF, m_neg]
  · by_cases e : n ≤ 40
    · rw [if_pos e] at r1
      obtain ⟨S1, e1, f1⟩ := l_firstWrong (w := wv S s) h.l h.k hs (m := n) (by omega) (by decide) (fun S' q1 q2 j hj => rk S' q1 q2 j (by omega))
      have i1 : Inv pk S1 d := h.mv0 f1 (fun k q => by unfold zIr; omega)
      have l3 : zlo S1 3 = zlo S 3 := f1.lo (by omega)
      obtain ⟨T1, T2, k1, k2, k3, k4, k5⟩ := r_told i1.r h.k hs (n := n) (by omega) (wv S s) (fun j hj => by unfold wv; rw [l3])
      obtain ⟨T3, k6, k7, k8, k9⟩ := r_again k4 h.k.1 (Or.inr rfl)
      have b := b S1 (f1.ar (by omega)) (f1.ar (by omega))
      rw [if_pos e] at b
      refine ⟨oI (sLf (wv S s) 0 n d).1, S1, T3, by simp (disch := omega) only [↓ob_some, ↓zm_some, ↓zm_none, ↓zg_true, ↓zg_in, ↓(ob_of a1), ↓(zg_of z1), ↓(ob_of r1), ↓(ob_of e1), reduceIte, li, lo, k_leT, k_leF, k_ltT, k_ltF, k_eqT, k_eqF, c_cl, c_sub, nI_add, pk_mul, zin_nI, zg_true, ob_some, zm_none, zm_some, if_true, if_false, Bool.false_eq_true, d_t, d_f, ob_eta, ob_eta1, m_ltn, m_nlt, m_nle, m_len, m_ne, m_ne', k_mltT, k_mltF, k_mleT, k_mleF, k_meqT, k_meqF, m_neg], by simp (disch := omega) only [↓ob_some, ↓zm_some, ↓zm_none, ↓zg_true, ↓zg_in, ↓(ob_of b), ↓(ob_of k1), ↓(ob_of k2), ↓(ob_of k6), reduceIte, li, lo, k_leT, k_leF, k_ltT, k_ltF, k_eqT, k_eqF, c_cl, c_sub, nI_add, pk_mul, zin_nI, zg_true, ob_some, zm_none, zm_some, if_true, if_false, Bool.false_eq_true, d_t, d_f, ob_eta, ob_eta1, m_ltn, m_nlt, m_nle, m_len, m_ne, m_ne', k_mltT, k_mltF, k_mleT, k_mleF, k_meqT, k_meqF, m_neg], d, i1.back ((k5.mono (fun k q => Or.inl q)).trans (k7.mono (fun k q => Or.inr q))) k8 (fun g h1 h2 h3 => (k9 g h1 h2 h3).trans (by rw [k5.sc (by unfold zHp; omega)]))⟩
    · rw [if_neg e] at r1
      have b := b (zR1 S 6) (r1_a (by decide)) (r1_a (by decide))
      rw [if_neg e] at b
      exact st_no10 h 6 (by decide) (by decide) (by simp (disch := omega) only [↓ob_some, ↓zm_some, ↓zm_none, ↓zg_true, ↓zg_in, ↓(ob_of a1), ↓(zg_of z1), ↓(ob_of r1), reduceIte, li, lo, k_leT, k_leF, k_ltT, k_ltF, k_eqT, k_eqF, c_cl, c_sub, nI_add, pk_mul, zin_nI, zg_true, ob_some, zm_none, zm_some, if_true, if_false, Bool.false_eq_true, d_t, d_f, ob_eta, ob_eta1, m_ltn, m_nlt, m_nle, m_len, m_ne, m_ne', k_mltT, k_mltF, k_mleT, k_mleF, k_meqT, k_meqF, m_neg]) (by simp (disch := omega) only [↓ob_some, ↓zm_some, ↓zm_none, ↓zg_true, ↓zg_in, ↓(ob_of b), reduceIte, li, lo, k_leT, k_leF, k_ltT, k_ltF, k_eqT, k_eqF, c_cl, c_sub, nI_add, pk_mul, zin_nI, zg_true, ob_some, zm_none, zm_some, if_true, if_false, Bool.false_eq_true, d_t, d_f, ob_eta, ob_eta1, m_ltn, m_nlt, m_nle, m_len, m_ne, m_ne', k_mltT, k_mltF, k_mleT, k_mleF, k_meqT, k_meqF, m_neg])
theorem oI_m (o : Option Nat) (ho : ∀ i, o = some i → i < 1000) : (o = none ∧ oI o = -nI 1) ∨ (oI o = -nI 1) = False := by
  cases o with
  | none => exact Or.inl ⟨rfl, rfl⟩
  | some i => exact Or.inr (m_ne (by decide) (by decide) (by have := ho i rfl; omega))
theorem lf_lt (w : Nat → Nat) : ∀ (r z : Nat) (d : zD) (i : Nat), (sLf w z r d).1 = some i → i < z + r := by
  intro r
  induction r with
  | zero => intro z d i h; cases h
  | succ r ih =>
    intro z d i h
    unfold sLf at h
    cases e : sHap d (w z) with
    | none => rw [e] at h; cases h; omega
    | some d' => rw [e] at h; have := ih (z + 1) d' i h; omega
theorem s_done (h : Inv pk S d) (x1 x2 : Int32) : zStp pk (M_X11_done pk S x1 x2) (fun T => M_X12_done T x1 x2) := by
  unfold M_X11_done M_X12_done M_X11_done_B23
  rcases cLife h x1 x2 with ⟨c, c1, c2, hc, b⟩ | ⟨s, m, n, hs, hm, hn, rfl, rfl, a1, z1, r0, r1, b, rk⟩
  · have b := b (zR1 S c) (r1_a (by decide)) (r1_a (by decide))
    refine st_no h c c1 (by omega) ?_ (by simp (disch := omega) only [↓ob_some, ↓zm_some, ↓zm_none, ↓zg_true, ↓zg_in, ↓(ob_of b), reduceIte, li, lo, k_leT, k_leF, k_ltT, k_ltF, k_eqT, k_eqF, c_cl, c_sub, nI_add, pk_mul, zin_nI, zg_true, ob_some, zm_none, zm_some, if_true, if_false, Bool.false_eq_true, d_t, d_f, ob_eta, ob_eta1, m_ltn, m_nlt, m_nle, m_len, m_ne, m_ne', k_mltT, k_mltF, k_mleT, k_mleF, k_meqT, k_meqF, m_neg])
    rcases hc with ⟨a1, r0⟩ | ⟨s, a1, z1, r0⟩
    · simp (disch := omega) only [↓ob_some, ↓zm_some, ↓zm_none, ↓zg_true, ↓zg_in, ↓(ob_of a1), ↓(ob_of (r0 (nI 1))), reduceIte, li, lo, k_leT, k_leF, k_ltT, k_ltF, k_eqT, k_eqF, c_cl, c_sub, nI_add, pk_mul, zin_nI, zg_true, ob_some, zm_none, zm_some, if_true, if_false, Bool.false_eq_true, d_t, d_f, ob_eta, ob_eta1, m_ltn, m_nlt, m_nle, m_len, m_ne, m_ne', k_mltT, k_mltF, k_mleT, k_mleF, k_meqT, k_meqF, m_neg]
    · simp (disch := omega) only [↓ob_some, ↓zm_some, ↓zm_none, ↓zg_true, ↓zg_in, ↓(ob_of a1), ↓(zg_of z1), ↓(ob_of (r0 (nI 1))), reduceIte, li, lo, k_leT, k_leF, k_ltT, k_ltF, k_eqT, k_eqF, c_cl, c_sub, nI_add, pk_mul, zin_nI, zg_true, ob_some, zm_none, zm_some, if_true, if_false, Bool.false_eq_true, d_t, d_f, ob_eta, ob_eta1, m_ltn, m_nlt, m_nle, m_len, m_ne, m_ne', k_mltT, k_mltF, k_mleT, k_mleF, k_meqT, k_meqF, m_neg]
  · by_cases e : n ≤ 40
    · rw [if_pos e] at r1
      have rkn : rowOk pk S s n (wv S s) := fun S' q1 q2 j hj => rk S' q1 q2 j (by omega)
      obtain ⟨S1, e1, f1⟩ := l_firstWrong (w := wv S s) h.l h.k hs (m := n) (by omega) (by decide) rkn
      have i1 : Inv pk S1 d := h.mv0 f1 (fun k q => by unfold zIr; omega)
      have l3 : zlo S1 3 = zlo S 3 := f1.lo (by omega)
      obtain ⟨kk1, kk2⟩ := lf_kk (wv S s) n 0 d h.k
      rcases oI_m (sLf (wv S s) 0 n d).1 (fun i hi => by have := lf_lt (wv S s) n 0 d i hi; omega) with ⟨on, om⟩ | om
      · obtain ⟨S2, v1, v2, v3, v4, v5, v6⟩ := l_liveTold (pk := pk) (i := 0) (w := wv S s) hs (m := n) (by omega) (by decide) n 0 zF S1 d (by omega) (by show _ < 4096; omega) i1.l h.k i1.pe on (fun S' q1 q2 j hj => rkn S' (by rw [q1, f1.sc (by omega)]) (by rw [q2, f1.lo (by omega)]) j hj)
        have l3' : zlo S2 3 = zlo S 3 := (v6.lo (by unfold zZ; omega)).trans l3
        have hR2 : RR S2 d := f100 S2 i1.r v6
        obtain ⟨T1, T2, k1, k2, k3, k4, k5⟩ := r_told hR2 h.k hs (n := n) (by omega) (wv S s) (fun j hj => by unfold wv; rw [l3'])
        have b := b S2 ((v6.ar (by unfold zZ; omega)).trans (f1.ar (by omega))) ((v6.ar (by unfold zZ; omega)).trans (f1.ar (by omega)))
        rw [if_pos e] at b
        have dt := l_deadTotal v2 kk1.1 (by decide)
        have da := r_allDead k3 kk1.1
        have lt : M_X4_liveTold pk S1 0 s (nI n) = some S2 := v1
        have F : zFr (fun k => zZ 0 k ∨ zHp k) S1 T2 := (v6.mono (fun k q => Or.inl q)).trans (k5.mono (fun k q => Or.inr q))
        have c0 : zsc T2 0 = zsc S1 0 := F.sc (by unfold zZ zHp; omega)
        rw [om] at e1 k2
        refine ⟨sDead (sLf (wv S s) 0 n d).2, S2, T2, by simp (disch := omega) only [↓ob_some, ↓zm_some, ↓zm_none, ↓zg_true, ↓zg_in, ↓(ob_of a1), ↓(zg_of z1), ↓(ob_of r1), ↓(ob_of e1), ↓(ob_of lt), ↓(ob_of dt), reduceIte, li, lo, k_leT, k_leF, k_ltT, k_ltF, k_eqT, k_eqF, c_cl, c_sub, nI_add, pk_mul, zin_nI, zg_true, ob_some, zm_none, zm_some, if_true, if_false, Bool.false_eq_true, d_t, d_f, ob_eta, ob_eta1, m_ltn, m_nlt, m_nle, m_len, m_ne, m_ne', k_mltT, k_mltF, k_mleT, k_mleF, k_meqT, k_meqF, m_neg], by simp (disch := omega) only [↓ob_some, ↓zm_some, ↓zm_none, ↓zg_true, ↓zg_in, ↓(ob_of b), ↓(ob_of k1), ↓(ob_of k2), ↓(ob_of da), reduceIte, li, lo, k_leT, k_leF, k_ltT, k_ltF, k_eqT, k_eqF, c_cl, c_sub, nI_add, pk_mul, zin_nI, zg_true, ob_some, zm_none, zm_some, if_true, if_false, Bool.false_eq_true, d_t, d_f, ob_eta, ob_eta1, m_ltn, m_nlt, m_nle, m_len, m_ne, m_ne', k_mltT, k_mltF, k_mleT, k_mleF, k_meqT, k_meqF, m_neg], (sLf (wv S s) 0 n d).2, i1.upG F (fun k q => ?_) (by rw [c0]) (by rw [c0]) (by rw [c0]) (fun _ _ _ => rfl) kk1 (by omega) (v2.fr kk1.1 k5 (by unfold zHp; omega) (fun k a b => by unfold zHp; omega)) k3 (v5.fr k5 (fun q _ => by unfold zHp; omega))⟩
        rcases q with q | q
        · exact Or.inl (Or.inl q)
        · exact zHp_up (Or.inl q)
      · have hRz : RR (zR1 S1 6) d := i1.r.fr0 (zFr_As (P := fun k => k = 22) rfl) (fun k a => by omega)
        have l3z : zlo (zR1 S1 6) 3 = zlo S 3 := l3
        obtain ⟨T1, T2, k1, k2, k3, k4, k5⟩ := r_told hRz h.k hs (n := n) (by omega) (wv S s) (fun j hj => by unfold wv; rw [l3z])
        obtain ⟨T3, k6, k7, k8, k9⟩ := r_again k4 h.k.1 (Or.inr rfl)
        have b := b (zR1 S1 6) ((r1_a (by decide)).trans (f1.ar (by omega))) ((r1_a (by decide)).trans (f1.ar (by omega)))
        rw [if_pos e] at b
        have F : zFr (fun k => zHp k ∨ zAg k) (zR1 S1 6) T3 := (k5.mono (fun k q => Or.inl q)).trans (k7.mono (fun k q => Or.inr q))
        have rf := l_ref pk S1 (c := 6) (by decide) (by decide)
        have rn := r_no' T3 (c := 6) (by decide) (by decide)
        refine ⟨-nI 6, zR1 S1 6, _, by simp (disch := omega) only [↓ob_some, ↓zm_some, ↓zm_none, ↓zg_true, ↓zg_in, ↓(ob_of a1), ↓(zg_of z1), ↓(ob_of r1), ↓(ob_of e1), om, rf, reduceIte, li, lo, k_leT, k_leF, k_ltT, k_ltF, k_eqT, k_eqF, c_cl, c_sub, nI_add, pk_mul, zin_nI, zg_true, ob_some, zm_none, zm_some, if_true, if_false, Bool.false_eq_true, d_t, d_f, ob_eta, ob_eta1, m_ltn, m_nlt, m_nle, m_len, m_ne, m_ne', k_mltT, k_mltF, k_mleT, k_mleF, k_meqT, k_meqF, m_neg], ?_, d, (i1.no (c := 6) (by decide)).back (fr_no F (by unfold zHp zAg; omega)) (k8.fr0 (zFr_As (P := fun k => k = 13) rfl) (fun k a => by omega)) (fun g h1 h2 h3 => (k9 g h1 h2 h3).trans (by rw [k5.sc (by unfold zHp; omega)]; rfl))⟩
        simp (disch := omega) only [↓ob_some, ↓zm_some, ↓zm_none, ↓zg_true, ↓zg_in, ↓(ob_of b), ↓(ob_of k1), ↓(ob_of k2), om, ↓(ob_of k6), rn, reduceIte, li, lo, k_leT, k_leF, k_ltT, k_ltF, k_eqT, k_eqF, c_cl, c_sub, nI_add, pk_mul, zin_nI, zg_true, ob_some, zm_none, zm_some, if_true, if_false, Bool.false_eq_true, d_t, d_f, ob_eta, ob_eta1, m_ltn, m_nlt, m_nle, m_len, m_ne, m_ne', k_mltT, k_mltF, k_mleT, k_mleF, k_meqT, k_meqF, m_neg]
    · rw [if_neg e] at r1
      have b := b (zR1 S 6) (r1_a (by decide)) (r1_a (by decide))
      rw [if_neg e] at b
      exact st_no h 6 (by decide) (by decide) (by simp (disch := omega) only [↓ob_some, ↓zm_some, ↓zm_none, ↓zg_true, ↓zg_in, ↓(ob_of a1), ↓(zg_of z1), ↓(ob_of r1), reduceIte, li, lo, k_leT, k_leF, k_ltT, k_ltF, k_eqT, k_eqF, c_cl, c_sub, nI_add, pk_mul, zin_nI, zg_true, ob_some, zm_none, zm_some, if_true, if_false, Bool.false_eq_true, d_t, d_f, ob_eta, ob_eta1, m_ltn, m_nlt, m_nle, m_len, m_ne, m_ne', k_mltT, k_mltF, k_mleT, k_mleF, k_meqT, k_meqF, m_neg]) (by simp (disch := omega) only [↓ob_some, ↓zm_some, ↓zm_none, ↓zg_true, ↓zg_in, ↓(ob_of b), reduceIte, li, lo, k_leT, k_leF, k_ltT, k_ltF, k_eqT, k_eqF, c_cl, c_sub, nI_add, pk_mul, zin_nI, zg_true, ob_some, zm_none, zm_some, if_true, if_false, Bool.false_eq_true, d_t, d_f, ob_eta, ob_eta1, m_ltn, m_nlt, m_nle, m_len, m_ne, m_ne', k_mltT, k_mltF, k_mleT, k_mleF, k_meqT, k_meqF, m_neg])
theorem s_behind (h : Inv pk S d) (x1 x2 x3 : Int32) : zStG pk (M_X11_behind pk S x1 x2 x3) (fun T => M_X12_behind T x1 x2 x3) := by
  unfold M_X11_behind M_X12_behind M_X11_behind_B39
  have w3 : (x3 < nI 0 ∧ (∀ T, M_X12_within T x3 (nI 0) (nI 2) = some (nI 0))) ∨ (¬ x3 < nI 0 ∧ nI 2 < x3 ∧ (∀ T, M_X12_within T x3 (nI 0) (nI 2) = some (nI 0))) ∨ ∃ j, j < 3 ∧ x3 = nI j ∧ ∀ T, M_X12_within T x3 (nI 0) (nI 2) = some (nI 1) := by
    rcases cR x3 0 2 (by decide) (by decide) with q | ⟨q1, q2, q3⟩ | ⟨j, j1, j2, rfl⟩
    · exact Or.inl ⟨q, fun T => w_lo T q⟩
    · exact Or.inr (Or.inl ⟨q1, q2, fun T => w_hi T q2⟩)
    · exact Or.inr (Or.inr ⟨j, by omega, rfl, fun T => w_n (a := 0) (b := 2) T j1 j2 (by decide)⟩)
  rcases cLife h x1 x2 with ⟨c, c1, c2, hc, b⟩ | ⟨s, m, n, hs, hm, hn, rfl, rfl, a1, z1, r0, r1, b, rk⟩
  · have b := b (zR1 S c) (r1_a (by decide)) (r1_a (by decide))
    refine stg_no h c c1 (by omega) ?_ (by simp (disch := omega) only [↓ob_some, ↓zm_some, ↓zm_none, ↓zg_true, ↓zg_in, ↓(ob_of b), M_X12_behind_B36, reduceIte, li, lo, k_leT, k_leF, k_ltT, k_ltF, k_eqT, k_eqF, c_cl, c_sub, nI_add, pk_mul, zin_nI, zg_true, ob_some, zm_none, zm_some, if_true, if_false, Bool.false_eq_true, d_t, d_f, ob_eta, ob_eta1, m_ltn, m_nlt, m_nle, m_len, m_ne, m_ne', k_mltT, k_mltF, k_mleT, k_mleF, k_meqT, k_meqF, m_neg])
    rcases hc with ⟨a1, r0⟩ | ⟨s, a1, z1, r0⟩
    · rcases w3 with ⟨q, -⟩ | ⟨q, q2, -⟩ | ⟨j, hj, rfl, -⟩
      · simp (disch := omega) only [↓ob_some, ↓zm_some, ↓zm_none, ↓zg_true, ↓zg_in, ↓(ob_of a1), q, ↓(ob_of (r0 (nI 0))), reduceIte, li, lo, k_leT, k_leF, k_ltT, k_ltF, k_eqT, k_eqF, c_cl, c_sub, nI_add, pk_mul, zin_nI, zg_true, ob_some, zm_none, zm_some, if_true, if_false, Bool.false_eq_true, d_t, d_f, ob_eta, ob_eta1, m_ltn, m_nlt, m_nle, m_len, m_ne, m_ne', k_mltT, k_mltF, k_mleT, k_mleF, k_meqT, k_meqF, m_neg]
      · simp (disch := omega) only [↓ob_some, ↓zm_some, ↓zm_none, ↓zg_true, ↓zg_in, ↓(ob_of a1), q, q2, ↓(ob_of (r0 (nI 0))), reduceIte, li, lo, k_leT, k_leF, k_ltT, k_ltF, k_eqT, k_eqF, c_cl, c_sub, nI_add, pk_mul, zin_nI, zg_true, ob_some, zm_none, zm_some, if_true, if_false, Bool.false_eq_true, d_t, d_f, ob_eta, ob_eta1, m_ltn, m_nlt, m_nle, m_len, m_ne, m_ne', k_mltT, k_mltF, k_mleT, k_mleF, k_meqT, k_meqF, m_neg]
      · simp (disch := omega) only [↓ob_some, ↓zm_some, ↓zm_none, ↓zg_true, ↓zg_in, ↓(ob_of a1), ↓(ob_of (r0 (nI 1))), reduceIte, li, lo, k_leT, k_leF, k_ltT, k_ltF, k_eqT, k_eqF, c_cl, c_sub, nI_add, pk_mul, zin_nI, zg_true, ob_some, zm_none, zm_some, if_true, if_false, Bool.false_eq_true, d_t, d_f, ob_eta, ob_eta1, m_ltn, m_nlt, m_nle, m_len, m_ne, m_ne', k_mltT, k_mltF, k_mleT, k_mleF, k_meqT, k_meqF, m_neg]
    · rcases w3 with ⟨q, -⟩ | ⟨q, q2, -⟩ | ⟨j, hj, rfl, -⟩
      · simp (disch := omega) only [↓ob_some, ↓zm_some, ↓zm_none, ↓zg_true, ↓zg_in, ↓(ob_of a1), ↓(zg_of z1), q, ↓(ob_of (r0 (nI 0))), reduceIte, li, lo, k_leT, k_leF, k_ltT, k_ltF, k_eqT, k_eqF, c_cl, c_sub, nI_add, pk_mul, zin_nI, zg_true, ob_some, zm_none, zm_some, if_true, if_false, Bool.false_eq_true, d_t, d_f, ob_eta, ob_eta1, m_ltn, m_nlt, m_nle, m_len, m_ne, m_ne', k_mltT, k_mltF, k_mleT, k_mleF, k_meqT, k_meqF, m_neg]
      · simp (disch := omega) only [↓ob_some, ↓zm_some, ↓zm_none, ↓zg_true, ↓zg_in, ↓(ob_of a1), ↓(zg_of z1), q, q2, ↓(ob_of (r0 (nI 0))), reduceIte, li, lo, k_leT, k_leF, k_ltT, k_ltF, k_eqT, k_eqF, c_cl, c_sub, nI_add, pk_mul, zin_nI, zg_true, ob_some, zm_none, zm_some, if_true, if_false, Bool.false_eq_true, d_t, d_f, ob_eta, ob_eta1, m_ltn, m_nlt, m_nle, m_len, m_ne, m_ne', k_mltT, k_mltF, k_mleT, k_mleF, k_meqT, k_meqF, m_neg]
      · simp (disch := omega) only [↓ob_some, ↓zm_some, ↓zm_none, ↓zg_true, ↓zg_in, ↓(ob_of a1), ↓(zg_of z1), ↓(ob_of (r0 (nI 1))), reduceIte, li, lo, k_leT, k_leF, k_ltT, k_ltF, k_eqT, k_eqF, c_cl, c_sub, nI_add, pk_mul, zin_nI, zg_true, ob_some, zm_none, zm_some, if_true, if_false, Bool.false_eq_true, d_t, d_f, ob_eta, ob_eta1, m_ltn, m_nlt, m_nle, m_len, m_ne, m_ne', k_mltT, k_mltF, k_mleT, k_mleF, k_meqT, k_meqF, m_neg]
  · have five : ∀ T, zar T 1 = zar S 1 → zar T 2 = zar S 2 → M_X12_within T x3 (nI 0) (nI 2) = some (nI 0) → Option.bind (M_X12_noTold T (nI s) (nI n) (nI 0) (nI 40)) (fun w1 => (if w1 = nI 0 then M_X12_behind_B23 T (nI s) (nI n) x3 w1 else (if w1 = (-nI 6) then M_X12_behind_B23 T (nI s) (nI n) x3 w1 else M_X12_behind_B36 T (nI s) (nI n) x3 w1))) = M_X12_no T (-nI 5) := by
      intro T t1 t2 tw
      have b := b T t1 t2
      by_cases e : n ≤ 40
      · rw [if_pos e] at b
        simp (disch := omega) only [↓ob_some, ↓zm_some, ↓zm_none, ↓zg_true, ↓zg_in, ↓(ob_of b), M_X12_behind_B23, ↓(ob_of tw), M_X12_behind_B36, reduceIte, li, lo, k_leT, k_leF, k_ltT, k_ltF, k_eqT, k_eqF, c_cl, c_sub, nI_add, pk_mul, zin_nI, zg_true, ob_some, zm_none, zm_some, if_true, if_false, Bool.false_eq_true, d_t, d_f, ob_eta, ob_eta1, m_ltn, m_nlt, m_nle, m_len, m_ne, m_ne', k_mltT, k_mltF, k_mleT, k_mleF, k_meqT, k_meqF, m_neg]
      · rw [if_neg e] at b
        simp (disch := omega) only [↓ob_some, ↓zm_some, ↓zm_none, ↓zg_true, ↓zg_in, ↓(ob_of b), M_X12_behind_B23, ↓(ob_of tw), M_X12_behind_B36, reduceIte, li, lo, k_leT, k_leF, k_ltT, k_ltF, k_eqT, k_eqF, c_cl, c_sub, nI_add, pk_mul, zin_nI, zg_true, ob_some, zm_none, zm_some, if_true, if_false, Bool.false_eq_true, d_t, d_f, ob_eta, ob_eta1, m_ltn, m_nlt, m_nle, m_len, m_ne, m_ne', k_mltT, k_mltF, k_mleT, k_mleF, k_meqT, k_meqF, m_neg]
    rcases w3 with ⟨q, w3⟩ | ⟨q, q2, w3⟩ | ⟨j, hj, rfl, w3⟩
    · refine stg_no h 5 (by decide) (by decide) (by simp (disch := omega) only [↓ob_some, ↓zm_some, ↓zm_none, ↓zg_true, ↓zg_in, ↓(ob_of a1), ↓(zg_of z1), q, ↓(ob_of r0), reduceIte, li, lo, k_leT, k_leF, k_ltT, k_ltF, k_eqT, k_eqF, c_cl, c_sub, nI_add, pk_mul, zin_nI, zg_true, ob_some, zm_none, zm_some, if_true, if_false, Bool.false_eq_true, d_t, d_f, ob_eta, ob_eta1, m_ltn, m_nlt, m_nle, m_len, m_ne, m_ne', k_mltT, k_mltF, k_mleT, k_mleF, k_meqT, k_meqF, m_neg]) ?_
      have := five (zR1 S 5) (r1_a (by decide)) (r1_a (by decide)) (w3 _)
      simp only [li]
      exact this
    · refine stg_no h 5 (by decide) (by decide) (by simp (disch := omega) only [↓ob_some, ↓zm_some, ↓zm_none, ↓zg_true, ↓zg_in, ↓(ob_of a1), ↓(zg_of z1), q, q2, ↓(ob_of r0), reduceIte, li, lo, k_leT, k_leF, k_ltT, k_ltF, k_eqT, k_eqF, c_cl, c_sub, nI_add, pk_mul, zin_nI, zg_true, ob_some, zm_none, zm_some, if_true, if_false, Bool.false_eq_true, d_t, d_f, ob_eta, ob_eta1, m_ltn, m_nlt, m_nle, m_len, m_ne, m_ne', k_mltT, k_mltF, k_mleT, k_mleF, k_meqT, k_meqF, m_neg]) ?_
      have := five (zR1 S 5) (r1_a (by decide)) (r1_a (by decide)) (w3 _)
      simp only [li]
      exact this
    · by_cases e : n ≤ 40
      · rw [if_pos e] at r1
        have rkn : rowOk pk S s n (wv S s) := fun S' q1 q2 j hj => rk S' q1 q2 j (by omega)
        obtain ⟨S1, e1, f1⟩ := l_firstWrong (w := wv S s) h.l h.k hs (m := n) (by omega) (by decide) rkn
        have i1 : Inv pk S1 d := h.mv0 f1 (fun k q => by unfold zIr; omega)
        have l3 : zlo S1 3 = zlo S 3 := f1.lo (by omega)
        obtain ⟨kk1, kk2⟩ := lf_kk (wv S s) n 0 d h.k
        rcases oI_m (sLf (wv S s) 0 n d).1 (fun i hi => by have := lf_lt (wv S s) n 0 d i hi; omega) with ⟨on, om⟩ | om
        · obtain ⟨pk', S2, u1, u2, u3, u4, u5, u6⟩ := l_takeFrom (i := 1) (j := 0) i1.l h.k i1.pe (by decide) (by decide) (by decide)
          obtain ⟨S3, v1, v2, v3, v4, v5, v6⟩ := l_liveTold (pk := pk') (i := 1) (w := wv S s) hs (m := n) (by omega) (by decide) n 0 zF S2 d (by omega) (by show _ < 4096; omega) u2 h.k u4 on (fun S' q1 q2 j hj => by
            obtain ⟨x, y1, y2⟩ := rkn S' (by rw [q1, u5.sc (by unfold zL1 zZ; omega), f1.sc (by omega)]) (by rw [q2, u5.lo (by unfold zL1 zZ; omega), f1.lo (by omega)]) j hj
            exact ⟨x, y1, y2⟩)
          have G : zFr (fun k => zL1 1 k) S1 S3 := u5.trans (v6.mono (fun k q => Or.inr q))
          have l3' : zlo S3 3 = zlo S 3 := (G.lo (by unfold zL1 zZ; omega)).trans l3
          have hR3 : RR S3 d := i1.r.fr0 G (fun k a => by unfold zL1 zZ; omega)
          obtain ⟨T1, T2, k1, k2, k3, k4, k5⟩ := r_told hR3 h.k hs (n := n) (by omega) (wv S s) (fun j hj => by unfold wv; rw [l3'])
          obtain ⟨T3, k6, k7, k8, k9⟩ := r_again k4 h.k.1 (Or.inr rfl)
          have b := b S3 ((G.ar (by unfold zL1 zZ; omega)).trans (f1.ar (by omega))) ((G.ar (by unfold zL1 zZ; omega)).trans (f1.ar (by omega)))
          rw [if_pos e] at b
          have lt : M_X4_liveTold pk' S2 1 s (nI n) = some S3 := v1
          have F0 : zFr (fun k => zHp k ∨ zAg k) S3 T3 := (k5.mono (fun k q => Or.inl q)).trans (k7.mono (fun k q => Or.inr q))
          have F : zFr (fun k => zL1 1 k ∨ (zHp k ∨ zAg k)) S1 T3 := (G.mono (fun k q => Or.inl q)).trans (F0.mono (fun k q => Or.inr q))
          have c0 : ∀ g, g ≠ 3 → g ≠ 11 → g ≠ 12 → zsc T3 0 g = zsc S1 0 g := fun g h1 h2 h3 => (k9 g h1 h2 h3).trans (by rw [k5.sc (by unfold zHp; omega), G.sc (by unfold zL1 zZ; omega)])
          have L0 : LL 0 pk' T3 d := (u3.fr h.k.1 (v6.trans (zFr.rf)) (by unfold zZ; omega) (fun k a b => by unfold zZ; omega)).fr h.k.1 F0 (by unfold zHp zAg; omega) (fun k a b => by unfold zHp zAg; omega)
          have I3 : Inv pk' T3 d := i1.upG F (fun k q => by
            rcases q with q | q
            · rcases q with q | q
              · left; unfold zUp zIr; omega
              · exact Or.inr q
            · exact zHp_up q) (c0 15 (by decide) (by decide) (by decide)) (c0 17 (by decide) (by decide) (by decide)) (c0 20 (by decide) (by decide) (by decide)) (fun q x y => u6 q (by omega)) h.k (Nat.le_refl _) L0 k8 (v5.fr F0 (fun q _ => by unfold zHp zAg; omega))
          have db : decide (6 ≤ 6) = true := rfl
          rw [om] at e1 k2
          have m1 := l_strengthTotal v2 kk1.1 (by decide)
          have m2 := l_deadTotal v2 kk1.1 (by decide)
          have m3 := l_smearTotal v2 kk1.1 (by decide)
          have n1 := r_allStrength k3 kk1.1
          have n2 := r_allDead k3 kk1.1
          have n3 := r_allSmears k3 kk1.1
          have w3 := w3 S3
          have hj : j = 0 ∨ j = 1 ∨ j = 2 := by omega
          unfold zlet2
          rcases hj with rfl | rfl | rfl
          · exact ⟨_, pk', S3, T3, by simp (disch := omega) only [↓ob_some, ↓zm_some, ↓zm_none, ↓zg_true, ↓zg_in, ↓(ob_of a1), ↓(zg_of z1), ↓(ob_of r1), ↓(ob_of e1), ↓(zg_of db), ↓(ob_of u1), ↓(ob_of lt), ↓(ob_of m1), reduceIte, li, lo, k_leT, k_leF, k_ltT, k_ltF, k_eqT, k_eqF, c_cl, c_sub, nI_add, pk_mul, zin_nI, zg_true, ob_some, zm_none, zm_some, if_true, if_false, Bool.false_eq_true, d_t, d_f, ob_eta, ob_eta1, m_ltn, m_nlt, m_nle, m_len, m_ne, m_ne', k_mltT, k_mltF, k_mleT, k_mleF, k_meqT, k_meqF, m_neg]; rfl, by simp (disch := omega) only [↓ob_some, ↓zm_some, ↓zm_none, ↓zg_true, ↓zg_in, ↓(ob_of b), M_X12_behind_B23, ↓(ob_of w3), M_X12_behind_B36, ↓(ob_of k1), ↓(ob_of k2), ↓(ob_of n1), M_X12_behind_B91, ↓(ob_of k6), reduceIte, li, lo, k_leT, k_leF, k_ltT, k_ltF, k_eqT, k_eqF, c_cl, c_sub, nI_add, pk_mul, zin_nI, zg_true, ob_some, zm_none, zm_some, if_true, if_false, Bool.false_eq_true, d_t, d_f, ob_eta, ob_eta1, m_ltn, m_nlt, m_nle, m_len, m_ne, m_ne', k_mltT, k_mltF, k_mleT, k_mleF, k_meqT, k_meqF, m_neg], d, I3⟩
          · exact ⟨_, pk', S3, T3, by simp (disch := omega) only [↓ob_some, ↓zm_some, ↓zm_none, ↓zg_true, ↓zg_in, ↓(ob_of a1), ↓(zg_of z1), ↓(ob_of r1), ↓(ob_of e1), ↓(zg_of db), ↓(ob_of u1), ↓(ob_of lt), ↓(ob_of m2), reduceIte, li, lo, k_leT, k_leF, k_ltT, k_ltF, k_eqT, k_eqF, c_cl, c_sub, nI_add, pk_mul, zin_nI, zg_true, ob_some, zm_none, zm_some, if_true, if_false, Bool.false_eq_true, d_t, d_f, ob_eta, ob_eta1, m_ltn, m_nlt, m_nle, m_len, m_ne, m_ne', k_mltT, k_mltF, k_mleT, k_mleF, k_meqT, k_meqF, m_neg]; rfl, by simp (disch := omega) only [↓ob_some, ↓zm_some, ↓zm_none, ↓zg_true, ↓zg_in, ↓(ob_of b), M_X12_behind_B23, ↓(ob_of w3), M_X12_behind_B36, ↓(ob_of k1), ↓(ob_of k2), ↓(ob_of n2), M_X12_behind_B91, ↓(ob_of k6), reduceIte, li, lo, k_leT, k_leF, k_ltT, k_ltF, k_eqT, k_eqF, c_cl, c_sub, nI_add, pk_mul, zin_nI, zg_true, ob_some, zm_none, zm_some, if_true, if_false, Bool.false_eq_true, d_t, d_f, ob_eta, ob_eta1, m_ltn, m_nlt, m_nle, m_len, m_ne, m_ne', k_mltT, k_mltF, k_mleT, k_mleF, k_meqT, k_meqF, m_neg], d, I3⟩
          · exact ⟨_, pk', S3, T3, by simp (disch := omega) only [↓ob_some, ↓zm_some, ↓zm_none, ↓zg_true, ↓zg_in, ↓(ob_of a1), ↓(zg_of z1), ↓(ob_of r1), ↓(ob_of e1), ↓(zg_of db), ↓(ob_of u1), ↓(ob_of lt), ↓(ob_of m3), reduceIte, li, lo, k_leT, k_leF, k_ltT, k_ltF, k_eqT, k_eqF, c_cl, c_sub, nI_add, pk_mul, zin_nI, zg_true, ob_some, zm_none, zm_some, if_true, if_false, Bool.false_eq_true, d_t, d_f, ob_eta, ob_eta1, m_ltn, m_nlt, m_nle, m_len, m_ne, m_ne', k_mltT, k_mltF, k_mleT, k_mleF, k_meqT, k_meqF, m_neg]; rfl, by simp (disch := omega) only [↓ob_some, ↓zm_some, ↓zm_none, ↓zg_true, ↓zg_in, ↓(ob_of b), M_X12_behind_B23, ↓(ob_of w3), M_X12_behind_B36, ↓(ob_of k1), ↓(ob_of k2), ↓(ob_of n3), M_X12_behind_B91, ↓(ob_of k6), reduceIte, li, lo, k_leT, k_leF, k_ltT, k_ltF, k_eqT, k_eqF, c_cl, c_sub, nI_add, pk_mul, zin_nI, zg_true, ob_some, zm_none, zm_some, if_true, if_false, Bool.false_eq_true, d_t, d_f, ob_eta, ob_eta1, m_ltn, m_nlt, m_nle, m_len, m_ne, m_ne', k_mltT, k_mltF, k_mleT, k_mleF, k_meqT, k_meqF, m_neg], d, I3⟩
        · have hRz : RR (zR1 S1 6) d := i1.r.fr0 (zFr_As (P := fun k => k = 22) rfl) (fun k a => by omega)
          have l3z : zlo (zR1 S1 6) 3 = zlo S 3 := l3
          obtain ⟨T1, T2, k1, k2, k3, k4, k5⟩ := r_told hRz h.k hs (n := n) (by omega) (wv S s) (fun j hj => by unfold wv; rw [l3z])
          obtain ⟨T3, k6, k7, k8, k9⟩ := r_again k4 h.k.1 (Or.inr rfl)
          have b := b (zR1 S1 6) ((r1_a (by decide)).trans (f1.ar (by omega))) ((r1_a (by decide)).trans (f1.ar (by omega)))
          rw [if_pos e] at b
          have F : zFr (fun k => zHp k ∨ zAg k) (zR1 S1 6) T3 := (k5.mono (fun k q => Or.inl q)).trans (k7.mono (fun k q => Or.inr q))
          have rf := l_ref pk S1 (c := 6) (by decide) (by decide)
          have rn := r_no' T3 (c := 6) (by decide) (by decide)
          have I3 : Inv pk (zAs T3 13 6 (zar T3 13 6 + nI 1)) d := (i1.no (c := 6) (by decide)).back (fr_no F (by unfold zHp zAg; omega)) (k8.fr0 (zFr_As (P := fun k => k = 13) rfl) (fun k a => by omega)) (fun g h1 h2 h3 => (k9 g h1 h2 h3).trans (by rw [k5.sc (by unfold zHp; omega)]; rfl))
          have n1 := r_allStrength k3 kk1.1
          have n2 := r_allDead k3 kk1.1
          have n3 := r_allSmears k3 kk1.1
          have w3 := w3 (zR1 S1 6)
          have hj : j = 0 ∨ j = 1 ∨ j = 2 := by omega
          rcases hj with rfl | rfl | rfl
          · exact ⟨-nI 6, pk, zR1 S1 6, _, by simp (disch := omega) only [↓ob_some, ↓zm_some, ↓zm_none, ↓zg_true, ↓zg_in, ↓(ob_of a1), ↓(zg_of z1), ↓(ob_of r1), ↓(ob_of e1), om, ↓(ob_of rf), reduceIte, li, lo, k_leT, k_leF, k_ltT, k_ltF, k_eqT, k_eqF, c_cl, c_sub, nI_add, pk_mul, zin_nI, zg_true, ob_some, zm_none, zm_some, if_true, if_false, Bool.false_eq_true, d_t, d_f, ob_eta, ob_eta1, m_ltn, m_nlt, m_nle, m_len, m_ne, m_ne', k_mltT, k_mltF, k_mleT, k_mleF, k_meqT, k_meqF, m_neg], by simp (disch := omega) only [↓ob_some, ↓zm_some, ↓zm_none, ↓zg_true, ↓zg_in, ↓(ob_of b), M_X12_behind_B23, ↓(ob_of w3), M_X12_behind_B36, ↓(ob_of k1), ↓(ob_of k2), ↓(ob_of n1), M_X12_behind_B91, ↓(ob_of k6), om, rn, reduceIte, li, lo, k_leT, k_leF, k_ltT, k_ltF, k_eqT, k_eqF, c_cl, c_sub, nI_add, pk_mul, zin_nI, zg_true, ob_some, zm_none, zm_some, if_true, if_false, Bool.false_eq_true, d_t, d_f, ob_eta, ob_eta1, m_ltn, m_nlt, m_nle, m_len, m_ne, m_ne', k_mltT, k_mltF, k_mleT, k_mleF, k_meqT, k_meqF, m_neg], d, I3⟩
          · exact ⟨-nI 6, pk, zR1 S1 6, _, by simp (disch := omega) only [↓ob_some, ↓zm_some, ↓zm_none, ↓zg_true, ↓zg_in, ↓(ob_of a1), ↓(zg_of z1), ↓(ob_of r1), ↓(ob_of e1), om, ↓(ob_of rf), reduceIte, li, lo, k_leT, k_leF, k_ltT, k_ltF, k_eqT, k_eqF, c_cl, c_sub, nI_add, pk_mul, zin_nI, zg_true, ob_some, zm_none, zm_some, if_true, if_false, Bool.false_eq_true, d_t, d_f, ob_eta, ob_eta1, m_ltn, m_nlt, m_nle, m_len, m_ne, m_ne', k_mltT, k_mltF, k_mleT, k_mleF, k_meqT, k_meqF, m_neg], by simp (disch := omega) only [↓ob_some, ↓zm_some, ↓zm_none, ↓zg_true, ↓zg_in, ↓(ob_of b), M_X12_behind_B23, ↓(ob_of w3), M_X12_behind_B36, ↓(ob_of k1), ↓(ob_of k2), ↓(ob_of n2), M_X12_behind_B91, ↓(ob_of k6), om, rn, reduceIte, li, lo, k_leT, k_leF, k_ltT, k_ltF, k_eqT, k_eqF, c_cl, c_sub, nI_add, pk_mul, zin_nI, zg_true, ob_some, zm_none, zm_some, if_true, if_false, Bool.false_eq_true, d_t, d_f, ob_eta, ob_eta1, m_ltn, m_nlt, m_nle, m_len, m_ne, m_ne', k_mltT, k_mltF, k_mleT, k_mleF, k_meqT, k_meqF, m_neg], d, I3⟩
          · exact ⟨-nI 6, pk, zR1 S1 6, _, by simp (disch := omega) only [↓ob_some, ↓zm_some, ↓zm_none, ↓zg_true, ↓zg_in, ↓(ob_of a1), ↓(zg_of z1), ↓(ob_of r1), ↓(ob_of e1), om, ↓(ob_of rf), reduceIte, li, lo, k_leT, k_leF, k_ltT, k_ltF, k_eqT, k_eqF, c_cl, c_sub, nI_add, pk_mul, zin_nI, zg_true, ob_some, zm_none, zm_some, if_true, if_false, Bool.false_eq_true, d_t, d_f, ob_eta, ob_eta1, m_ltn, m_nlt, m_nle, m_len, m_ne, m_ne', k_mltT, k_mltF, k_mleT, k_mleF, k_meqT, k_meqF, m_neg], by simp (disch := omega) only [↓ob_some, ↓zm_some, ↓zm_none, ↓zg_true, ↓zg_in, ↓(ob_of b), M_X12_behind_B23, ↓(ob_of w3), M_X12_behind_B36, ↓(ob_of k1), ↓(ob_of k2), ↓(ob_of n3), M_X12_behind_B91, ↓(ob_of k6), om, rn, reduceIte, li, lo, k_leT, k_leF, k_ltT, k_ltF, k_eqT, k_eqF, c_cl, c_sub, nI_add, pk_mul, zin_nI, zg_true, ob_some, zm_none, zm_some, if_true, if_false, Bool.false_eq_true, d_t, d_f, ob_eta, ob_eta1, m_ltn, m_nlt, m_nle, m_len, m_ne, m_ne', k_mltT, k_mltF, k_mleT, k_mleF, k_meqT, k_meqF, m_neg], d, I3⟩
      · rw [if_neg e] at r1
        have b := b (zR1 S 6) (r1_a (by decide)) (r1_a (by decide))
        rw [if_neg e] at b
        have w3 := w3 (zR1 S 6)
        exact stg_no h 6 (by decide) (by decide) (by simp (disch := omega) only [↓ob_some, ↓zm_some, ↓zm_none, ↓zg_true, ↓zg_in, ↓(ob_of a1), ↓(zg_of z1), ↓(ob_of r1), reduceIte, li, lo, k_leT, k_leF, k_ltT, k_ltF, k_eqT, k_eqF, c_cl, c_sub, nI_add, pk_mul, zin_nI, zg_true, ob_some, zm_none, zm_some, if_true, if_false, Bool.false_eq_true, d_t, d_f, ob_eta, ob_eta1, m_ltn, m_nlt, m_nle, m_len, m_ne, m_ne', k_mltT, k_mltF, k_mleT, k_mleF, k_meqT, k_meqF, m_neg]) (by simp (disch := omega) only [↓ob_some, ↓zm_some, ↓zm_none, ↓zg_true, ↓zg_in, ↓(ob_of b), M_X12_behind_B23, ↓(ob_of w3), M_X12_behind_B36, reduceIte, li, lo, k_leT, k_leF, k_ltT, k_ltF, k_eqT, k_eqF, c_cl, c_sub, nI_add, pk_mul, zin_nI, zg_true, ob_some, zm_none, zm_some, if_true, if_false, Bool.false_eq_true, d_t, d_f, ob_eta, ob_eta1, m_ltn, m_nlt, m_nle, m_len, m_ne, m_ne', k_mltT, k_mltF, k_mleT, k_mleF, k_meqT, k_meqF, m_neg])
end TOL
