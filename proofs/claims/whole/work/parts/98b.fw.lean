section LIF2
variable {P : Nat → Prop} {pk : Nat → Nat} {S S' T : zSt} {i s p n : Nat} {d d' : zD} {v : Int32}
theorem l_fw2 {w : Nat → Nat} {s m : Nat} (hs : s < 8) (hm : m ≤ 160) (hi : i < 3) : ∀ (r z n : Nat) (S : zSt) (d : zD), z + r = m → r < n → OU i S d → KK d → (∀ S', zFr (fun k => k = 60 + 3 * i + 2) S S' → ∀ j, j < m → ∃ v, M_X7_intAt pk S' s (nI j) = some v ∧ tN v = w j) → ∃ S', M_X4_firstWrong_B44 pk i s n S (nI m) (nI z) = some (oI (sLf w z r d).1, S') ∧ zFr (fun k => k = 60 + 3 * i + 2) S S' := by
  intro r
  induction r with
  | zero =>
    intro z n S d h1 h2 hO K hw
    obtain ⟨n, rfl⟩ : ∃ k, n = k + 1 := ⟨n - 1, by omega⟩
    obtain rfl : z = m := by omega
    refine ⟨S, ?_, zFr.rf⟩
    rw [M_X4_firstWrong_B44]
    simp (disch := omega) only [reduceIte, li, lo, k_leT, k_leF, k_ltT, k_ltF, k_eqT, k_eqF, c_cl, c_sub, nI_add, pk_mul, zin_nI, zg_true, ob_some, zm_none, zm_some, if_true, if_false, Bool.false_eq_true, d_t, d_f, ob_eta, ob_eta1, m_ltn, m_nlt, m_nle, m_len, m_ne, m_ne', k_mltT, k_mltF, k_mleT, k_mleF, k_meqT, k_meqF, m_neg]
    rfl
  | succ r ih =>
    intro z n S d h1 h2 hO K hw
    obtain ⟨n, rfl⟩ : ∃ k, n = k + 1 := ⟨n - 1, by omega⟩
    obtain ⟨v, ta, hv⟩ := hw S zFr.rf z (by omega)
    have hn6 := K.1
    rcases l_canBeV pk K hO v with ⟨e1, cb⟩ | ⟨d', e1, cb⟩
    · rw [hv] at e1
      refine ⟨S, ?_, zFr.rf⟩
      rw [M_X4_firstWrong_B44]
      unfold sLf
      rw [e1]
      simp (disch := omega) only [↓ob_some, ↓zm_some, ↓zm_none, ↓zg_true, ↓zg_in, ↓(ob_of ta), ↓(ob_of cb), reduceIte, li, lo, k_leT, k_leF, k_ltT, k_ltF, k_eqT, k_eqF, c_cl, c_sub, nI_add, pk_mul, zin_nI, zg_true, ob_some, zm_none, zm_some, if_true, if_false, Bool.false_eq_true, d_t, d_f, ob_eta, ob_eta1, m_ltn, m_nlt, m_nle, m_len, m_ne, m_ne', k_mltT, k_mltF, k_mleT, k_mleF, k_meqT, k_meqF, m_neg]
      rfl
    · rw [hv] at e1
      have kk := hap_kk K e1
      rcases tN_c v with ⟨hn, e0⟩ | ⟨k, hk, rfl, e0⟩
      · exfalso
        rw [← hv, e0, hap_lo (by decide)] at e1
        cases e1
      · rw [e0] at hv
        rw [← hv] at e1
        by_cases c2 : 30000 ≤ k
        · rcases hap_inv e1 with ⟨-, x1, x2, x3⟩ | ⟨_, z2, _⟩ | ⟨_, z2, _⟩
          · obtain ⟨g, rfl⟩ : ∃ g, k = 30000 + g := ⟨k - 30000, by omega⟩
            rw [Nat.add_sub_cancel_left] at x1 x2 x3
            have es : nI (30000 + g) - nI 30000 = nI g := by rw [pk_sub c2, Nat.add_sub_cancel_left]
            have o := hO g (by omega)
            rw [if_pos x1] at o
            obtain ⟨S2, e3, f2⟩ := ih (z + 1) n (zAs S (60 + 3 * i + 2) (g) (nI (dou d (g) + 1))) d' (by omega) (by omega) (fun p hp => by
              rw [as_y, upd_a, x3]
              by_cases ep : p = g
              · rw [if_pos ep, ep, if_pos (show g < dn (dDie d g) from x1)]
                show _ = nI (if g = g then _ else _)
                rw [if_pos rfl]
              · rw [if_neg ep, hO p hp]
                by_cases e7 : p < dn d
                · rw [if_pos e7, if_pos (show p < dn (dDie d (g)) from e7)]
                  show _ = nI (if p = g then _ else _)
                  rw [if_neg ep]
                · rw [if_neg e7, if_neg (show ¬ p < dn (dDie d (g)) from e7)]) kk.1 (fun S' f j hj => hw S' ((zFr_As (P := fun k => k = 60 + 3 * i + 2) rfl).trans f) j hj)
            refine ⟨S2, ?_, (zFr_As (P := fun k => k = 60 + 3 * i + 2) rfl).trans f2⟩
            rw [M_X4_firstWrong_B44]
            unfold sLf
            rw [← hv, e1, ← e3]
            simp (disch := omega) only [↓ob_some, ↓zm_some, ↓zm_none, ↓zg_true, ↓zg_in, ↓(ob_of ta), ↓(ob_of cb), es, o, reduceIte, li, lo, k_leT, k_leF, k_ltT, k_ltF, k_eqT, k_eqF, c_cl, c_sub, nI_add, pk_mul, zin_nI, zg_true, ob_some, zm_none, zm_some, if_true, if_false, Bool.false_eq_true, d_t, d_f, ob_eta, ob_eta1, m_ltn, m_nlt, m_nle, m_len, m_ne, m_ne', k_mltT, k_mltF, k_mleT, k_mleF, k_meqT, k_meqF, m_neg]
          · omega
          · omega
        · obtain ⟨S2, e3, f2⟩ := ih (z + 1) n S d' (by omega) (by omega) (fun p hp => by rw [kk.2.2 (by omega), kk.2.1]; exact hO p hp) kk.1 hw
          refine ⟨S2, ?_, f2⟩
          rw [M_X4_firstWrong_B44]
          unfold sLf
          rw [← hv, e1]
          have ng : nI k - nI 30000 < nI 0 := pk_sneg (by decide) (by omega)
          simp (disch := omega) only [↓ob_some, ↓zm_some, ↓zm_none, ↓zg_true, ↓zg_in, ↓(ob_of ta), ↓(ob_of cb), ng, reduceIte, li, lo, k_leT, k_leF, k_ltT, k_ltF, k_eqT, k_eqF, c_cl, c_sub, nI_add, pk_mul, zin_nI, zg_true, ob_some, zm_none, zm_some, if_true, if_false, Bool.false_eq_true, d_t, d_f, ob_eta, ob_eta1, m_ltn, m_nlt, m_nle, m_len, m_ne, m_ne', k_mltT, k_mltF, k_mleT, k_mleF, k_meqT, k_meqF, m_neg]
          exact e3
theorem l_firstWrong {w : Nat → Nat} {s m : Nat} (h : LL i pk S d) (K : KK d) (hs : s < 8) (hm : m ≤ 160) (hi : i < 3) (hw : rowOk pk S s m w) : ∃ S', M_X4_firstWrong pk S i s (nI m) = some (oI (sLf w 0 m d).1, S') ∧ zFr (fun k => k = 60 + 3 * i + 2) S S' := by
  have hn6 := K.1
  have key := lpR (fun n (u : zSt) z => M_X4_firstWrong_B2 pk i s n u (nI m) z) (fun (u : Unit) _ => u) (fun z u _ => zFr (fun k => k = 60 + 3 * i + 2) S u ∧ ∀ p, p < z → zar u (60 + 3 * i + 2) p = nI (if p < dn d then dou d p else 6)) (fun _ o => ∃ S', o = some (oI (sLf w 0 m d).1, S') ∧ zFr (fun k => k = 60 + 3 * i + 2) S S') 6 (fun n u _ hR => by
      obtain ⟨S2, e3, f2⟩ := l_fw2 (pk := pk) hs hm hi m 0 zF u d (by omega) (by show _ < 4096; omega) hR.2 K (fun S' f j hj => hw S' (by rw [f.sc (by omega), hR.1.sc (by omega)]) (by rw [f.lo (by omega), hR.1.lo (by omega)]) j hj)
      refine ⟨S2, ?_, hR.1.trans f2⟩
      rw [← e3]
      simp (disch := omega) only [reduceIte, li, lo, k_leT, k_leF, k_ltT, k_ltF, k_eqT, k_eqF, c_cl, c_sub, nI_add, pk_mul, zin_nI, zg_true, ob_some, zm_none, zm_some, if_true, if_false, Bool.false_eq_true, d_t, d_f, ob_eta, ob_eta1, m_ltn, m_nlt, m_nle, m_len, m_ne, m_ne', k_mltT, k_mltF, k_mleT, k_mleF, k_meqT, k_meqF, m_neg, M_X4_firstWrong_B2]) (fun n u _ z hz hR => by
      have hL : LL i pk u d := h.fr hn6 hR.1 (by omega) (fun k a b => by omega)
      by_cases e : z < dn d
      · have pa := l_perY hL hn6 e
        have ok := (hL.pe e).ok (show 6 * i + z < 18 by omega)
        refine ⟨zAs u (60 + 3 * i + 2) z (nI (dou d z)), ⟨hR.1.trans (zFr_As rfl), fun p hp => ?_⟩, ?_⟩
        · rw [as_y, upd_a]
          by_cases ep : p = z
          · subst ep; rw [if_pos rfl, if_pos e]
          · rw [if_neg ep]; exact hR.2 p (by omega)
        · have ou := (hL.pe e).ou
          rw [M_X4_firstWrong_B2]
          unfold M_X4_firstWrong_B35
          simp (disch := omega) only [↓ob_some, ↓zm_some, ↓zm_none, ↓zg_true, ↓zg_in, ↓(ob_of pa), ↓(zg_of ok), ou, reduceIte, li, lo, k_leT, k_leF, k_ltT, k_ltF, k_eqT, k_eqF, c_cl, c_sub, nI_add, pk_mul, zin_nI, zg_true, ob_some, zm_none, zm_some, if_true, if_false, Bool.false_eq_true, d_t, d_f, ob_eta, ob_eta1, m_ltn, m_nlt, m_nle, m_len, m_ne, m_ne', k_mltT, k_mltF, k_mleT, k_mleF, k_meqT, k_meqF, m_neg]
      · have pa := l_perN hL (x := nI z) (Or.inr (nI_le (by omega) (by omega)))
        refine ⟨zAs u (60 + 3 * i + 2) z (nI 6), ⟨hR.1.trans (zFr_As rfl), fun p hp => ?_⟩, ?_⟩
        · rw [as_y, upd_a]
          by_cases ep : p = z
          · subst ep; rw [if_pos rfl, if_neg e]
          · rw [if_neg ep]; exact hR.2 p (by omega)
        · rw [M_X4_firstWrong_B2]
          unfold M_X4_firstWrong_B35
          simp (disch := omega) only [↓ob_some, ↓zm_some, ↓zm_none, ↓zg_true, ↓zg_in, ↓(ob_of pa), reduceIte, li, lo, k_leT, k_leF, k_ltT, k_ltF, k_eqT, k_eqF, c_cl, c_sub, nI_add, pk_mul, zin_nI, zg_true, ob_some, zm_none, zm_some, if_true, if_false, Bool.false_eq_true, d_t, d_f, ob_eta, ob_eta1, m_ltn, m_nlt, m_nle, m_len, m_ne, m_ne', k_mltT, k_mltF, k_mleT, k_mleF, k_meqT, k_meqF, m_neg]) 6 0 zF S () ⟨zFr.rf, fun p hp => absurd hp (Nat.not_lt_zero _)⟩ rfl (by decide)
  exact key
theorem l_liveTold {w : Nat → Nat} {s m : Nat} (hs : s < 8) (hm : m ≤ 160) (hi : i < 3) : ∀ (r z n : Nat) (S : zSt) (d : zD), z + r = m → r < n → LL i pk S d → KK d → PK pk S → (sLf w z r d).1 = none → rowOk pk S s m w → ∃ S', M_X4_liveTold_B2 pk i s n S (nI m) (nI z) = some S' ∧ LL i pk S' (sLf w z r d).2 ∧ KK (sLf w z r d).2 ∧ dn (sLf w z r d).2 = dn d ∧ PK pk S' ∧ zFr (zZ i) S S' := by
  intro r
  induction r with
  | zero =>
    intro z n S d h1 h2 hL K P0 _ hw
    obtain ⟨n, rfl⟩ : ∃ k, n = k + 1 := ⟨n - 1, by omega⟩
    obtain rfl : z = m := by omega
    refine ⟨S, ?_, hL, K, rfl, P0, zFr.rf⟩
    rw [M_X4_liveTold_B2]
    simp (disch := omega) only [reduceIte, li, lo, k_leT, k_leF, k_ltT, k_ltF, k_eqT, k_eqF, c_cl, c_sub, nI_add, pk_mul, zin_nI, zg_true, ob_some, zm_none, zm_some, if_true, if_false, Bool.false_eq_true, d_t, d_f, ob_eta, ob_eta1, m_ltn, m_nlt, m_nle, m_len, m_ne, m_ne', k_mltT, k_mltF, k_mleT, k_mleF, k_meqT, k_meqF, m_neg]
  | succ r ih =>
    intro z n S d h1 h2 hL K P0 hN hw
    have hn6 := K.1
    obtain ⟨n, rfl⟩ : ∃ k, n = k + 1 := ⟨n - 1, by omega⟩
    obtain ⟨v, ta, hv⟩ := hw S rfl rfl z (by omega)
    unfold sLf at hN ⊢
    cases e1 : sHap d (w z) with
    | none => rw [e1] at hN; cases hN
    | some d' =>
      rw [e1] at hN
      have kk := hap_kk K e1
      rcases tN_c v with ⟨hn, e0⟩ | ⟨k, hk, rfl, e0⟩
      · exfalso
        rw [← hv, e0, hap_lo (by decide)] at e1
        cases e1
      · rw [e0] at hv
        have fin : ∀ S1, M_X4_liveTold_B2 pk i s (n + 1) S (nI m) (nI z) = M_X4_liveTold_B2 pk i s n S1 (nI m) (nI (z + 1)) → LL i pk S1 d' → PK pk S1 → zFr (zZ i) S S1 → ∃ S', M_X4_liveTold_B2 pk i s (n + 1) S (nI m) (nI z) = some S' ∧ LL i pk S' (sLf w (z + 1) r d').2 ∧ KK (sLf w (z + 1) r d').2 ∧ dn (sLf w (z + 1) r d').2 = dn d ∧ PK pk S' ∧ zFr (zZ i) S S' := by
          intro S1 q1 q2 q3 q4
          obtain ⟨S', t1, t2, t3, t4, t5, t6⟩ := ih (z + 1) n S1 d' (by omega) (by omega) q2 kk.1 q3 hN (fun S'' a b => hw S'' (by rw [a, q4.sc (by unfold zZ; omega)]) (by rw [b, q4.lo (by unfold zZ; omega)]))
          exact ⟨S', q1.trans t1, t2, t3, t4.trans kk.2.1, t5, q4.trans t6⟩
        rw [← hv] at e1
        rcases hap_inv e1 with ⟨c2, x1, x2, rfl⟩ | ⟨c1, c2, p, m', f, hP, hM, hF, x1, x2, x3, x4, rfl⟩ | ⟨c1, c2, p, m', f, hP, hM, hF, x1, x2, x3, x4, x5, rfl⟩
        · have pa := l_perY hL hn6 x1
          have ok := (hL.pe x1).ok (show 6 * i + (k - 30000) < 18 by omega)
          have ou := (hL.pe x1).ou
          refine fin (zP S (100 + 4 * (6 * i + (k - 30000))) 8 (nI (dou d (k - 30000) + 1))) ?_ hL.die P0.die (zFr_P (by unfold zZ; omega))
          rw [M_X4_liveTold_B2]
          unfold M_X4_liveTold_B27 M_X4_liveTold_B53
          have es : nI k - nI 30000 = nI (k - 30000) := pk_sub c2
          simp (disch := omega) only [↓ob_some, ↓zm_some, ↓zm_none, ↓zg_true, ↓zg_in, ↓(ob_of ta), es, ↓(ob_of pa), ↓(zg_of ok), ou, reduceIte, li, lo, k_leT, k_leF, k_ltT, k_ltF, k_eqT, k_eqF, c_cl, c_sub, nI_add, pk_mul, zin_nI, zg_true, ob_some, zm_none, zm_some, if_true, if_false, Bool.false_eq_true, d_t, d_f, ob_eta, ob_eta1, m_ltn, m_nlt, m_nle, m_len, m_ne, m_ne', k_mltT, k_mltF, k_mleT, k_mleF, k_meqT, k_meqF, m_neg]
        · have pa := l_perY hL hn6 x1
          have ok := (hL.pe x1).ok (show 6 * i + p < 18 by omega)
          have q1 : k / 1000 - k / 1000 / 10 * 10 = p := by omega
          have q2 : k / 100 - k / 100 / 10 * 10 = m' := by omega
          have q3 : k - k / 100 * 100 = f := by omega
          obtain ⟨S1, r1, r2, r3, r4⟩ := l_press hL K P0 (p := p) x1 x3 (not_lt0 (k := f) (by omega))
          refine fin S1 ?_ r2 r4 r3
          rw [M_X4_liveTold_B2]
          unfold M_X4_liveTold_B27 M_X4_liveTold_B53
          simp (disch := omega) only [reduceIte, li, lo, k_leT, k_leF, k_ltT, k_ltF, k_eqT, k_eqF, c_cl, c_sub, nI_add, pk_mul, zin_nI, zg_true, ob_some, zm_none, zm_some, if_true, if_false, Bool.false_eq_true, d_t, d_f, ob_eta, ob_eta1, m_ltn, m_nlt, m_nle, m_len, m_ne, m_ne', k_mltT, k_mltF, k_mleT, k_mleF, k_meqT, k_meqF, m_neg, ta, k_div, q1, q2, q3, pa, ok, r1]
        · have pa := l_perY hL hn6 x1
          have ok := (hL.pe x1).ok (show 6 * i + p < 18 by omega)
          have q1 : k / 1000 - k / 1000 / 10 * 10 = p := by omega
          have q2 : k / 100 - k / 100 / 10 * 10 = m' := by omega
          have q3 : k - k / 100 * 100 = f := by omega
          obtain ⟨S1, r1, r2, r3, r4⟩ := l_rub hL hn6 P0 (p := p) x1 x3 x5
          refine fin S1 ?_ r2 r4 (r3.mono (fun k z => z.1))
          rw [M_X4_liveTold_B2]
          unfold M_X4_liveTold_B27 M_X4_liveTold_B53
          simp (disch := omega) only [reduceIte, li, lo, k_leT, k_leF, k_ltT, k_ltF, k_eqT, k_eqF, c_cl, c_sub, nI_add, pk_mul, zin_nI, zg_true, ob_some, zm_none, zm_some, if_true, if_false, Bool.false_eq_true, d_t, d_f, ob_eta, ob_eta1, m_ltn, m_nlt, m_nle, m_len, m_ne, m_ne', k_mltT, k_mltF, k_mleT, k_mleF, k_meqT, k_meqF, m_neg, ta, k_div, q1, q2, q3, pa, ok, r1]
end LIF2
