section NMB
variable {P : Nat → Prop} {pk : Nat → Nat} {S S' T T' : zSt} {i k k1 k2 f r L v g : Nat} {a b a' b' : Int32} {tx : Nat → Int32}
theorem cDig (c : Int32) : (c < nI 48) ∨ (¬ c < nI 48 ∧ nI 57 < c) ∨ ∃ g, g < 10 ∧ c = nI (48 + g) := by
  rcases cR c 48 57 (by decide) (by decide) with q | ⟨q1, q2, q3⟩ | ⟨j, h1, h2, rfl⟩
  · exact Or.inl q
  · exact Or.inr (Or.inl ⟨q1, q2⟩)
  · exact Or.inr (Or.inr ⟨j - 48, by omega, by rw [show 48 + (j - 48) = j by omega]⟩)
theorem l_digN (hC : CT tx L S) (h3 : zsc S 70 3 = nI k) (hk : k < 100000) (q : sg tx L k < nI 48 ∨ (¬ sg tx L k < nI 48 ∧ nI 57 < sg tx L k)) : M_X6_digitHere pk S = some (-nI 1) := by
  unfold M_X6_digitHere
  rw [h3, l_sg hC hk, ob_some]
  rcases q with q | ⟨q1, q2⟩
  · exact if_pos q
  · exact (if_neg q1).trans (if_pos q2)
theorem l_digY (hC : CT tx L S) (h3 : zsc S 70 3 = nI k) (hk : k < 100000) (hg : g < 10) (q : sg tx L k = nI (48 + g)) : M_X6_digitHere pk S = some (nI g) := by
  unfold M_X6_digitHere
  rw [h3, l_sg hC hk, ob_some, q]
  simp (disch := omega) only [reduceIte, li, lo, k_leT, k_leF, k_ltT, k_ltF, k_eqT, k_eqF, c_cl, c_sub, nI_add, pk_mul, zin_nI, zg_true, ob_some, zm_none, zm_some, if_true, if_false, Bool.false_eq_true, d_t, d_f, ob_eta, ob_eta1, m_ltn, m_nlt, m_nle, m_len, m_ne, m_ne', k_mltT, k_mltF, k_mleT, k_mleF, k_meqT, k_meqF, m_neg]
  rw [show 48 + g - 48 = g by omega]
theorem l_digT (S : zSt) : ∃ v, M_X6_digitHere pk S = some v := by
  unfold M_X6_digitHere
  obtain ⟨v, e⟩ := l_sgT (pk := pk) S (zsc S 70 3)
  rw [e, ob_some]
  by_cases q : v < 48
  · exact ⟨_, if_pos q⟩
  · by_cases q2 : 57 < v
    · exact ⟨_, (if_neg q).trans (if_pos q2)⟩
    · exact ⟨_, (if_neg q).trans (if_neg q2)⟩
theorem Bad.ne (h : Bad S f) : ¬ zsc S 70 4 = -1 := by
  rw [h.1]
  intro q
  have := h.2
  rw [show (-1 : Int32) = -nI 1 from rfl, m_ne (by decide) (by decide) (by omega)] at q
  exact q
theorem fa_bad (h : Bad S f) (x : Int32) : M_X6_faultAt pk S x = some S := if_neg h.ne
theorem fa_ok (h : zsc S 70 4 = -nI 1) (x : Int32) : M_X6_faultAt pk S x = some (zP S 70 4 x) := if_pos h
theorem nb_bad (h : Bad S f) (a b : Int32) : M_X6_readNumber pk S a b = some (-nI 1, S) := by
  obtain ⟨v, e⟩ := l_digT (pk := pk) S
  unfold M_X6_readNumber M_X6_readNumber_B24
  rw [rl_bad h, ob_some, e, ob_some, if_neg h.ne, fa_bad h]
  rfl
theorem b82 (h5 : zsc S 70 5 = nI k1) (h : k1 < 1000) (hv : v < 100) : ((nI v < a ∨ b < nI v) ∧ M_X6_readNumber_B82 pk S a b (nI v) = some (-nI 1, zP S 70 4 (nI k1)) ∧ Bad (zP S 70 4 (nI k1)) k1) ∨ (¬ nI v < a ∧ ¬ b < nI v ∧ M_X6_readNumber_B82 pk S a b (nI v) = some (nI v, S)) := by
  unfold M_X6_readNumber_B82 M_X6_readNumber_B92
  rw [h5]
  have bd : Bad (zP S 70 4 (nI k1)) k1 := ⟨by rw [p_y, if_pos rfl], h⟩
  by_cases q : nI v < a
  · exact Or.inl ⟨Or.inl q, if_pos q, bd⟩
  · by_cases q2 : b < nI v
    · exact Or.inl ⟨Or.inr q2, (if_neg q).trans (if_neg (Int32.not_le.mpr q2)), bd⟩
    · exact Or.inr ⟨q, q2, (if_neg q).trans (if_pos (Int32.not_lt.mp q2))⟩
theorem b77 (hi : i < 3) (h14 : zsc T 0 14 = nI k2) (h : k1 < k2) (h2 : k2 < 1000) : ((nI v < a ∨ b < nI v) → M_X12_number_B77 T (nI i) a b (nI k1) (nI v) = some (nI 0, zP (zAs T 11 i (nI v)) 0 14 (nI k1))) ∧ (¬ nI v < a → ¬ b < nI v → M_X12_number_B77 T (nI i) a b (nI k1) (nI v) = some (nI 1, zAs T 11 i (nI v))) := by
  have ne : ¬ nI k2 = nI k1 := by rw [c_eq (by omega) (by omega)]; omega
  have z0 : (decide ((nI 0 &&& 1) = nI 0)) = true := rfl
  have z1 : (decide ((nI 1 &&& 1) = nI 1)) = true := rfl
  constructor
  · intro q
    have w : M_X12_within (zAs T 11 i (nI v)) (nI v) a b = some (nI 0) := by
      rcases q with q | q
      · exact w_lo _ q
      · exact w_hi _ q
    unfold M_X12_number_B77
    rw [h14, if_neg ne, zg_in hi (by decide), c_cl (by omega), w, ob_some]
    exact (if_pos rfl).trans (zg_of z0 _)
  · intro q1 q2
    unfold M_X12_number_B77
    rw [h14, if_neg ne, zg_in hi (by decide), c_cl (by omega), w_in _ q1 q2, ob_some]
    exact (if_neg (show ¬ nI 1 = nI 0 by decide)).trans (zg_of z1 _)
theorem b20S (T : zSt) (h14 : zsc T 0 14 = nI (k1 + 2)) (hk : k1 < 1000) (n : Nat) (x : Int32) : M_X12_number_B20 (n + 1) T (nI i) a b (nI k1) x = M_X12_number_B77 T (nI i) a b (nI k1) x := by
  rw [M_X12_number_B20, h14, pk_sub (by omega), show k1 + 2 - k1 = 2 by omega]
  exact if_pos (by decide)
theorem b20N (hT : TT r tx L T) (h14 : zsc T 0 14 = nI k) (hk : k1 ≤ k) (hk2 : k < k1 + 2) (hk3 : k1 < 1000) (q : sg tx L k < nI 48 ∨ (¬ sg tx L k < nI 48 ∧ nI 57 < sg tx L k)) (n : Nat) (x : Int32) : M_X12_number_B20 (n + 1) T (nI i) a b (nI k1) x = M_X12_number_B77 T (nI i) a b (nI k1) x := by
  have s0 := r_sg hT h14 (by omega)
  have ne0 : ¬ nI 2 ≤ nI k - nI k1 := by rw [pk_sub hk, c_le (by decide) (by omega)]; omega
  rw [M_X12_number_B20, h14]
  refine (if_neg ne0).trans ?_
  rw [s0, ob_some]
  rcases q with q | ⟨q1, q2⟩
  · exact if_pos q
  · refine (if_neg q1).trans ?_
    rw [ob_some]
    exact if_pos q2
theorem b20Y (hT : TT r tx L T) (h14 : zsc T 0 14 = nI k) (hk : k1 ≤ k) (hk2 : k < k1 + 2) (hk3 : k1 < 1000) (hg : g < 10) (hv : v < 10) (q : sg tx L k = nI (48 + g)) (n : Nat) : M_X12_number_B20 (n + 1) T (nI i) a b (nI k1) (nI v) = M_X12_number_B20 n (zP T 0 14 (nI (k + 1))) (nI i) a b (nI k1) (nI (10 * v + g)) := by
  have s0 := r_sg hT h14 (by omega)
  have ne0 : ¬ nI 2 ≤ nI k - nI k1 := by rw [pk_sub hk, c_le (by decide) (by omega)]; omega
  have ev : nI 10 * nI v + nI (48 + g) - nI 48 = nI (10 * v + g) := by
    rw [pk_mul, nI_add, pk_sub (by omega), show 10 * v + (48 + g) - 48 = 10 * v + g by omega]
  rw [M_X12_number_B20, h14]
  refine (if_neg ne0).trans ?_
  rw [s0, ob_some, q]
  refine (if_neg (show ¬ nI (48 + g) < nI 48 from nI_nlt (by omega) (by omega))).trans ?_
  rw [ob_some]
  refine (if_neg (show ¬ nI 57 < nI (48 + g) from nI_nlt (by omega) (by omega))).trans ?_
  rw [ob_some, ob_some]
  rw [show nI k + 1 = nI (k + 1) from nI_add k 1, show (10 : Int32) * nI v + nI (48 + g) - 48 = nI (10 * v + g) from ev]
theorem p_num0 (hC : CT tx L S) (hT : TT r tx L T) (o : Ok S k) (h14 : zsc T 0 14 = nI k) (hk : k ≤ L) (hi : i < 3) (a b a' b' : Int32) : (∃ f S' T', M_X6_readNumber pk S a b = some (-nI 1, S') ∧ CF S S' ∧ Bad S' f ∧ TF i T T' ∧ M_X12_number T (nI i) a' b' = some (nI 0, T') ∧ zsc T' 0 14 = nI f) ∨ (∃ v k2 S' T', v < 100 ∧ k + 1 < k2 ∧ k2 ≤ L ∧ CF S S' ∧ Ok S' k2 ∧ zsc S' 70 5 = nI (k + 1) ∧ TF i T T' ∧ zsc T' 0 14 = nI k2 ∧ M_X6_readNumber pk S a b = M_X6_readNumber_B82 pk S' a b (nI v) ∧ M_X12_number T (nI i) a' b' = M_X12_number_B77 T' (nI i) a' b' (nI (k + 1)) (nI v)) := by
  have hL := hC.2.1
  obtain ⟨S1, T1, e1, c1, f1, q⟩ := p_sign (pk := pk) hC hT o h14 hk (c := nI 32) (by decide)
  have f1' : TF i T T1 := f1.any
  rcases q with ⟨o1, kl, z1, e2⟩ | ⟨b1, z1, e2⟩
  · have hC1 := c1.ct hC
    have hT1 := f1.tt hT
    have s0 := r_sg hT1 z1 (by omega)
    have en : M_X12_number T (nI i) a' b' = M_X12_number_B20 zF T1 (nI i) a' b' (nI (k + 1)) (nI 0) := by
      unfold M_X12_number
      rw [show (32 : Int32) = nI 32 from rfl, e2, ob_some]
      refine (if_neg (show ¬ nI 1 = nI 0 by decide)).trans ?_
      rw [z1]
      rfl
    have el : ∀ w2, M_X6_digitHere pk S1 = some w2 → M_X6_readNumber pk S a b = (if w2 = (-1) then M_X6_readNumber_B24 pk S1 else Option.bind (M_X6_digitHere pk (zP (zP S1 70 5 (nI (k + 1))) 70 3 (nI (k + 2)))) (fun w6 => (if w6 = (-1) then M_X6_readNumber_B82 pk (zP (zP S1 70 5 (nI (k + 1))) 70 3 (nI (k + 2))) a b w2 else M_X6_readNumber_B82 pk (zP (zP (zP S1 70 5 (nI (k + 1))) 70 3 (nI (k + 2))) 70 3 (nI (k + 3))) a b ((10 : Int32) * w2 + w6)))) := by
      intro w2 e
      unfold M_X6_readNumber
      rw [show (32 : Int32) = nI 32 from rfl, e1, ob_some, e, ob_some]
      refine (if_pos o1.2).trans ?_
      have y1 : zsc S1 70 3 = nI (k + 1) := o1.1
      have y2 : zsc (zP S1 70 5 (nI (k + 1))) 70 3 + 1 = nI (k + 2) := by
        rw [p_y, if_neg (by decide), y1]; exact nI_add (k + 1) 1
      have y3 : zsc (zP (zP S1 70 5 (nI (k + 1))) 70 3 (nI (k + 2))) 70 3 + 1 = nI (k + 3) := by
        rw [p_y, if_pos rfl]; exact nI_add (k + 2) 1
      rw [y1, y2, y3]
      rfl
    obtain ⟨n, hn⟩ : ∃ n, zF = n + 3 := ⟨4093, rfl⟩
    rw [en, hn]
    have cA : CF S1 (zP (zP S1 70 5 (nI (k + 1))) 70 3 (nI (k + 2))) := (CF.p (Or.inr (Or.inr rfl))).trans (CF.p (Or.inl rfl))
    have hCA := cA.ct hC1
    have fA : TF i T1 (zP T1 0 14 (nI (k + 2))) := TF.p
    have hTA := fA.tt hT1
    have zA : zsc (zP T1 0 14 (nI (k + 2))) 0 14 = nI (k + 2) := by rw [p_y, if_pos rfl]
    have yA : zsc (zP (zP S1 70 5 (nI (k + 1))) 70 3 (nI (k + 2))) 70 3 = nI (k + 2) := by rw [p_y, if_pos rfl]
    have oA : ∀ x, Ok (zP (zP S1 70 5 (nI (k + 1))) 70 3 (nI x)) x := fun x => ⟨by rw [p_y, if_pos rfl], by rw [p_y, if_neg (by decide), p_y, if_neg (by decide)]; exact o1.2⟩
    have n5 : zsc (zP (zP S1 70 5 (nI (k + 1))) 70 3 (nI (k + 2))) 70 5 = nI (k + 1) := by rw [p_y, if_neg (by decide), p_y, if_pos rfl]
    have non : (sg tx L (k + 1) < nI 48 ∨ (¬ sg tx L (k + 1) < nI 48 ∧ nI 57 < sg tx L (k + 1))) → (∃ f S' T', M_X6_readNumber pk S a b = some (-nI 1, S') ∧ CF S S' ∧ Bad S' f ∧ TF i T T' ∧ M_X12_number_B20 (n + 3) T1 (nI i) a' b' (nI (k + 1)) (nI 0) = some (nI 0, T') ∧ zsc T' 0 14 = nI f) := by
      intro q
      refine ⟨k + 1, zP S1 70 4 (nI (k + 1)), T1, ?_, c1.trans (CF.p (Or.inr (Or.inl rfl))), ⟨by rw [p_y, if_pos rfl], by omega⟩, f1', ?_, z1⟩
      · rw [el _ (l_digN hC1 o1.1 (by omega) q)]
        refine (if_pos rfl).trans ?_
        unfold M_X6_readNumber_B24
        rw [fa_ok o1.2, ob_some, o1.1]
        rfl
      · rw [b20N hT1 z1 (Nat.le_refl _) (by omega) (by omega) q (n + 2)]
        unfold M_X12_number_B77
        rw [z1]
        exact if_pos rfl
    have two : ∀ g, g < 10 → sg tx L (k + 1) = nI (48 + g) → (sg tx L (k + 2) < nI 48 ∨ (¬ sg tx L (k + 2) < nI 48 ∧ nI 57 < sg tx L (k + 2))) → (M_X6_readNumber pk S a b = M_X6_readNumber_B82 pk (zP (zP S1 70 5 (nI (k + 1))) 70 3 (nI (k + 2))) a b (nI g) ∧ M_X12_number_B20 (n + 3) T1 (nI i) a' b' (nI (k + 1)) (nI 0) = M_X12_number_B77 (zP T1 0 14 (nI (k + 2))) (nI i) a' b' (nI (k + 1)) (nI g)) := by
      intro g hg eg q
      constructor
      · rw [el _ (l_digY hC1 o1.1 (by omega) hg eg), l_digN hCA yA (by omega) q, ob_some]
        refine (if_neg (show ¬ nI g = -nI 1 by rw [m_ne (by decide) (by decide) (by omega)]; exact id)).trans ?_
        exact if_pos rfl
      · rw [b20Y hT1 z1 (Nat.le_refl _) (by omega) (by omega) hg (by decide) eg (n + 2), show 10 * 0 + g = g by omega]
        exact b20N hTA zA (by omega) (by omega) (by omega) q (n + 1) _
    rcases cDig (sg tx L (k + 1)) with q | q | ⟨g, hg, eg⟩
    · exact Or.inl (non (Or.inl q))
    · exact Or.inl (non (Or.inr q))
    · have l1 : k + 1 < L := sg_lt (by rw [eg, ne_eq, m_ne (by decide) (by decide) (by omega)]; exact id)
      rcases cDig (sg tx L (k + 2)) with q | q | ⟨g2, hg2, eg2⟩
      · exact Or.inr ⟨g, k + 2, _, _, by omega, by omega, by omega, c1.trans cA, oA _, n5, f1'.trans fA, zA, (two g hg eg (Or.inl q)).1, (two g hg eg (Or.inl q)).2⟩
      · exact Or.inr ⟨g, k + 2, _, _, by omega, by omega, by omega, c1.trans cA, oA _, n5, f1'.trans fA, zA, (two g hg eg (Or.inr q)).1, (two g hg eg (Or.inr q)).2⟩
      · have l2 : k + 2 < L := sg_lt (by rw [eg2, ne_eq, m_ne (by decide) (by decide) (by omega)]; exact id)
        refine Or.inr ⟨10 * g + g2, k + 3, zP (zP (zP S1 70 5 (nI (k + 1))) 70 3 (nI (k + 2))) 70 3 (nI (k + 3)), zP (zP T1 0 14 (nI (k + 2))) 0 14 (nI (k + 3)), by omega, by omega, by omega, (c1.trans cA).trans (CF.p (Or.inl rfl)), ⟨by rw [p_y, if_pos rfl], by rw [p_y, if_neg (by decide)]; exact (oA _).2⟩, by rw [p_y, if_neg (by decide)]; exact n5, (f1'.trans fA).trans TF.p, by rw [p_y, if_pos rfl], ?_, ?_⟩
        · rw [el _ (l_digY hC1 o1.1 (by omega) hg eg), l_digY hCA yA (by omega) hg2 eg2, ob_some]
          refine (if_neg (show ¬ nI g = -nI 1 by rw [m_ne (by decide) (by decide) (by omega)]; exact id)).trans ?_
          refine (if_neg (show ¬ nI g2 = -nI 1 by rw [m_ne (by decide) (by decide) (by omega)]; exact id)).trans ?_
          rw [show (10 : Int32) * nI g + nI g2 = nI (10 * g + g2) from by rw [show (10 : Int32) = nI 10 from rfl, pk_mul, nI_add]]
        · rw [b20Y hT1 z1 (Nat.le_refl _) (by omega) (by omega) hg (by decide) eg (n + 2), show 10 * 0 + g = g by omega, b20Y hTA zA (by omega) (by omega) (by omega) hg2 hg eg2 (n + 1)]
          exact b20S _ (by rw [p_y, if_pos rfl]) (by omega) n _
  · refine Or.inl ⟨k, S1, T1, ?_, c1, b1, f1', ?_, z1⟩
    · obtain ⟨v, e⟩ := l_digT (pk := pk) S1
      unfold M_X6_readNumber M_X6_readNumber_B24
      rw [show (32 : Int32) = nI 32 from rfl, e1, ob_some, e, ob_some, if_neg b1.ne, fa_bad b1]
      rfl
    · unfold M_X12_number
      rw [show (32 : Int32) = nI 32 from rfl, e2, ob_some]
      exact if_pos rfl
theorem p_num (hC : CT tx L S) (hT : TT r tx L T) (o : Ok S k) (h14 : zsc T 0 14 = nI k) (hk : k ≤ L) (hi : i < 3) (a b : Int32) : ∃ S' T', CF S S' ∧ TF i T T' ∧ ((∃ f, M_X6_readNumber pk S a b = some (-nI 1, S') ∧ Bad S' f ∧ M_X12_number T (nI i) a b = some (nI 0, T') ∧ zsc T' 0 14 = nI f) ∨ (∃ v k2, v < 100 ∧ k < k2 ∧ k2 ≤ L ∧ ¬ nI v < a ∧ ¬ b < nI v ∧ M_X6_readNumber pk S a b = some (nI v, S') ∧ Ok S' k2 ∧ zsc S' 70 5 = nI (k + 1) ∧ M_X12_number T (nI i) a b = some (nI 1, T') ∧ zsc T' 0 14 = nI k2 ∧ zar T' 11 i = nI v)) := by
  have hL := hC.2.1
  rcases p_num0 (pk := pk) hC hT o h14 hk hi a b a b with ⟨f, S1, T1, e1, c1, b1, f1, e2, z1⟩ | ⟨v, k2, S1, T1, v1, v2, v3, c1, o1, n5, f1, z1, e1, e2⟩
  · exact ⟨S1, T1, c1, f1, Or.inl ⟨f, e1, b1, e2, z1⟩⟩
  · obtain ⟨q1, q2⟩ := b77 (T := T1) (a := a) (b := b) (v := v) hi z1 v2 (by omega)
    rcases b82 (pk := pk) (a := a) (b := b) n5 (by omega) v1 with ⟨x1, x2, x3⟩ | ⟨x1, x2, x3⟩
    · refine ⟨_, _, c1.trans (CF.p (Or.inr (Or.inl rfl))), (f1.trans TF.as).trans TF.p, Or.inl ⟨k + 1, e1.trans x2, x3, e2.trans (q1 x1), by rw [p_y, if_pos rfl]⟩⟩
    · refine ⟨S1, _, c1, f1.trans TF.as, Or.inr ⟨v, k2, v1, by omega, v3, x1, x2, e1.trans x3, o1, n5, e2.trans (q2 x1 x2), z1, by rw [as_y, pk_us]⟩⟩
end NMB
