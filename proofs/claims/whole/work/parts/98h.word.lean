/-! A TEXT IS READ: signs, words, numbers, in both side by side -/
def wl (t : Nat) : Nat := zLen.getD t 0
def wb (t j : Nat) : Int32 := (zByt.getD t []).getD j 0
theorem wl_len (S : zSt) {t : Nat} (ht : t < 6) : M_J0_length_8abf5 S t = some (nI (wl t)) := by
  match t, ht with
  | 0, _ => rfl
  | 1, _ => rfl
  | 2, _ => rfl
  | 3, _ => rfl
  | 4, _ => rfl
  | 5, _ => rfl
theorem wl_7 : ∀ t, t < 6 → wl t < 7 := by decide
theorem wb_m1 : ∀ t, t < 6 → ∀ j, j < 7 → j < wl t → wb t j ≠ -nI 1 := by decide
def chK (v : Int32) : Bool := decide ((UInt32.toInt32 (UInt16.toUInt32 (UInt32.toUInt16 (Int32.toUInt32 ((UInt32.toInt32 (Int32.toUInt32 ((v &&& 255)) % 65536))))))) = (UInt32.toInt32 (Int32.toUInt32 ((v &&& 255)) % 65536)))
def chV (v : Int32) : Int32 := UInt32.toInt32 (Int32.toUInt32 ((v &&& 255)) % 65536)
theorem wb_k : ∀ t, t < 6 → ∀ j, j < 7 → j < wl t → chK (wb t j) = true ∧ chV (wb t j) = wb t j := by decide
theorem wb_ch (S : zSt) {t j : Nat} (ht : t < 6) (hj : j < wl t) : M_J0_charAt_5068e S t (nI j) = some (wb t j, S) := by
  have h7 := wl_7 t ht
  obtain ⟨k1, k2⟩ := wb_k t ht j (by omega) hj
  have k3 := k1
  unfold chK at k1
  unfold chV at k2
  have e0 : M_J0_isLatin1_aae02 S t = some (nI 1) := rfl
  have e1 : M_J0_checkIndex_df160 S (nI j) (nI (wl t)) = some S := by
    unfold M_J0_checkIndex_df160 M_J3_checkIndex_8e157
    simp (disch := omega) only [reduceIte, li, lo, k_leT, k_leF, k_ltT, k_ltF, k_eqT, k_eqF, c_cl, c_sub, nI_add, pk_mul, zin_nI, zg_true, ob_some, zm_none, zm_some, if_true, if_false, Bool.false_eq_true, d_t, d_f, ob_eta, ob_eta1, m_ltn, m_nlt, m_nle, m_len, m_ne, m_ne', k_mltT, k_mltF, k_mleT, k_mleF, k_meqT, k_meqF, m_neg, hj]
  have e2 : M_J1_charAt_3b067 S t (nI j) = some (wb t j, S) := by
    unfold M_J1_charAt_3b067
    show Option.bind (M_J0_checkIndex_df160 S (nI j) (nI (wl t))) _ = _
    rw [e1, ob_some]
    show zg (zin (nI j) (wl t)) _ = _
    rw [zg_in hj (by omega), c_cl (by omega)]
    show zg (chK (wb t j)) (some (chV (wb t j), S)) = _
    rw [k3, zg_true]
    unfold chV
    rw [k2]
  unfold M_J0_charAt_5068e
  rw [e0, ob_some, if_neg (by decide), e2, ob_some]
  unfold chK at k3
  rw [k2] at k3
  exact zg_of k3 _
section WRD
variable {P : Nat → Prop} {pk : Nat → Nat} {S S' T T' : zSt} {i j k f r L t t' : Nat} {a b : Int32} {tx : Nat → Int32}
/-- the text that is read, in either -/
def CT (tx : Nat → Int32) (L : Nat) (S : zSt) : Prop := zsc S 70 2 = nI L ∧ L ≤ 160 ∧ ∀ k, k < L → zar S 71 k = tx k
def TT (r : Nat) (tx : Nat → Int32) (L : Nat) (T : zSt) : Prop := zsc T 0 13 = nI r ∧ r < 8 ∧ zar T 2 r = nI L ∧ L ≤ 160 ∧ ∀ k, k < L → (zlo T 3 (160 * r + k)).toInt32 = tx k
def sg (tx : Nat → Int32) (L k : Nat) : Int32 := if k < L then tx k else -nI 1
def Ok (S : zSt) (k : Nat) : Prop := zsc S 70 3 = nI k ∧ zsc S 70 4 = -nI 1
def Bad (S : zSt) (f : Nat) : Prop := zsc S 70 4 = nI f ∧ f < 1000
def CF (S S' : zSt) : Prop := zFr (fun x => x = 70) S S' ∧ ∀ g, g ≠ 3 → g ≠ 4 → g ≠ 5 → zsc S' 70 g = zsc S 70 g
def TF (i : Nat) (T T' : zSt) : Prop := zFr (fun x => x = 0 ∨ x = 11) T T' ∧ (∀ g, g ≠ 14 → zsc T' 0 g = zsc T 0 g) ∧ ∀ j, j < 3 → j ≠ i → zar T' 11 j = zar T 11 j
theorem CF.rf : CF S S := ⟨zFr.rf, fun _ _ _ _ => rfl⟩
theorem CF.trans {S'' : zSt} (h : CF S S') (h' : CF S' S'') : CF S S'' := ⟨h.1.trans h'.1, fun g a b c => (h'.2 g a b c).trans (h.2 g a b c)⟩
theorem CF.ct (h : CF S S') (hc : CT tx L S) : CT tx L S' := ⟨(h.2 2 (by decide) (by decide) (by decide)).trans hc.1, hc.2.1, fun k hk => by rw [h.1.ar (by omega)]; exact hc.2.2 k hk⟩
theorem CF.p {g : Nat} {v : Int32} (hg : g = 3 ∨ g = 4 ∨ g = 5) : CF S (zP S 70 g v) := ⟨zFr_P rfl, fun g' a b c => by rw [p_y, if_neg (by omega)]⟩
theorem TF.rf : TF i T T := ⟨zFr.rf, fun _ _ => rfl, fun _ _ _ => rfl⟩
theorem TF.any (h : TF 3 T T') : TF i T T' := ⟨h.1, h.2.1, fun j a _ => h.2.2 j a (by omega)⟩
theorem TF.trans {T'' : zSt} (h : TF i T T') (h' : TF i T' T'') : TF i T T'' := ⟨h.1.trans h'.1, fun g a => (h'.2.1 g a).trans (h.2.1 g a), fun j a b => (h'.2.2 j a b).trans (h.2.2 j a b)⟩
theorem TF.tt (h : TF i T T') (hc : TT r tx L T) : TT r tx L T' := ⟨(h.2.1 13 (by decide)).trans hc.1, hc.2.1, by rw [h.1.ar (by omega)]; exact hc.2.2.1, hc.2.2.2.1, by rw [h.1.lo (by omega)]; exact hc.2.2.2.2⟩
theorem TF.p {v : Int32} : TF i T (zP T 0 14 v) := ⟨zFr_P (Or.inl rfl), fun g' a => by rw [p_y, if_neg a], fun _ _ _ => rfl⟩
theorem TF.as {v : Int32} : TF i T (zAs T 11 i v) := ⟨zFr_As (Or.inr rfl), fun g' a => rfl, fun j _ a => by rw [as_y, pk_un a]⟩
theorem l_sg (h : CT tx L S) (hk : k < 100000) : M_X6_letterAt pk S (nI k) = some (sg tx L k) := by
  obtain ⟨h1, h2, h3⟩ := h
  unfold M_X6_letterAt sg
  by_cases e : k < L
  · have e3 := h3 k e
    rw [if_pos e]
    simp (disch := omega) only [reduceIte, li, lo, k_leT, k_leF, k_ltT, k_ltF, k_eqT, k_eqF, c_cl, c_sub, nI_add, pk_mul, zin_nI, zg_true, ob_some, zm_none, zm_some, if_true, if_false, Bool.false_eq_true, d_t, d_f, ob_eta, ob_eta1, m_ltn, m_nlt, m_nle, m_len, m_ne, m_ne', k_mltT, k_mltF, k_mleT, k_mleF, k_meqT, k_meqF, m_neg, h1, e3, e]
  · rw [if_neg e]
    simp (disch := omega) only [reduceIte, li, lo, k_leT, k_leF, k_ltT, k_ltF, k_eqT, k_eqF, c_cl, c_sub, nI_add, pk_mul, zin_nI, zg_true, ob_some, zm_none, zm_some, if_true, if_false, Bool.false_eq_true, d_t, d_f, ob_eta, ob_eta1, m_ltn, m_nlt, m_nle, m_len, m_ne, m_ne', k_mltT, k_mltF, k_mleT, k_mleF, k_meqT, k_meqF, m_neg, h1, e]
theorem l_sgT (S : zSt) (x : Int32) : ∃ v, M_X6_letterAt pk S x = some v := by
  unfold M_X6_letterAt
  by_cases e1 : x < 0
  · exact ⟨_, if_pos e1⟩
  · rw [if_neg e1]
    by_cases e2 : zsc S 70 2 ≤ x
    · exact ⟨_, if_pos e2⟩
    · rw [if_neg e2]
      rcases ix x 160 (by decide) (by decide) with ⟨q, -⟩ | ⟨q1, -, q2, q3, q4, q5⟩ | ⟨k, hk, rfl⟩
      · exact absurd q e1
      · exact ⟨_, if_pos q2⟩
      · exact ⟨zar S 71 (nI k).toNatClampNeg, (if_neg (show ¬ nI 160 ≤ nI k from nI_ge hk (by omega))).trans (zg_in hk (by decide) _)⟩
theorem r_sg (h : TT r tx L T) (h14 : zsc T 0 14 = nI k) (hk : k < 100000) : M_X12_sign T = some (sg tx L k) := by
  obtain ⟨h1, h2, h3, h4, h5⟩ := h
  unfold M_X12_sign sg
  by_cases e : k < L
  · have e5 := h5 k e
    have e6 : zin (nI 160 * nI r + nI k) 1280 = true := by rw [pk_mul, nI_add]; exact zin_nI (by omega) (by decide)
    have e7 : (nI 160 * nI r + nI k).toNatClampNeg = 160 * r + k := by rw [pk_mul, nI_add]; exact c_cl (by omega)
    rw [if_pos e, h1, zg_in h2 (by decide), c_cl (by omega), h3, h14, if_neg (nI_ge e (by omega))]
    show zg (zin (nI 160 * nI r + nI k) 1280) (some (zlo T 3 (nI 160 * nI r + nI k).toNatClampNeg).toInt32) = _
    rw [e6, zg_true, e7, e5]
  · rw [if_neg e, h1, zg_in h2 (by decide), c_cl (by omega), h3, h14, if_pos (nI_le (by omega) (by omega))]
    rfl
theorem sg_lt (h : sg tx L k ≠ -nI 1) : k < L := by
  by_cases e : k < L
  · exact e
  · exact absurd (if_neg e) h
/-! one sign -/
theorem rl_bad (h : Bad S f) (c : Int32) : M_X6_readLetter pk S c = some S := by
  unfold M_X6_readLetter
  have e : ¬ zsc S 70 4 = -1 := by
    rw [h.1]
    exact fun q => by
      have := h.2
      rw [show (-1 : Int32) = -nI 1 from rfl, m_ne (by decide) (by decide) (by omega)] at q
      exact q
  rw [if_neg e]
theorem p_sign (hC : CT tx L S) (hT : TT r tx L T) (o : Ok S k) (h14 : zsc T 0 14 = nI k) (hk : k ≤ L) {c : Int32} (hc : c ≠ -nI 1) : ∃ S' T', M_X6_readLetter pk S c = some S' ∧ CF S S' ∧ TF 3 T T' ∧ ((Ok S' (k + 1) ∧ k < L ∧ zsc T' 0 14 = nI (k + 1) ∧ M_X12_is T c = some (nI 1, T')) ∨ (Bad S' k ∧ zsc T' 0 14 = nI k ∧ M_X12_is T c = some (nI 0, T'))) := by
  have hL := hC.2.1
  have e1 := l_sg (pk := pk) hC (k := k) (by omega)
  have e2 := r_sg hT h14 (by omega)
  unfold M_X6_readLetter M_X12_is
  have a4 : zsc S 70 4 = -1 := o.2
  rw [if_pos a4, o.1, e1, e2, ob_some, ob_some]
  by_cases e : sg tx L k = c
  · have kl : k < L := sg_lt (by rw [e]; exact hc)
    refine ⟨zP S 70 3 (nI (k + 1)), zP T 0 14 (nI (k + 1)), ?_, CF.p (Or.inl rfl), TF.p, Or.inl ⟨⟨by rw [p_y, if_pos rfl], by rw [p_y, if_neg (by decide)]; exact o.2⟩, kl, by rw [p_y, if_pos rfl], ?_⟩⟩
    · rw [if_pos e]; rw [show nI k + 1 = nI (k + 1) from nI_add k 1]
    · rw [if_pos e, h14]; rw [show nI k + 1 = nI (k + 1) from nI_add k 1]; rfl
  · refine ⟨zP S 70 4 (nI k), T, ?_, CF.p (Or.inr (Or.inl rfl)), TF.rf, Or.inr ⟨⟨by rw [p_y, if_pos rfl], by omega⟩, h14, ?_⟩⟩
    · rw [if_neg e]
    · rw [if_neg e]; rfl
/-! a word -/
theorem wd_bad (h : Bad S f) (ht : t < 6) : ∀ m j n, j + m = wl t → m < n → M_X6_readWord_B2 pk t n S (nI j) = some S := by
  have h7 := wl_7 t ht
  intro m
  induction m with
  | zero =>
    intro j n h1 h2
    obtain ⟨n, rfl⟩ : ∃ r, n = r + 1 := ⟨n - 1, by omega⟩
    rw [M_X6_readWord_B2, wl_len S ht, ob_some, if_pos (nI_le (by omega) (by omega))]
  | succ m ih =>
    intro j n h1 h2
    obtain ⟨n, rfl⟩ : ∃ r, n = r + 1 := ⟨n - 1, by omega⟩
    have := ih (j + 1) n (by omega) (by omega)
    rw [M_X6_readWord_B2, wl_len S ht, ob_some, if_neg (nI_ge (by omega) (by omega)), wb_ch S ht (by omega), ob_some, rl_bad h, ob_some, show nI j + 1 = nI (j + 1) from nI_add j 1]
    exact this
theorem p_word (ht : t < 6) (ht' : t' < 6) : ∀ m j j' n n' (S T : zSt) k, j + m = wl t → j' + m = wl t' → (∀ x, x < m → wb t (j + x) = wb t' (j' + x)) → m < n → m < n' → CT tx L S → TT r tx L T → Ok S k → zsc T 0 14 = nI k → k ≤ L → ∃ S' T', M_X6_readWord_B2 pk t n S (nI j) = some S' ∧ CF S S' ∧ TF 3 T T' ∧ ((Ok S' (k + m) ∧ k + m ≤ L ∧ zsc T' 0 14 = nI (k + m) ∧ M_X12_word_B2 t' n' T (nI j') = some (nI 1, T')) ∨ (∃ f, Bad S' f ∧ zsc T' 0 14 = nI f ∧ M_X12_word_B2 t' n' T (nI j') = some (nI 0, T'))) := by
  have h7 := wl_7 t ht
  have h7' := wl_7 t' ht'
  intro m
  induction m with
  | zero =>
    intro j j' n n' S T k h1 h2 h3 h4 h5 hC hT o h14 hk
    obtain ⟨n, rfl⟩ : ∃ r, n = r + 1 := ⟨n - 1, by omega⟩
    obtain ⟨n', rfl⟩ : ∃ r, n' = r + 1 := ⟨n' - 1, by omega⟩
    refine ⟨S, T, ?_, CF.rf, TF.rf, Or.inl ⟨o, hk, h14, ?_⟩⟩
    · rw [M_X6_readWord_B2, wl_len S ht, ob_some, if_pos (nI_le (by omega) (by omega))]
    · rw [M_X12_word_B2, wl_len T ht', ob_some, if_pos (nI_le (by omega) (by omega))]; rfl
  | succ m ih =>
    intro j j' n n' S T k h1 h2 h3 h4 h5 hC hT o h14 hk
    obtain ⟨n, rfl⟩ : ∃ r, n = r + 1 := ⟨n - 1, by omega⟩
    obtain ⟨n', rfl⟩ : ∃ r, n' = r + 1 := ⟨n' - 1, by omega⟩
    have hb : wb t' j' = wb t j := (h3 0 (by omega)).symm
    obtain ⟨S1, T1, e1, c1, f1, g⟩ := p_sign (pk := pk) hC hT o h14 hk (wb_m1 t ht j (by omega) (by omega))
    have el : M_X6_readWord_B2 pk t (n + 1) S (nI j) = M_X6_readWord_B2 pk t n S1 (nI (j + 1)) := by
      rw [M_X6_readWord_B2, wl_len S ht, ob_some, if_neg (nI_ge (by omega) (by omega)), wb_ch S ht (by omega), ob_some, e1, ob_some, show nI j + 1 = nI (j + 1) from nI_add j 1]
    rw [el]
    rcases g with ⟨o1, kl, z1, e2⟩ | ⟨b1, z1, e2⟩
    · obtain ⟨S2, T2, e3, c2, f2, g2⟩ := ih (j + 1) (j' + 1) n n' S1 T1 (k + 1) (by omega) (by omega) (fun x hx => by rw [show j + 1 + x = j + (x + 1) by omega, show j' + 1 + x = j' + (x + 1) by omega]; exact h3 _ (by omega)) (by omega) (by omega) (c1.ct hC) (f1.tt hT) o1 z1 (by omega)
      have er : M_X12_word_B2 t' (n' + 1) T (nI j') = M_X12_word_B2 t' n' T1 (nI (j' + 1)) := by
        rw [M_X12_word_B2, wl_len T ht', ob_some, if_neg (nI_ge (by omega) (by omega)), wb_ch T ht' (by omega), ob_some, hb, e2, ob_some]
        refine (if_neg (show ¬ nI 1 = nI 0 by decide)).trans ?_
        rw [show nI j' + 1 = nI (j' + 1) from nI_add j' 1]
      rw [er, show k + (m + 1) = k + 1 + m by omega]
      exact ⟨S2, T2, e3, c1.trans c2, f1.trans f2, g2⟩
    · refine ⟨S1, T1, wd_bad b1 ht m (j + 1) n (by omega) (by omega), c1, f1, Or.inr ⟨k, b1, z1, ?_⟩⟩
      rw [M_X12_word_B2, wl_len T ht', ob_some, if_neg (nI_ge (by omega) (by omega)), wb_ch T ht' (by omega), ob_some, hb, e2, ob_some]
      exact if_pos rfl
end WRD
