/-! PERSONS THAT ARE MADE, or taken from another land -/
theorem upd_a {f : Nat → Int32} {k j : Nat} {x : Int32} : upd f k x j = if j = k then x else f j := rfl
theorem zcn_k {k : Nat} (h : k ≤ 6) : zcn (nI k) = kcn k := seven (P := fun k => zcn (nI k) = kcn k) rfl rfl rfl rfl rfl rfl rfl h
theorem kcn_0 (k : Nat) : kcn k ≠ 0 := by
  rcases kc_lt k with e | e | e | e | e | e | e <;> rw [e] <;> decide
theorem kcn_inj {k j : Nat} (hk : k ≤ 6) (hj : j ≤ 6) (h : kcn k = kcn j) : k = j := by
  revert h
  revert hj
  revert j
  refine seven (P := fun k => ∀ {j : Nat}, j ≤ 6 → kcn k = kcn j → k = j) ?_ ?_ ?_ ?_ ?_ ?_ ?_ hk <;> intro j hj <;> refine seven (P := fun j => kcn _ = kcn j → _ = j) ?_ ?_ ?_ ?_ ?_ ?_ ?_ hj <;> decide
theorem new_s {S : zSt} {q : Nat} {kd nu : Int32} : zsc (zNewS S q kd nu) (100 + 4 * q) = fun f => if f = 0 then kd else if f = 1 then nu else if f = 7 then 1 else 0 := if_pos rfl
theorem dec11 : decide (1 ≤ 1) = true := nr rfl
def dAdd (d : zD) (k : Nat) (a t : Int32) : zD := (dn d + 1, fun p => if p = dn d then k else dk d p, fun p => if p = dn d then 0 else dou d p, dle d, dse d, fun p j => if p = dn d then (if j = 60 then a else if j = 61 then t else 0) else dv d p j)
/-- the cells of one place -/
def zC (q k : Nat) : Prop := 100 + 4 * q ≤ k ∧ k < 104 + 4 * q
section GRO
variable {P : Nat → Prop} {pk pk' : Nat → Nat} {S S' T : zSt} {i j q q0 q1 p n k : Nat} {d d' : zD} {a t : Int32}
theorem LL.mv (h : LL j pk S d) (hn : dn d ≤ 6) (hf : zFr P S S') (h0 : ¬ P (60 + 3 * j)) (hP : ∀ k, 100 + 24 * j ≤ k → k < 124 + 24 * j → ¬ P k) (hk : ∀ q, 6 * j ≤ q → q < 6 * j + 6 → pk' q = pk q) : LL j pk' S' d := by
  obtain ⟨a, b, c, e⟩ := h.fr hn hf h0 hP
  refine ⟨a, b, c, fun p hp => ?_⟩
  have := e p hp
  exact ⟨(hk _ (by omega) (by omega)).trans this.1, this.2⟩
/-- place q holds an own person of the kind k -/
def Pl (pk : Nat → Nat) (S : zSt) (q k : Nat) : Prop := pk q = kcn k ∧ zsc S (100 + 4 * q) 0 = nI k ∧ zsc S (100 + 4 * q) 1 = nI (q % 6)
theorem l_placeFor (P0 : PK pk S) (hi : i < 3) (hp : p < 6) (hk : k ≤ 6) : ∃ pk' S', M_X4_placeFor pk S i (nI p) (nI k) = some (some (6 * i + p), pk', S') ∧ PK pk' S' ∧ Pl pk' S' (6 * i + p) k ∧ zFr (zC (6 * i + p)) S S' ∧ ∀ q, q ≠ 6 * i + p → pk' q = pk q := by
  have hq : 6 * i + p < 18 := by omega
  have hm : (6 * i + p) % 6 = p := by omega
  have new : ∃ pk' S', M_X4_placeFor_B33 pk S i (nI p) (nI k) = some (some (6 * i + p), pk', S') ∧ PK pk' S' ∧ Pl pk' S' (6 * i + p) k ∧ zFr (zC (6 * i + p)) S S' ∧ ∀ q, q ≠ 6 * i + p → pk' q = pk q := by
    have hf : zFr (zC (6 * i + p)) S (zNewS S (6 * i + p) (nI k) (nI p)) := by
      intro c hc
      unfold zC at hc
      refine ⟨if_neg (by omega), if_neg (by omega), rfl⟩
    have hpl : Pl (zMkP pk (6 * i + p) (zcn (nI k))) (zNewS S (6 * i + p) (nI k) (nI p)) (6 * i + p) k := by
      refine ⟨(if_pos rfl).trans (zcn_k hk), ?_, ?_⟩
      · rw [new_s]; rfl
      · rw [new_s, hm]; rfl
    have hpk : ∀ q, q ≠ 6 * i + p → zMkP pk (6 * i + p) (zcn (nI k)) q = pk q := fun q e => if_neg e
    refine ⟨zMkP pk (6 * i + p) (zcn (nI k)), zNewS S (6 * i + p) (nI k) (nI p), ?_, fun q hq' => ?_, hpl, hf, hpk⟩
    · unfold M_X4_placeFor_B33
      rw [c_cl (by omega)]
    · by_cases e : q = 6 * i + p
      · subst e; exact Or.inr ⟨k, hk, hpl.1, hpl.2.1, hpl.2.2⟩
      · rw [hpk q e, hf.sc (by unfold zC; omega)]
        exact P0 q hq'
  unfold M_X4_placeFor
  rw [c_cl (by omega)]
  rcases P0 _ hq with e | ⟨k', hk', e, e0, e1⟩
  · obtain ⟨pk', S', h1, h2⟩ := new
    refine ⟨pk', S', ?_, h2⟩
    have w : zwho pk (6 * i + p) = none := if_pos e
    rw [← h1]
    simp (disch := omega) only [reduceIte, li, lo, k_leT, k_leF, k_ltT, k_ltF, k_eqT, k_eqF, c_cl, c_sub, nI_add, pk_mul, zin_nI, zg_true, ob_some, zm_none, zm_some, if_true, if_false, Bool.false_eq_true, d_t, d_f, ob_eta, ob_eta1, m_ltn, m_nlt, m_nle, m_len, m_ne, m_ne', k_mltT, k_mltF, k_mleT, k_mleF, k_meqT, k_meqF, m_neg, w]
  · have w : zwho pk (6 * i + p) = some (6 * i + p) := if_neg (by rw [e]; exact kcn_0 k')
    have ok := okb hq e
    by_cases ek : k' = k
    · subst ek
      refine ⟨pk, S, ?_, P0, ⟨e, e0, e1⟩, zFr.rf, fun _ _ => rfl⟩
      simp (disch := omega) only [reduceIte, li, lo, k_leT, k_leF, k_ltT, k_ltF, k_eqT, k_eqF, c_cl, c_sub, nI_add, pk_mul, zin_nI, zg_true, ob_some, zm_none, zm_some, if_true, if_false, Bool.false_eq_true, d_t, d_f, ob_eta, ob_eta1, m_ltn, m_nlt, m_nle, m_len, m_ne, m_ne', k_mltT, k_mltF, k_mleT, k_mleF, k_meqT, k_meqF, m_neg, w, ok, e0]
    · obtain ⟨pk', S', h1, h2⟩ := new
      refine ⟨pk', S', ?_, h2⟩
      rw [← h1]
      simp (disch := omega) only [reduceIte, li, lo, k_leT, k_leF, k_ltT, k_ltF, k_eqT, k_eqF, c_cl, c_sub, nI_add, pk_mul, zin_nI, zg_true, ob_some, zm_none, zm_some, if_true, if_false, Bool.false_eq_true, d_t, d_f, ob_eta, ob_eta1, m_ltn, m_nlt, m_nle, m_len, m_ne, m_ne', k_mltT, k_mltF, k_mleT, k_mleF, k_meqT, k_meqF, m_neg, w, ok, e0]
theorem l_begin (S : zSt) (q : Nat) (a t : Int32) : ∃ S', M_X5_begin pk S q a t = some S' ∧ zFr (zC q) S S' ∧ (∀ f, f < 6 → zsc S' (100 + 4 * q) f = zsc S (100 + 4 * q) f) ∧ zsc S' (100 + 4 * q) 6 = a ∧ zsc S' (100 + 4 * q) 7 = t ∧ zsc S' (100 + 4 * q) 8 = nI 0 ∧ (∀ j, j < 48 → zar S' (100 + 4 * q + 1) j = 0) ∧ (∀ j, j < 6 → zar S' (100 + 4 * q + 2) j = 0) ∧ ∀ j, j < 6 → zar S' (100 + 4 * q + 3) j = 0 := by
  obtain ⟨S1, e1, f1, g1⟩ := l_fillI (100 + 4 * q + 1) 48 0 (by decide) (zP (zP (zP S (100 + 4 * q) 6 a) (100 + 4 * q) 7 t) (100 + 4 * q) 8 0)
  obtain ⟨S2, e2, f2, g2⟩ := l_fillI (100 + 4 * q + 2) 6 0 (by decide) S1
  obtain ⟨S3, e3, f3, g3⟩ := l_fillI (100 + 4 * q + 3) 6 0 (by decide) S2
  have F : zFr (zC q) S (zP (zP (zP S (100 + 4 * q) 6 a) (100 + 4 * q) 7 t) (100 + 4 * q) 8 0) := ((zFr_P (by unfold zC; omega)).trans (zFr_P (by unfold zC; omega))).trans (zFr_P (by unfold zC; omega))
  have c0 : zsc S3 (100 + 4 * q) = zsc (zP (zP (zP S (100 + 4 * q) 6 a) (100 + 4 * q) 7 t) (100 + 4 * q) 8 0) (100 + 4 * q) := by
    rw [f3.sc (by omega), f2.sc (by omega), f1.sc (by omega)]
  refine ⟨S3, ?_, ((F.trans (f1.mono (fun k z => by unfold zC; omega))).trans (f2.mono (fun k z => by unfold zC; omega))).trans (f3.mono (fun k z => by unfold zC; omega)), fun f hf => ?_, ?_, ?_, ?_, fun j hj => ?_, fun j hj => ?_, g3⟩
  · unfold M_X5_begin
    rw [e1, ob_some, e2, ob_some, e3, ob_some]
  · rw [c0, p_y, if_neg (by omega), p_y, if_neg (by omega), p_y, if_neg (by omega)]
  · rw [c0, p_y, if_neg (by decide), p_y, if_neg (by decide), p_y, if_pos rfl]
  · rw [c0, p_y, if_neg (by decide), p_y, if_pos rfl]
  · rw [c0, p_y, if_pos rfl]; rfl
  · rw [f3.ar (by omega), f2.ar (by omega)]; exact g1 j hj
  · rw [f3.ar (by omega)]; exact g2 j hj
theorem dAdd_v {p j : Nat} (h : p ≠ dn d) : dv (dAdd d k a t) p j = dv d p j := if_neg h
theorem dAdd_n {j : Nat} (h : j < 60) : dv (dAdd d k a t) (dn d) j = 0 := by
  show (if dn d = dn d then _ else _) = _
  rw [if_pos rfl, if_neg (by omega), if_neg (by omega)]
theorem Lp.add (h : Lp pk S q d p) (hp : p < dn d) : Lp pk S q (dAdd d k a t) p := by
  have e : p ≠ dn d := by omega
  have e1 : dk (dAdd d k a t) p = dk d p := if_neg e
  have e2 : dou (dAdd d k a t) p = dou d p := if_neg e
  unfold Lp
  simp only [dAdd_v e, e1, e2]
  exact h
theorem Rp.add (h : Rp T d p) (hp : p < dn d) : Rp T (dAdd d k a t) p := by
  have e : p ≠ dn d := by omega
  have e1 : dk (dAdd d k a t) p = dk d p := if_neg e
  have e2 : dou (dAdd d k a t) p = dou d p := if_neg e
  unfold Rp
  simp only [dAdd_v e, e1, e2]
  exact h
theorem KK.add (K : KK d) (hn : dn d < 6) (hk : k ≤ 6) (ha : n ≤ 9) : KK (dAdd d k (nI n) t) := by
  refine ⟨by show dn d + 1 ≤ 6; omega, K.2.1, fun p hp => ?_⟩
  by_cases e : p = dn d
  · subst e
    refine ⟨?_, ?_, n, ha, ?_⟩
    · show (if dn d = dn d then _ else _) ≤ 6
      rw [if_pos rfl]; exact hk
    · show (if dn d = dn d then _ else _) ≤ 6
      rw [if_pos rfl]; decide
    · show (if dn d = dn d then _ else _) = _
      rw [if_pos rfl, if_pos rfl]
  · have hp : p < dn d + 1 := hp
    obtain ⟨x, y, z⟩ := K.pe (p := p) (by omega)
    have e1 : dk (dAdd d k (nI n) t) p = dk d p := if_neg e
    have e2 : dou (dAdd d k (nI n) t) p = dou d p := if_neg e
    exact ⟨by rw [e1]; exact x, by rw [e2]; exact y, by rw [dAdd_v e]; exact z⟩
def zL1 (i k : Nat) : Prop := k = 60 + 3 * i ∨ zZ i k
theorem l_add (h : LL i pk S d) (P0 : PK pk S) (hn : dn d < 6) (hi : i < 3) (hk : k ≤ 6) : ∃ pk' S', M_X4_add pk S i (nI k) a t = some (nI (dn d), pk', S') ∧ LL i pk' S' (dAdd d k a t) ∧ PK pk' S' ∧ zFr (zL1 i) S S' ∧ ∀ q, q / 6 ≠ i → pk' q = pk q := by
  obtain ⟨pk1, S1, e1, P1, pl1, f1, k1⟩ := l_placeFor P0 hi (p := dn d) hn hk
  obtain ⟨S2, e2, f2, g0, g6, g7, g8, g9, g10, g11⟩ := l_begin (pk := pk1) S1 (6 * i + dn d) a t
  have ok := okb (show 6 * i + dn d < 18 by omega) pl1.1
  have c1 : zsc S1 (60 + 3 * i) = zsc S (60 + 3 * i) := f1.sc (by unfold zC; omega)
  have c2 : zsc S2 (60 + 3 * i) = zsc S (60 + 3 * i) := (f2.sc (by unfold zC; omega)).trans c1
  have F : zFr (zL1 i) S (zP S2 (60 + 3 * i) 3 (nI (dn d + 1))) := ((f1.mono (fun k z => by unfold zC at z; unfold zL1 zZ; omega)).trans (f2.mono (fun k z => by unfold zC at z; unfold zL1 zZ; omega))).trans (zFr_P (Or.inl rfl))
  have hm : (6 * i + dn d) % 6 = dn d := by omega
  have n1 : zsc S2 (100 + 4 * (6 * i + dn d)) 1 = nI (dn d) := by rw [g0 1 (by decide), pl1.2.2, hm]
  have P2 : PK pk1 S2 := fun q hq => by
    rcases P1 q hq with z | ⟨k', z1, z2, z3, z4⟩
    · exact Or.inl z
    · refine Or.inr ⟨k', z1, z2, ?_, ?_⟩
      · by_cases e : q = 6 * i + dn d
        · subst e; rw [g0 0 (by decide)]; exact z3
        · rw [f2.sc (by unfold zC; omega)]; exact z3
      · by_cases e : q = 6 * i + dn d
        · subst e; rw [g0 1 (by decide)]; exact z4
        · rw [f2.sc (by unfold zC; omega)]; exact z4
  have hz : ∀ q, 100 + 4 * q ≠ 60 + 3 * i := fun q => by omega
  refine ⟨pk1, zP S2 (60 + 3 * i) 3 (nI (dn d + 1)), ?_, ⟨?_, ?_, ?_, fun p hp => ?_⟩, P2.fr (zFr_P (P := fun k => k = 60 + 3 * i) rfl) (fun q _ => hz q), F, fun q hq => k1 q (by omega)⟩
  · unfold M_X4_add zlet3
    rw [h.1, e1]
    simp (disch := omega) only [reduceIte, li, lo, k_leT, k_leF, k_ltT, k_ltF, k_eqT, k_eqF, c_cl, c_sub, nI_add, pk_mul, zin_nI, zg_true, ob_some, zm_none, zm_some, if_true, if_false, Bool.false_eq_true, d_t, d_f, ob_eta, ob_eta1, m_ltn, m_nlt, m_nle, m_len, m_ne, m_ne', k_mltT, k_mltF, k_mleT, k_mleF, k_meqT, k_meqF, m_neg, ok, e2, c2, h.1, p_n, n1, dec11]
  · rw [p_y, if_pos rfl]; rfl
  · rw [p_y, if_neg (by decide), c2]; exact h.2.1
  · rw [p_y, if_neg (by decide), c2]; exact h.2.2.1
  · have hp : p < dn d + 1 := hp
    by_cases e : p = dn d
    · subst e
      have d1 : dk (dAdd d k a t) (dn d) = k := if_pos rfl
      have d2 : dou (dAdd d k a t) (dn d) = 0 := if_pos rfl
      have d3 : dv (dAdd d k a t) (dn d) 60 = a := by
        show (if dn d = dn d then _ else _) = _
        rw [if_pos rfl, if_pos rfl]
      have d4 : dv (dAdd d k a t) (dn d) 61 = t := by
        show (if dn d = dn d then _ else _) = _
        rw [if_pos rfl, if_neg (by decide), if_pos rfl]
      refine ⟨?_, ?_, ?_, ?_, ?_, ?_, fun c hc => ?_, fun c hc => ?_, fun c hc => ?_⟩
      · rw [d1]; exact pl1.1
      · rw [d1, p_n (hz _), g0 0 (by decide)]; exact pl1.2.1
      · rw [p_n (hz _)]; exact n1
      · rw [d3, p_n (hz _)]; exact g6
      · rw [d4, p_n (hz _)]; exact g7
      · rw [d2, p_n (hz _)]; exact g8
      · rw [p_a, dAdd_n (by omega)]; exact g10 c hc
      · rw [p_a, dAdd_n (by omega)]; exact g11 c hc
      · rw [p_a, dAdd_n (by omega)]; exact g9 c hc
    · have hp' : p < dn d := by omega
      have h1 := (h.pe hp').fr f1 (fun c hc => by unfold zC; omega)
      have h2 := h1.fr f2 (fun c hc => by unfold zC; omega)
      have h3 := h2.fr (zFr_P (S := S2) (k := 60 + 3 * i) (f := 3) (v := nI (dn d + 1)) (P := fun k => k = 60 + 3 * i) rfl) (fun c hc => by omega)
      have h4 := h3.add (k := k) (a := a) (t := t) hp'
      exact ⟨(k1 _ (by omega)).trans h4.1, h4.2⟩
theorem r_new (h : RR T d) (hn : dn d < 6) : ∃ T', M_X12_newPerson T (nI k) a t = some (nI (dn d), T') ∧ RR T' (dAdd d k a t) ∧ zFr (fun k => k = 0 ∨ (4 ≤ k ∧ k ≤ 10)) T T' ∧ ∀ f, f ≠ 3 → zsc T' 0 f = zsc T 0 f := by
  have key2 := fun (T0 : zSt) (h0 : zsc T0 0 3 = nI (dn d)) => lpR (fun n (u : zSt) z => M_X12_newPerson_B91 n u z) (fun (u : Unit) _ => u) (fun z u _ => zFr (fun k => k = 10) T0 u ∧ (∀ j, zar u 10 j = if 48 * dn d ≤ j ∧ j < 48 * dn d + z then 0 else zar T0 10 j)) (fun _ o => ∃ T', o = some (nI (dn d), zP T' 0 3 (nI (dn d + 1))) ∧ zFr (fun k => k = 10) T0 T' ∧ ∀ j, zar T' 10 j = if 48 * dn d ≤ j ∧ j < 48 * dn d + 48 then 0 else zar T0 10 j) 48 (fun n u _ hR => by
      have e : zsc u 0 3 = nI (dn d) := by rw [hR.1.sc (by omega)]; exact h0
      exact ⟨u, by simp (disch := omega) only [reduceIte, li, lo, k_leT, k_leF, k_ltT, k_ltF, k_eqT, k_eqF, c_cl, c_sub, nI_add, pk_mul, zin_nI, zg_true, ob_some, zm_none, zm_some, if_true, if_false, Bool.false_eq_true, d_t, d_f, ob_eta, ob_eta1, m_ltn, m_nlt, m_nle, m_len, m_ne, m_ne', k_mltT, k_mltF, k_mleT, k_mleF, k_meqT, k_meqF, m_neg, M_X12_newPerson_B91, e], hR⟩) (fun n u _ z hz hR => by
      have e : zsc u 0 3 = nI (dn d) := by rw [hR.1.sc (by omega)]; exact h0
      refine ⟨zAs u 10 (48 * dn d + z) (nI 0), ⟨hR.1.trans (zFr_As rfl), fun j => ?_⟩, by simp (disch := omega) only [reduceIte, li, lo, k_leT, k_leF, k_ltT, k_ltF, k_eqT, k_eqF, c_cl, c_sub, nI_add, pk_mul, zin_nI, zg_true, ob_some, zm_none, zm_some, if_true, if_false, Bool.false_eq_true, d_t, d_f, ob_eta, ob_eta1, m_ltn, m_nlt, m_nle, m_len, m_ne, m_ne', k_mltT, k_mltF, k_mleT, k_mleF, k_meqT, k_meqF, m_neg, M_X12_newPerson_B91, e]⟩
      rw [as_y, upd_a]
      by_cases ej : j = 48 * dn d + z
      · rw [if_pos ej, if_pos (by omega)]; rfl
      · rw [if_neg ej, hR.2 j]
        by_cases e2 : 48 * dn d ≤ j ∧ j < 48 * dn d + z
        · rw [if_pos e2, if_pos (by omega)]
        · rw [if_neg e2, if_neg (by omega)]) 48 0 zF T0 () ⟨zFr.rf, fun j => by rw [if_neg (by omega)]⟩ rfl (by decide)
  have key1 := fun (T0 : zSt) (h0 : zsc T0 0 3 = nI (dn d)) => lpR (fun n (u : zSt) z => M_X12_newPerson_B43 n u z) (fun (u : Unit) _ => u) (fun z u _ => zFr (fun k => k = 8 ∨ k = 9) T0 u ∧ (∀ j, zar u 8 j = if 6 * dn d ≤ j ∧ j < 6 * dn d + z then 0 else zar T0 8 j) ∧ ∀ j, zar u 9 j = if 6 * dn d ≤ j ∧ j < 6 * dn d + z then 0 else zar T0 9 j) (fun _ o => ∃ T1 T', o = some (nI (dn d), zP T' 0 3 (nI (dn d + 1))) ∧ zFr (fun k => k = 8 ∨ k = 9) T0 T1 ∧ (∀ j, zar T1 8 j = if 6 * dn d ≤ j ∧ j < 6 * dn d + 6 then 0 else zar T0 8 j) ∧ (∀ j, zar T1 9 j = if 6 * dn d ≤ j ∧ j < 6 * dn d + 6 then 0 else zar T0 9 j) ∧ zFr (fun k => k = 10) T1 T' ∧ ∀ j, zar T' 10 j = if 48 * dn d ≤ j ∧ j < 48 * dn d + 48 then 0 else zar T1 10 j) 6 (fun n u _ hR => by
      have e : zsc u 0 3 = nI (dn d) := by rw [hR.1.sc (by omega)]; exact h0
      obtain ⟨T', q1, q2, q3⟩ := key2 u e
      refine ⟨u, T', ?_, hR.1, hR.2.1, hR.2.2, q2, q3⟩
      rw [← q1]
      simp (disch := omega) only [reduceIte, li, lo, k_leT, k_leF, k_ltT, k_ltF, k_eqT, k_eqF, c_cl, c_sub, nI_add, pk_mul, zin_nI, zg_true, ob_some, zm_none, zm_some, if_true, if_false, Bool.false_eq_true, d_t, d_f, ob_eta, ob_eta1, m_ltn, m_nlt, m_nle, m_len, m_ne, m_ne', k_mltT, k_mltF, k_mleT, k_mleF, k_meqT, k_meqF, m_neg, M_X12_newPerson_B43]) (fun n u _ z hz hR => by
      have e : zsc u 0 3 = nI (dn d) := by rw [hR.1.sc (by omega)]; exact h0
      refine ⟨zAs (zAs u 8 (6 * dn d + z) (nI 0)) 9 (6 * dn d + z) (nI 0), ⟨(hR.1.trans (zFr_As (Or.inl rfl))).trans (zFr_As (Or.inr rfl)), fun j => ?_, fun j => ?_⟩, by simp (disch := omega) only [reduceIte, li, lo, k_leT, k_leF, k_ltT, k_ltF, k_eqT, k_eqF, c_cl, c_sub, nI_add, pk_mul, zin_nI, zg_true, ob_some, zm_none, zm_some, if_true, if_false, Bool.false_eq_true, d_t, d_f, ob_eta, ob_eta1, m_ltn, m_nlt, m_nle, m_len, m_ne, m_ne', k_mltT, k_mltF, k_mleT, k_mleF, k_meqT, k_meqF, m_neg, M_X12_newPerson_B43, as_s, e]⟩
      · rw [as_n (by decide), as_y, upd_a]
        by_cases ej : j = 6 * dn d + z
        · rw [if_pos ej, if_pos (by omega)]; rfl
        · rw [if_neg ej, hR.2.1 j]
          by_cases e2 : 6 * dn d ≤ j ∧ j < 6 * dn d + z
          · rw [if_pos e2, if_pos (by omega)]
          · rw [if_neg e2, if_neg (by omega)]
      · rw [as_y, as_n (by decide), upd_a]
        by_cases ej : j = 6 * dn d + z
        · rw [if_pos ej, if_pos (by omega)]; rfl
        · rw [if_neg ej, hR.2.2 j]
          by_cases e2 : 6 * dn d ≤ j ∧ j < 6 * dn d + z
          · rw [if_pos e2, if_pos (by omega)]
          · rw [if_neg e2, if_neg (by omega)]) 6 0 zF T0 () ⟨zFr.rf, fun j => by rw [if_neg (by omega)], fun j => by rw [if_neg (by omega)]⟩ rfl (by decide)
  obtain ⟨T1, T', q1, q2, q3, q4, q5, q6⟩ := key1 (zAs (zAs (zAs (zAs T 4 (dn d) (nI k)) 5 (dn d) a) 6 (dn d) t) 7 (dn d) (nI 0)) h.1
  have F0 : zFr (fun k => k = 0 ∨ (4 ≤ k ∧ k ≤ 10)) T (zAs (zAs (zAs (zAs T 4 (dn d) (nI k)) 5 (dn d) a) 6 (dn d) t) 7 (dn d) (nI 0)) := (((zFr_As (by omega)).trans (zFr_As (by omega))).trans (zFr_As (by omega))).trans (zFr_As (by omega))
  have c0 : zsc T' 0 = zsc T 0 := (q5.sc (by omega)).trans ((q2.sc (by omega)).trans rfl)
  refine ⟨zP T' 0 3 (nI (dn d + 1)), ?_, ⟨?_, ?_, ?_, fun p hp => ?_⟩, ((F0.trans (q2.mono (fun k z => by omega))).trans (q5.mono (fun k z => by omega))).trans (zFr_P (Or.inl rfl)), fun f hf => ?_⟩
  · rw [← q1]
    unfold M_X12_newPerson
    simp (disch := omega) only [reduceIte, li, lo, k_leT, k_leF, k_ltT, k_ltF, k_eqT, k_eqF, c_cl, c_sub, nI_add, pk_mul, zin_nI, zg_true, ob_some, zm_none, zm_some, if_true, if_false, Bool.false_eq_true, d_t, d_f, ob_eta, ob_eta1, m_ltn, m_nlt, m_nle, m_len, m_ne, m_ne', k_mltT, k_mltF, k_mleT, k_mleF, k_meqT, k_meqF, m_neg, as_s, h.1]
  · rw [p_y, if_pos rfl]; rfl
  · rw [p_y, if_neg (by decide), c0]; exact h.2.1
  · rw [p_y, if_neg (by decide), c0]; exact h.2.2.1
  · have hp : p < dn d + 1 := hp
    have r4 : zar T' 4 = upd (zar T 4) (dn d) (nI k) := by
      rw [q5.ar (by omega), q2.ar (by omega), as_n (by decide), as_n (by decide), as_n (by decide), as_y]
    have r5 : zar T' 5 = upd (zar T 5) (dn d) a := by
      rw [q5.ar (by omega), q2.ar (by omega), as_n (by decide), as_n (by decide), as_y, as_n (by decide)]
    have r6 : zar T' 6 = upd (zar T 6) (dn d) t := by
      rw [q5.ar (by omega), q2.ar (by omega), as_n (by decide), as_y, as_n (by decide), as_n (by decide)]
    have r7 : zar T' 7 = upd (zar T 7) (dn d) (nI 0) := by
      rw [q5.ar (by omega), q2.ar (by omega), as_y, as_n (by decide), as_n (by decide), as_n (by decide)]
    have r8 : ∀ j, zar T' 8 j = if 6 * dn d ≤ j ∧ j < 6 * dn d + 6 then 0 else zar T 8 j := fun j => by
      rw [q5.ar (by omega), q3 j, as_n (by decide), as_n (by decide), as_n (by decide), as_n (by decide)]
    have r9 : ∀ j, zar T' 9 j = if 6 * dn d ≤ j ∧ j < 6 * dn d + 6 then 0 else zar T 9 j := fun j => by
      rw [q5.ar (by omega), q4 j, as_n (by decide), as_n (by decide), as_n (by decide), as_n (by decide)]
    have r10 : ∀ j, zar T' 10 j = if 48 * dn d ≤ j ∧ j < 48 * dn d + 48 then 0 else zar T 10 j := fun j => by
      rw [q6 j, q2.ar (by omega), as_n (by decide), as_n (by decide), as_n (by decide), as_n (by decide)]
    by_cases e : p = dn d
    · subst e
      refine ⟨?_, ?_, ?_, ?_, fun c hc => ?_, fun c hc => ?_, fun c hc => ?_⟩
      · rw [p_a, r4, pk_us]; exact (congrArg nI (if_pos rfl)).symm
      · rw [p_a, r5, pk_us]
        show _ = (if dn d = dn d then _ else _)
        rw [if_pos rfl, if_pos rfl]
      · rw [p_a, r6, pk_us]
        show _ = (if dn d = dn d then _ else _)
        rw [if_pos rfl, if_neg (by decide), if_pos rfl]
      · rw [p_a, r7, pk_us]; exact (congrArg nI (if_pos rfl)).symm
      · rw [p_a, r8, if_pos (by omega), dAdd_n (by omega)]
      · rw [p_a, r9, if_pos (by omega), dAdd_n (by omega)]
      · rw [p_a, r10, if_pos (by omega), dAdd_n (by omega)]
    · have hp' : p < dn d := by omega
      have h' := h.pe hp'
      refine Rp.add ?_ hp'
      refine ⟨?_, ?_, ?_, ?_, fun c hc => ?_, fun c hc => ?_, fun c hc => ?_⟩
      · rw [p_a, r4, pk_un e]; exact h'.knd
      · rw [p_a, r5, pk_un e]; exact h'.a
      · rw [p_a, r6, pk_un e]; exact h'.th
      · rw [p_a, r7, pk_un e]; exact h'.ou
      · rw [p_a, r8, if_neg (by omega)]; exact h'.sm hc
      · rw [p_a, r9, if_neg (by omega)]; exact h'.dr hc
      · rw [p_a, r10, if_neg (by omega)]; exact h'.st hc
  · rw [p_y, if_neg hf, c0]
end GRO
