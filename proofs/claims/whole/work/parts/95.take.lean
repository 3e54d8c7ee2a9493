/-! A LAND FROM ANOTHER; the reference's images -/
section TAK
variable {P : Nat → Prop} {pk pk' : Nat → Nat} {S S' T : zSt} {i j q q0 q1 p n k : Nat} {d d' : zD} {a t : Int32}
theorem l_take0 (pk : Nat → Nat) (S : zSt) (hne : q0 ≠ q1) : M_X5_takeFrom pk S q0 q1 = some (zA (zA (zA (zP (zP (zP S (100 + 4 * q0) 6 (zsc S (100 + 4 * q1) 6)) (100 + 4 * q0) 7 (zsc S (100 + 4 * q1) 7)) (100 + 4 * q0) 8 (zsc S (100 + 4 * q1) 8)) (100 + 4 * q0 + 1) (va_cpy (zar S (100 + 4 * q1 + 1)) (zar S (100 + 4 * q0 + 1)) 0 0 48)) (100 + 4 * q0 + 2) (va_cpy (zar S (100 + 4 * q1 + 2)) (zar S (100 + 4 * q0 + 2)) 0 0 6)) (100 + 4 * q0 + 3) (va_cpy (zar S (100 + 4 * q1 + 3)) (zar S (100 + 4 * q0 + 3)) 0 0 6)) := by
  have z1 : zcp (nI 0) (nI 0) (nI 48) 48 48 = true := by decide
  have z2 : zcp (nI 0) (nI 0) (nI 6) 6 6 = true := by decide
  unfold M_X5_takeFrom
  simp (disch := omega) only [↓zg_true, li, lo, z1, z2, zg_true, c_cl, p_n, p_a, a_s, a_n]
theorem l_takeP (h : Lp pk S q1 d p) (h0 : Pl pk S q0 (dk d p)) (hm : q0 % 6 = p) (hne : q0 ≠ q1) : ∃ S', M_X5_takeFrom pk S q0 q1 = some S' ∧ Lp pk S' q0 d p ∧ zFr (zC q0) S S' := by
  refine ⟨_, l_take0 pk S hne, ⟨h0.1, ?_, ?_, ?_, ?_, ?_, fun c hc => ?_, fun c hc => ?_, fun c hc => ?_⟩, ?_⟩
  · simp only [a_s]
    rw [p_y, if_neg (by decide), p_y, if_neg (by decide), p_y, if_neg (by decide)]; exact h0.2.1
  · simp only [a_s]
    rw [p_y, if_neg (by decide), p_y, if_neg (by decide), p_y, if_neg (by decide), h0.2.2, hm]
  · simp only [a_s]
    rw [p_y, if_neg (by decide), p_y, if_neg (by decide), p_y, if_pos rfl]; exact h.a
  · simp only [a_s]
    rw [p_y, if_neg (by decide), p_y, if_pos rfl]; exact h.th
  · simp only [a_s]
    rw [p_y, if_pos rfl]; exact h.ou
  · rw [a_n (by omega), a_y, pk_cpy_in (by omega) (by omega)]
    rw [show 0 + (c - 0) = c by omega]; exact h.sm hc
  · rw [a_y, pk_cpy_in (by omega) (by omega)]
    rw [show 0 + (c - 0) = c by omega]; exact h.dr hc
  · rw [a_n (by omega), a_n (by omega), a_y, pk_cpy_in (by omega) (by omega)]
    rw [show 0 + (c - 0) = c by omega]; exact h.st hc
  · exact (((((zFr_P (by unfold zC; omega)).trans (zFr_P (by unfold zC; omega))).trans (zFr_P (by unfold zC; omega))).trans (zFr_A (by unfold zC; omega))).trans (zFr_A (by unfold zC; omega))).trans (zFr_A (by unfold zC; omega))
theorem PK.head {f : Nat} {v : Int32} (h : PK pk S) (hi : i < 3) : PK pk (zP S (60 + 3 * i) f v) := h.fr (zFr_P (P := fun k => k = 60 + 3 * i) rfl) (fun q _ => by omega)
theorem PK.pl (h : PK pk S) (hq : q < 18) {pk' : Nat → Nat} {S' : zSt} (h0 : Pl pk' S' q k) (hk : k ≤ 6) (hf : zFr (zC q) S S') (hp : ∀ q', q' ≠ q → pk' q' = pk q') : PK pk' S' := by
  intro q' hq'
  by_cases e : q' = q
  · subst e; exact Or.inr ⟨k, hk, h0.1, h0.2.1, h0.2.2⟩
  · rw [hp q' e, hf.sc (by unfold zC; omega)]
    exact h q' hq'
theorem l_take (hi : i < 3) (hj : j < 3) (hij : i ≠ j) (K : KK d) : ∀ (m z n b : Nat) (pk : Nat → Nat) (S : zSt), z + m = dn d → m < n → 6 - z ≤ b → LL j pk S d → PK pk S → zsc S (60 + 3 * i) 3 = nI z → zsc S (60 + 3 * i) 4 = dle d → zsc S (60 + 3 * i) 5 = dse d → (∀ p, p < z → Lp pk S (6 * i + p) d p) → ∃ pk' S', M_X4_takeFrom_B23 i j n pk S b (nI z) = some (pk', S') ∧ LL i pk' S' d ∧ PK pk' S' ∧ zFr (zL1 i) S S' ∧ ∀ q, q / 6 ≠ i → pk' q = pk q := by
  intro m
  have hn6 := K.1
  induction m with
  | zero =>
    intro z n b pk S h1 h2 _ hL hP e3 e4 e5 hp
    obtain ⟨n, rfl⟩ : ∃ r, n = r + 1 := ⟨n - 1, by omega⟩
    obtain rfl : z = dn d := by omega
    refine ⟨pk, S, ?_, ⟨e3, e4, e5, hp⟩, hP, zFr.rf, fun _ _ => rfl⟩
    rw [M_X4_takeFrom_B23]
    simp (disch := omega) only [reduceIte, li, lo, k_leT, k_leF, k_ltT, k_ltF, k_eqT, k_eqF, c_cl, c_sub, nI_add, pk_mul, zin_nI, zg_true, ob_some, zm_none, zm_some, if_true, if_false, Bool.false_eq_true, d_t, d_f, ob_eta, ob_eta1, m_ltn, m_nlt, m_nle, m_len, m_ne, m_ne', k_mltT, k_mltF, k_mleT, k_mleF, k_meqT, k_meqF, m_neg, hL.1]
  | succ m ih =>
    intro z n b pk S h1 h2 hb hL hP e3 e4 e5 hp
    obtain ⟨n, rfl⟩ : ∃ r, n = r + 1 := ⟨n - 1, by omega⟩
    have hz : z < dn d := by omega
    have hl := hL.pe hz
    have kp := K.pe hz
    obtain ⟨pk1, S1, e1, P1, pl1, f1, k1⟩ := l_placeFor (k := dk d z) hP hi (p := z) (by omega) kp.1
    have hl1 : Lp pk1 S1 (6 * j + z) d z := by
      have := hl.fr f1 (fun c hc => by unfold zC; omega)
      exact ⟨(k1 _ (by omega)).trans this.1, this.2⟩
    obtain ⟨S2, e2, l2, f2⟩ := l_takeP hl1 pl1 (by omega) (by omega)
    have ok := hl.ok (show 6 * j + z < 18 by omega)
    have ok1 := hl1.ok (show 6 * j + z < 18 by omega)
    have ok2 := l2.ok (show 6 * i + z < 18 by omega)
    have dq : decide ((6 * j + z) / 6 ≠ i) = true := decide_eq_true (by omega)
    have db : decide (1 ≤ b) = true := decide_eq_true (by omega)
    have F : zFr (zL1 i) S (zP S2 (60 + 3 * i) 3 (nI (z + 1))) := ((f1.mono (fun k z => by unfold zC at z; unfold zL1 zZ; omega)).trans (f2.mono (fun k z => by unfold zC at z; unfold zL1 zZ; omega))).trans (zFr_P (Or.inl rfl))
    have hc : zsc S2 (60 + 3 * i) = zsc S (60 + 3 * i) := (f2.sc (by unfold zC; omega)).trans (f1.sc (by unfold zC; omega))
    have kq : ∀ q, q / 6 ≠ i → pk1 q = pk q := fun q hq => k1 q (by omega)
    obtain ⟨pk', S', r1, r2, r3, r4, r5⟩ := ih (z + 1) n (b - 1) pk1 (zP S2 (60 + 3 * i) 3 (nI (z + 1))) (by omega) (by omega) (by omega) (hL.mv K.1 F (by unfold zL1 zZ; omega) (fun k a b => by unfold zL1 zZ; omega) (fun q a b => kq q (by omega))) ((P1.pl (by omega) ⟨pl1.1, l2.knd, by rw [l2.num, show (6 * i + z) % 6 = z by omega]⟩ kp.1 f2 (fun _ _ => rfl)).head hi) (by rw [p_y, if_pos rfl]) (by rw [p_y, if_neg (by decide), hc]; exact e4) (by rw [p_y, if_neg (by decide), hc]; exact e5) (fun p hp' => by
      by_cases e : p = z
      · subst e
        exact l2.fr (zFr_P (P := fun k => k = 60 + 3 * i) rfl) (fun c hc => by omega)
      · have := (((hp p (by omega)).fr f1 (fun c hc => by unfold zC; omega)).fr f2 (fun c hc => by unfold zC; omega)).fr (zFr_P (S := S2) (k := 60 + 3 * i) (f := 3) (v := nI (z + 1)) (P := fun k => k = 60 + 3 * i) rfl) (fun c hc => by omega)
        exact ⟨(k1 _ (by omega)).trans this.1, this.2⟩)
    refine ⟨pk', S', ?_, r2, r3, F.trans r4, fun q hq => (r5 q hq).trans (kq q hq)⟩
    rw [← r1, M_X4_takeFrom_B23]
    have pa := l_perY hL hn6 hz
    have okk : (zOKb pk1 (6 * j + z) && decide ((6 * j + z) / 6 ≠ i)) = true := by rw [ok1, dq]; rfl
    have hkn := hl.knd
    unfold zlet3
    simp (disch := omega) only [↓ob_some, ↓zm_some, ↓zm_none, ↓zg_true, ↓zg_in, hL.1, ↓(ob_of pa), ↓(zg_of ok), ↓(zg_of db), hkn, ↓(ob_of e1), ↓(zg_of okk), ↓(zg_of ok2), ↓(ob_of e2), reduceIte, li, lo, k_leT, k_leF, k_ltT, k_ltF, k_eqT, k_eqF, c_cl, c_sub, nI_add, pk_mul, zin_nI, zg_true, ob_some, zm_none, zm_some, if_true, if_false, Bool.false_eq_true, d_t, d_f, ob_eta, ob_eta1, m_ltn, m_nlt, m_nle, m_len, m_ne, m_ne', k_mltT, k_mltF, k_mleT, k_mleF, k_meqT, k_meqF, m_neg]
theorem l_takeFrom (h : LL j pk S d) (K : KK d) (P0 : PK pk S) (hi : i < 3) (hj : j < 3) (hij : i ≠ j) : ∃ pk' S', M_X4_takeFrom pk S i j = some (pk', S') ∧ LL i pk' S' d ∧ LL j pk' S' d ∧ PK pk' S' ∧ zFr (zL1 i) S S' ∧ ∀ q, q / 6 ≠ i → pk' q = pk q := by
  have f0 : zFr (zL1 i) S (zP (zP (zP S (60 + 3 * i) 4 (dle d)) (60 + 3 * i) 5 (dse d)) (60 + 3 * i) 3 (nI 0)) := ((zFr_P (Or.inl rfl)).trans (zFr_P (Or.inl rfl))).trans (zFr_P (Or.inl rfl))
  have hn6 := K.1
  obtain ⟨pk', S', r1, r2, r3, r4, r5⟩ := l_take hi hj hij K (dn d) 0 zF 6 pk (zP (zP (zP S (60 + 3 * i) 4 (dle d)) (60 + 3 * i) 5 (dse d)) (60 + 3 * i) 3 (nI 0)) (by omega) (by show _ < 4096; omega) (by omega) (h.mv K.1 f0 (by unfold zL1 zZ; omega) (fun k a b => by unfold zL1 zZ; omega) (fun q a b => rfl)) (((P0.head hi).head hi).head hi) (by rw [p_y, if_pos rfl]) (by rw [p_y, if_neg (by decide), p_y, if_neg (by decide), p_y, if_pos rfl]) (by rw [p_y, if_neg (by decide), p_y, if_pos rfl]) (fun p hp => absurd hp (Nat.not_lt_zero _))
  have F := f0.trans r4
  refine ⟨pk', S', ?_, r2, h.mv K.1 F (by unfold zL1 zZ; omega) (fun k a b => by unfold zL1 zZ; omega) (fun q a b => r5 q (by omega)), r3, F, r5⟩
  unfold M_X4_takeFrom
  rw [p_n (by omega), h.2.1, h.2.2.1]
  exact r1
/-! the reference: keep, again -/
def kvl (T : zSt) (x : Nat) : Int32 := if x < 6 then zar T 4 x else if x < 12 then zar T 5 (x - 6) else if x < 18 then zar T 6 (x - 12) else if x < 24 then zar T 7 (x - 18) else if x < 60 then zar T 8 (x - 24) else if x < 96 then zar T 9 (x - 60) else zar T 10 (x - 96)
theorem kvl_fr {T T' : zSt} (hf : zFr (fun x => x = k) T T') (hk : k = 14 ∨ k = 15) (x : Nat) : kvl T' x = kvl T x := by
  unfold kvl
  rw [hf.ar (by omega), hf.ar (by omega), hf.ar (by omega), hf.ar (by omega), hf.ar (by omega), hf.ar (by omega), hf.ar (by omega)]
theorem r_keep (hk : k = 14 ∨ k = 15) (T : zSt) : ∃ T', M_X12_keep T k = some T' ∧ zFr (fun x => x = k) T T' ∧ (∀ x, x < 384 → zar T' k x = kvl T x) ∧ zar T' k 384 = zsc T 0 3 ∧ zar T' k 385 = zsc T 0 11 ∧ zar T' k 386 = zsc T 0 12 := by
  have ne : ∀ r, r ≤ 10 → r ≠ k := fun r hr => by omega
  have key3 := fun (T0 : zSt) (f0 : zFr (fun x => x = k) T T0) (g0 : ∀ x, x < 96 → zar T0 k x = kvl T x) => lpR (fun n (u : zSt) z => M_X12_keep_B99 k n u z) (fun (u : Unit) _ => u) (fun z u _ => zFr (fun x => x = k) T u ∧ ∀ x, x < 96 + z → zar u k x = kvl T x) (fun _ o => ∃ T', o = some T' ∧ zFr (fun x => x = k) T T' ∧ (∀ x, x < 384 → zar T' k x = kvl T x) ∧ zar T' k 384 = zsc T 0 3 ∧ zar T' k 385 = zsc T 0 11 ∧ zar T' k 386 = zsc T 0 12) 288 (fun n u _ hR => by
      have e : zsc u 0 = zsc T 0 := hR.1.sc (by omega)
      refine ⟨zAs (zAs (zAs u k 384 (zsc T 0 3)) k 385 (zsc T 0 11)) k 386 (zsc T 0 12), by simp (disch := omega) only [reduceIte, li, lo, k_leT, k_leF, k_ltT, k_ltF, k_eqT, k_eqF, c_cl, c_sub, nI_add, pk_mul, zin_nI, zg_true, ob_some, zm_none, zm_some, if_true, if_false, Bool.false_eq_true, d_t, d_f, ob_eta, ob_eta1, m_ltn, m_nlt, m_nle, m_len, m_ne, m_ne', k_mltT, k_mltF, k_mleT, k_mleF, k_meqT, k_meqF, m_neg, M_X12_keep_B99, as_s, e], ((hR.1.trans (zFr_As rfl)).trans (zFr_As rfl)).trans (zFr_As rfl), fun x hx => ?_, ?_, ?_, ?_⟩
      · simp only [as_y, upd_a]
        rw [if_neg (by omega), if_neg (by omega), if_neg (by omega)]; exact hR.2 x (by omega)
      · simp [as_y, upd_a]
      · simp [as_y, upd_a]
      · simp [as_y, upd_a]) (fun n u _ z hz hR => by
      refine ⟨zAs u k (96 + z) (zar u 10 z), ⟨hR.1.trans (zFr_As rfl), fun x hx => ?_⟩, by simp (disch := omega) only [reduceIte, li, lo, k_leT, k_leF, k_ltT, k_ltF, k_eqT, k_eqF, c_cl, c_sub, nI_add, pk_mul, zin_nI, zg_true, ob_some, zm_none, zm_some, if_true, if_false, Bool.false_eq_true, d_t, d_f, ob_eta, ob_eta1, m_ltn, m_nlt, m_nle, m_len, m_ne, m_ne', k_mltT, k_mltF, k_mleT, k_mleF, k_meqT, k_meqF, m_neg, M_X12_keep_B99]⟩
      rw [as_y, upd_a]
      by_cases e : x = 96 + z
      · rw [if_pos e, hR.1.ar (ne 10 (by decide))]
        unfold kvl
        rw [if_neg (by omega), if_neg (by omega), if_neg (by omega), if_neg (by omega), if_neg (by omega), if_neg (by omega)]
        congr 1; omega
      · rw [if_neg e]; exact hR.2 x (by omega)) 288 0 zF T0 () ⟨f0, g0⟩ rfl (by decide)
  have key2 := fun (T0 : zSt) (f0 : zFr (fun x => x = k) T T0) (g0 : ∀ x, x < 24 → zar T0 k x = kvl T x) => lpR (fun n (u : zSt) z => M_X12_keep_B61 k n u z) (fun (u : Unit) _ => u) (fun z u _ => zFr (fun x => x = k) T u ∧ (∀ x, x < 24 + z → zar u k x = kvl T x) ∧ ∀ x, 60 ≤ x → x < 60 + z → zar u k x = kvl T x) (fun _ o => ∃ T', o = some T' ∧ zFr (fun x => x = k) T T' ∧ (∀ x, x < 384 → zar T' k x = kvl T x) ∧ zar T' k 384 = zsc T 0 3 ∧ zar T' k 385 = zsc T 0 11 ∧ zar T' k 386 = zsc T 0 12) 36 (fun n u _ hR => by
      obtain ⟨T', q1, q2⟩ := key3 u hR.1 (fun x hx => by
        by_cases e : x < 60
        · exact hR.2.1 x (by omega)
        · exact hR.2.2 x (by omega) (by omega))
      exact ⟨T', by rw [← q1]; simp (disch := omega) only [reduceIte, li, lo, k_leT, k_leF, k_ltT, k_ltF, k_eqT, k_eqF, c_cl, c_sub, nI_add, pk_mul, zin_nI, zg_true, ob_some, zm_none, zm_some, if_true, if_false, Bool.false_eq_true, d_t, d_f, ob_eta, ob_eta1, m_ltn, m_nlt, m_nle, m_len, m_ne, m_ne', k_mltT, k_mltF, k_mleT, k_mleF, k_meqT, k_meqF, m_neg, M_X12_keep_B61], q2⟩) (fun n u _ z hz hR => by
      refine ⟨zAs (zAs u k (24 + z) (zar u 8 z)) k (60 + z) (zar u 9 z), ⟨(hR.1.trans (zFr_As rfl)).trans (zFr_As rfl), fun x hx => ?_, fun x hx hx2 => ?_⟩, ?_⟩
      · simp only [as_y, upd_a]
        rw [if_neg (by omega)]
        by_cases e : x = 24 + z
        · rw [if_pos e, hR.1.ar (ne 8 (by decide))]
          unfold kvl
          rw [if_neg (by omega), if_neg (by omega), if_neg (by omega), if_neg (by omega), if_pos (by omega)]
          congr 1; omega
        · rw [if_neg e]; exact hR.2.1 x (by omega)
      · simp only [as_y, upd_a]
        by_cases e : x = 60 + z
        · rw [if_pos e, hR.1.ar (ne 9 (by decide))]
          unfold kvl
          rw [if_neg (by omega), if_neg (by omega), if_neg (by omega), if_neg (by omega), if_neg (by omega), if_pos (by omega)]
          congr 1; omega
        · rw [if_neg e, if_neg (by omega)]; exact hR.2.2 x hx (by omega)
      · have e9 := as_n (S := u) (k := k) (j := 24 + z) (v := zar u 8 z) (k' := 9) (ne 9 (by decide))
        simp (disch := omega) only [reduceIte, li, lo, k_leT, k_leF, k_ltT, k_ltF, k_eqT, k_eqF, c_cl, c_sub, nI_add, pk_mul, zin_nI, zg_true, ob_some, zm_none, zm_some, if_true, if_false, Bool.false_eq_true, d_t, d_f, ob_eta, ob_eta1, m_ltn, m_nlt, m_nle, m_len, m_ne, m_ne', k_mltT, k_mltF, k_mleT, k_mleF, k_meqT, k_meqF, m_neg, M_X12_keep_B61, e9]) 36 0 zF T0 () ⟨f0, g0, fun x a b => by omega⟩ rfl (by decide)
  have key1 := lpR (fun n (u : zSt) z => M_X12_keep_B2 k n u z) (fun (u : Unit) _ => u) (fun z u _ => zFr (fun x => x = k) T u ∧ ∀ x, x < 24 → x % 6 < z → zar u k x = kvl T x) (fun _ o => ∃ T', o = some T' ∧ zFr (fun x => x = k) T T' ∧ (∀ x, x < 384 → zar T' k x = kvl T x) ∧ zar T' k 384 = zsc T 0 3 ∧ zar T' k 385 = zsc T 0 11 ∧ zar T' k 386 = zsc T 0 12) 6 (fun n u _ hR => by
      obtain ⟨T', q1, q2⟩ := key2 u hR.1 (fun x hx => hR.2 x hx (by omega))
      exact ⟨T', by rw [← q1]; simp (disch := omega) only [reduceIte, li, lo, k_leT, k_leF, k_ltT, k_ltF, k_eqT, k_eqF, c_cl, c_sub, nI_add, pk_mul, zin_nI, zg_true, ob_some, zm_none, zm_some, if_true, if_false, Bool.false_eq_true, d_t, d_f, ob_eta, ob_eta1, m_ltn, m_nlt, m_nle, m_len, m_ne, m_ne', k_mltT, k_mltF, k_mleT, k_mleF, k_meqT, k_meqF, m_neg, M_X12_keep_B2], q2⟩) (fun n u _ z hz hR => by
      refine ⟨zAs (zAs (zAs (zAs u k z (zar u 4 z)) k (6 + z) (zar u 5 z)) k (12 + z) (zar u 6 z)) k (18 + z) (zar u 7 z), ⟨(((hR.1.trans (zFr_As rfl)).trans (zFr_As rfl)).trans (zFr_As rfl)).trans (zFr_As rfl), fun x hx hx2 => ?_⟩, ?_⟩
      · simp only [as_y, upd_a]
        unfold kvl
        by_cases e4 : x = 18 + z
        · rw [if_pos e4, hR.1.ar (ne 7 (by decide)), if_neg (by omega), if_neg (by omega), if_neg (by omega), if_pos (by omega)]; congr 1; omega
        · rw [if_neg e4]
          by_cases e3 : x = 12 + z
          · rw [if_pos e3, hR.1.ar (ne 6 (by decide)), if_neg (by omega), if_neg (by omega), if_pos (by omega)]; congr 1; omega
          · rw [if_neg e3]
            by_cases e2 : x = 6 + z
            · rw [if_pos e2, hR.1.ar (ne 5 (by decide)), if_neg (by omega), if_pos (by omega)]; congr 1; omega
            · rw [if_neg e2]
              by_cases e1 : x = z
              · rw [if_pos e1, hR.1.ar (ne 4 (by decide)), if_pos (by omega), e1]
              · rw [if_neg e1]
                have := hR.2 x hx (by omega)
                unfold kvl at this
                exact this
      · have n5 := ne 5 (by decide)
        have n6 := ne 6 (by decide)
        have n7 := ne 7 (by decide)
        simp (disch := omega) only [reduceIte, li, lo, k_leT, k_leF, k_ltT, k_ltF, k_eqT, k_eqF, c_cl, c_sub, nI_add, pk_mul, zin_nI, zg_true, ob_some, zm_none, zm_some, if_true, if_false, Bool.false_eq_true, d_t, d_f, ob_eta, ob_eta1, m_ltn, m_nlt, m_nle, m_len, m_ne, m_ne', k_mltT, k_mltF, k_mleT, k_mleF, k_meqT, k_meqF, m_neg, M_X12_keep_B2, as_n]) 6 0 zF T () ⟨zFr.rf, fun x a b => by omega⟩ rfl (by decide)
  exact key1
theorem r_keepS (h : RR T d) (hn : dn d ≤ 6) (hk : k = 14 ∨ k = 15) : ∃ T', M_X12_keep T k = some T' ∧ zFr (fun x => x = k) T T' ∧ SN k T' d := by
  obtain ⟨T', e, f, g, g1, g2, g3⟩ := r_keep hk T
  refine ⟨T', e, f, g1.trans h.1, g2.trans h.2.1, g3.trans h.2.2.1, fun p hp => ?_⟩
  have h' := h.pe hp
  refine ⟨?_, ?_, ?_, ?_, fun c hc => ?_, fun c hc => ?_, fun c hc => ?_⟩
  · rw [g _ (by omega)]; unfold kvl; rw [if_pos (by omega)]; exact h'.knd
  · rw [g _ (by omega)]; unfold kvl; rw [if_neg (by omega), if_pos (by omega), Nat.add_sub_cancel_left]; exact h'.a
  · rw [g _ (by omega)]; unfold kvl; rw [if_neg (by omega), if_neg (by omega), if_pos (by omega), Nat.add_sub_cancel_left]; exact h'.th
  · rw [g _ (by omega)]; unfold kvl; rw [if_neg (by omega), if_neg (by omega), if_neg (by omega), if_pos (by omega), Nat.add_sub_cancel_left]; exact h'.ou
  · rw [g _ (by omega)]; unfold kvl; rw [if_neg (by omega), if_neg (by omega), if_neg (by omega), if_neg (by omega), if_pos (by omega), Nat.add_sub_cancel_left]; exact h'.sm hc
  · rw [g _ (by omega)]; unfold kvl; rw [if_neg (by omega), if_neg (by omega), if_neg (by omega), if_neg (by omega), if_neg (by omega), if_pos (by omega), Nat.add_sub_cancel_left]; exact h'.dr hc
  · rw [g _ (by omega)]; unfold kvl; rw [if_neg (by omega), if_neg (by omega), if_neg (by omega), if_neg (by omega), if_neg (by omega), if_neg (by omega), Nat.add_sub_cancel_left]; exact h'.st hc
def zAg (k : Nat) : Prop := k = 0 ∨ (4 ≤ k ∧ k ≤ 10)
theorem r_again (h : SN k T d) (hn : dn d ≤ 6) (hk : k = 14 ∨ k = 15) : ∃ T', M_X12_again T k = some T' ∧ zFr zAg T T' ∧ RR T' d ∧ ∀ f, f ≠ 3 → f ≠ 11 → f ≠ 12 → zsc T' 0 f = zsc T 0 f := by
  have fk : ∀ {u : zSt}, zFr (fun x => 4 ≤ x ∧ x ≤ 10) T u → zar u k = zar T k := fun f => f.ar (by omega)
  have ne : ∀ r, r ≤ 10 → k ≠ r := fun r hr => by omega
  have key3 := fun (T0 : zSt) (f0 : zFr (fun x => 4 ≤ x ∧ x ≤ 10) T T0) => lpR (fun n (u : zSt) z => M_X12_again_B99 k n u z) (fun (u : Unit) _ => u) (fun z u _ => zFr (fun x => 4 ≤ x ∧ x ≤ 10) T u ∧ (∀ r, r ≤ 9 → zar u r = zar T0 r) ∧ ∀ x, x < z → zar u 10 x = zar T k (96 + x)) (fun _ o => ∃ T1, o = some (zP (zP (zP T1 0 3 (zar T k 384)) 0 11 (zar T k 385)) 0 12 (zar T k 386)) ∧ zFr (fun x => 4 ≤ x ∧ x ≤ 10) T T1 ∧ (∀ r, r ≤ 9 → zar T1 r = zar T0 r) ∧ ∀ x, x < 288 → zar T1 10 x = zar T k (96 + x)) 288 (fun n u _ hR => by
      refine ⟨u, ?_, hR.1, hR.2.1, hR.2.2⟩
      have e := fk hR.1
      simp (disch := omega) only [reduceIte, li, lo, k_leT, k_leF, k_ltT, k_ltF, k_eqT, k_eqF, c_cl, c_sub, nI_add, pk_mul, zin_nI, zg_true, ob_some, zm_none, zm_some, if_true, if_false, Bool.false_eq_true, d_t, d_f, ob_eta, ob_eta1, m_ltn, m_nlt, m_nle, m_len, m_ne, m_ne', k_mltT, k_mltF, k_mleT, k_mleF, k_meqT, k_meqF, m_neg, M_X12_again_B99, p_a, e]) (fun n u _ z hz hR => by
      have e := fk hR.1
      refine ⟨zAs u 10 z (zar T k (96 + z)), ⟨hR.1.trans (zFr_As (by omega)), fun r hr => by rw [as_n (by omega)]; exact hR.2.1 r hr, fun x hx => ?_⟩, by simp (disch := omega) only [reduceIte, li, lo, k_leT, k_leF, k_ltT, k_ltF, k_eqT, k_eqF, c_cl, c_sub, nI_add, pk_mul, zin_nI, zg_true, ob_some, zm_none, zm_some, if_true, if_false, Bool.false_eq_true, d_t, d_f, ob_eta, ob_eta1, m_ltn, m_nlt, m_nle, m_len, m_ne, m_ne', k_mltT, k_mltF, k_mleT, k_mleF, k_meqT, k_meqF, m_neg, M_X12_again_B99, e]⟩
      rw [as_y, upd_a]
      by_cases ex : x = z
      · rw [if_pos ex, ex]
      · rw [if_neg ex]; exact hR.2.2 x (by omega)) 288 0 zF T0 () ⟨f0, fun _ _ => rfl, fun x hx => by omega⟩ rfl (by decide)
  have key2 := fun (T0 : zSt) (f0 : zFr (fun x => 4 ≤ x ∧ x ≤ 10) T T0) => lpR (fun n (u : zSt) z => M_X12_again_B61 k n u z) (fun (u : Unit) _ => u) (fun z u _ => zFr (fun x => 4 ≤ x ∧ x ≤ 10) T u ∧ (∀ r, r ≤ 7 → zar u r = zar T0 r) ∧ (∀ x, x < z → zar u 8 x = zar T k (24 + x)) ∧ ∀ x, x < z → zar u 9 x = zar T k (60 + x)) (fun _ o => ∃ T1, o = some (zP (zP (zP T1 0 3 (zar T k 384)) 0 11 (zar T k 385)) 0 12 (zar T k 386)) ∧ zFr (fun x => 4 ≤ x ∧ x ≤ 10) T T1 ∧ (∀ r, r ≤ 7 → zar T1 r = zar T0 r) ∧ (∀ x, x < 36 → zar T1 8 x = zar T k (24 + x)) ∧ (∀ x, x < 36 → zar T1 9 x = zar T k (60 + x)) ∧ ∀ x, x < 288 → zar T1 10 x = zar T k (96 + x)) 36 (fun n u _ hR => by
      obtain ⟨T1, q1, q2, q3, q4⟩ := key3 u hR.1
      refine ⟨T1, by rw [← q1]; simp (disch := omega) only [reduceIte, li, lo, k_leT, k_leF, k_ltT, k_ltF, k_eqT, k_eqF, c_cl, c_sub, nI_add, pk_mul, zin_nI, zg_true, ob_some, zm_none, zm_some, if_true, if_false, Bool.false_eq_true, d_t, d_f, ob_eta, ob_eta1, m_ltn, m_nlt, m_nle, m_len, m_ne, m_ne', k_mltT, k_mltF, k_mleT, k_mleF, k_meqT, k_meqF, m_neg, M_X12_again_B61], q2, fun r hr => (q3 r (by omega)).trans (hR.2.1 r hr), fun x hx => by rw [q3 8 (by decide)]; exact hR.2.2.1 x hx, fun x hx => by rw [q3 9 (by decide)]; exact hR.2.2.2 x hx, q4⟩) (fun n u _ z hz hR => by
      have e := fk hR.1
      have n8 := ne 8 (by decide)
      refine ⟨zAs (zAs u 8 z (zar T k (24 + z))) 9 z (zar T k (60 + z)), ⟨(hR.1.trans (zFr_As (by omega))).trans (zFr_As (by omega)), fun r hr => by rw [as_n (by omega), as_n (by omega)]; exact hR.2.1 r hr, fun x hx => ?_, fun x hx => ?_⟩, by simp (disch := omega) only [reduceIte, li, lo, k_leT, k_leF, k_ltT, k_ltF, k_eqT, k_eqF, c_cl, c_sub, nI_add, pk_mul, zin_nI, zg_true, ob_some, zm_none, zm_some, if_true, if_false, Bool.false_eq_true, d_t, d_f, ob_eta, ob_eta1, m_ltn, m_nlt, m_nle, m_len, m_ne, m_ne', k_mltT, k_mltF, k_mleT, k_mleF, k_meqT, k_meqF, m_neg, M_X12_again_B61, as_n, e]⟩
      · rw [as_n (by decide), as_y, upd_a]
        by_cases ex : x = z
        · rw [if_pos ex, ex]
        · rw [if_neg ex]; exact hR.2.2.1 x (by omega)
      · rw [as_y, upd_a]
        by_cases ex : x = z
        · rw [if_pos ex, ex]
        · rw [if_neg ex, as_n (by decide)]; exact hR.2.2.2 x (by omega)) 36 0 zF T0 () ⟨f0, fun _ _ => rfl, fun x hx => by omega, fun x hx => by omega⟩ rfl (by decide)
  have key1 := lpR (fun n (u : zSt) z => M_X12_again_B2 k n u z) (fun (u : Unit) _ => u) (fun z u _ => zFr (fun x => 4 ≤ x ∧ x ≤ 10) T u ∧ ∀ x, x < z → zar u 4 x = zar T k x ∧ zar u 5 x = zar T k (6 + x) ∧ zar u 6 x = zar T k (12 + x) ∧ zar u 7 x = zar T k (18 + x)) (fun _ o => ∃ T1, o = some (zP (zP (zP T1 0 3 (zar T k 384)) 0 11 (zar T k 385)) 0 12 (zar T k 386)) ∧ zFr (fun x => 4 ≤ x ∧ x ≤ 10) T T1 ∧ (∀ x, x < 6 → zar T1 4 x = zar T k x ∧ zar T1 5 x = zar T k (6 + x) ∧ zar T1 6 x = zar T k (12 + x) ∧ zar T1 7 x = zar T k (18 + x)) ∧ (∀ x, x < 36 → zar T1 8 x = zar T k (24 + x)) ∧ (∀ x, x < 36 → zar T1 9 x = zar T k (60 + x)) ∧ ∀ x, x < 288 → zar T1 10 x = zar T k (96 + x)) 6 (fun n u _ hR => by
      obtain ⟨T1, q1, q2, q3, q4, q5, q6⟩ := key2 u hR.1
      refine ⟨T1, by rw [← q1]; simp (disch := omega) only [reduceIte, li, lo, k_leT, k_leF, k_ltT, k_ltF, k_eqT, k_eqF, c_cl, c_sub, nI_add, pk_mul, zin_nI, zg_true, ob_some, zm_none, zm_some, if_true, if_false, Bool.false_eq_true, d_t, d_f, ob_eta, ob_eta1, m_ltn, m_nlt, m_nle, m_len, m_ne, m_ne', k_mltT, k_mltF, k_mleT, k_mleF, k_meqT, k_meqF, m_neg, M_X12_again_B2], q2, fun x hx => ?_, q4, q5, q6⟩
      rw [q3 4 (by decide), q3 5 (by decide), q3 6 (by decide), q3 7 (by decide)]
      exact hR.2 x hx) (fun n u _ z hz hR => by
      have e := fk hR.1
      have n4 := ne 4 (by decide)
      have n5 := ne 5 (by decide)
      have n6 := ne 6 (by decide)
      refine ⟨zAs (zAs (zAs (zAs u 4 z (zar T k z)) 5 z (zar T k (6 + z))) 6 z (zar T k (12 + z))) 7 z (zar T k (18 + z)), ⟨(((hR.1.trans (zFr_As (by omega))).trans (zFr_As (by omega))).trans (zFr_As (by omega))).trans (zFr_As (by omega)), fun x hx => ?_⟩, by simp (disch := omega) only [reduceIte, li, lo, k_leT, k_leF, k_ltT, k_ltF, k_eqT, k_eqF, c_cl, c_sub, nI_add, pk_mul, zin_nI, zg_true, ob_some, zm_none, zm_some, if_true, if_false, Bool.false_eq_true, d_t, d_f, ob_eta, ob_eta1, m_ltn, m_nlt, m_nle, m_len, m_ne, m_ne', k_mltT, k_mltF, k_mleT, k_mleF, k_meqT, k_meqF, m_neg, M_X12_again_B2, as_n, e]⟩
      have r4 : zar (zAs (zAs (zAs (zAs u 4 z (zar T k z)) 5 z (zar T k (6 + z))) 6 z (zar T k (12 + z))) 7 z (zar T k (18 + z))) 4 = upd (zar u 4) z (zar T k z) := by
        rw [as_n (by decide), as_n (by decide), as_n (by decide), as_y]
      have r5 : zar (zAs (zAs (zAs (zAs u 4 z (zar T k z)) 5 z (zar T k (6 + z))) 6 z (zar T k (12 + z))) 7 z (zar T k (18 + z))) 5 = upd (zar u 5) z (zar T k (6 + z)) := by
        rw [as_n (by decide), as_n (by decide), as_y, as_n (by decide)]
      have r6 : zar (zAs (zAs (zAs (zAs u 4 z (zar T k z)) 5 z (zar T k (6 + z))) 6 z (zar T k (12 + z))) 7 z (zar T k (18 + z))) 6 = upd (zar u 6) z (zar T k (12 + z)) := by
        rw [as_n (by decide), as_y, as_n (by decide), as_n (by decide)]
      have r7 : zar (zAs (zAs (zAs (zAs u 4 z (zar T k z)) 5 z (zar T k (6 + z))) 6 z (zar T k (12 + z))) 7 z (zar T k (18 + z))) 7 = upd (zar u 7) z (zar T k (18 + z)) := by
        rw [as_y, as_n (by decide), as_n (by decide), as_n (by decide)]
      rw [r4, r5, r6, r7]
      by_cases ex : x = z
      · subst ex
        exact ⟨pk_us, pk_us, pk_us, pk_us⟩
      · rw [pk_un ex, pk_un ex, pk_un ex, pk_un ex]
        exact hR.2 x (by omega)) 6 0 zF T () ⟨zFr.rf, fun x hx => by omega⟩ rfl (by decide)
  obtain ⟨T1, q1, q2, q3, q4, q5, q6⟩ := key1
  refine ⟨_, q1, (((q2.mono (fun k z => Or.inr z)).trans (zFr_P (P := zAg) (Or.inl rfl))).trans (zFr_P (P := zAg) (Or.inl rfl))).trans (zFr_P (P := zAg) (Or.inl rfl)), ⟨?_, ?_, ?_, fun p hp => ?_⟩, fun f h1 h2 h3 => ?_⟩
  · rw [p_y, if_neg (by decide), p_y, if_neg (by decide), p_y, if_pos rfl]; exact h.1
  · rw [p_y, if_neg (by decide), p_y, if_pos rfl]; exact h.2.1
  · rw [p_y, if_pos rfl]; exact h.2.2.1
  · obtain ⟨a1, a2, a3, a4, a5, a6, a7⟩ := h.2.2.2 p hp
    obtain ⟨b1, b2, b3, b4⟩ := q3 p (by omega)
    refine ⟨b1.trans a1, b2.trans a2, b3.trans a3, b4.trans a4, fun c hc => (q4 _ (by omega)).trans (a5 c hc), fun c hc => (q5 _ (by omega)).trans (a6 c hc), fun c hc => (q6 _ (by omega)).trans (a7 c hc)⟩
  · rw [p_y, if_neg h3, p_y, if_neg h2, p_y, if_neg h1, q2.sc (by omega)]
end TAK
