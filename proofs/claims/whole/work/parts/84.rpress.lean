theorem mx0_f (y : Int32) : (if nI 0 < y then y else nI 0) = mx0 y := nr rfl
section RPR
variable {pk : Nat → Nat} {S T : zSt} {i p x : Nat} {d : zD}
theorem r_gives2 (h : Rp T d p) (k : Kp d p) (hp : p < 6) (f : Int32) (hz : ∀ c, c < 6 → zar T 16 c = nI 0) : ∃ T', M_X12_gives_B31 zF T (nI p) f (nI (dou d p)) = some T' ∧ zFr (fun k => k = 16) T T' ∧ ∀ c, c < 6 → zar T' 16 c = if c < dou d p then nI 0 else dGot d p f (c - dou d p) := by
  have ho := k.o
  have key := lpR (fun n (a : zSt × Int32) z => M_X12_gives_B31 n a.1 (nI p) a.2 z) (fun (u : Unit) _ => u) (fun z a _ => zFr (fun k => k = 16) T a.1 ∧ (∀ c, c < 6 → zar a.1 16 c = if c < dou d p then nI 0 else if c < z then dGot d p f (c - dou d p) else nI 0) ∧ (z = dou d p → a.2 = f) ∧ (dou d p < z → a.2 = dGot d p f (z - 1 - dou d p)) ∧ dou d p ≤ z) (fun _ o => ∃ T', o = some T' ∧ zFr (fun k => k = 16) T T' ∧ ∀ c, c < 6 → zar T' 16 c = if c < dou d p then nI 0 else dGot d p f (c - dou d p)) 6 (fun n a c hR => ?_) (fun n a c z hz hR => ?_) (6 - dou d p) (dou d p) zF (T, f) () ⟨zFr.rf, fun c hc => ?_, fun _ => rfl, fun q => absurd q (Nat.lt_irrefl _), Nat.le_refl _⟩ (by omega) (by show _ < 4096; omega)
  · exact key
  · obtain ⟨h1, h2, -⟩ := hR
    refine ⟨a.1, by simp (disch := omega) only [li, lo, c_le, c_lt, c_eq, c_cl, c_sub, nI_add, pk_mul, zin_nI, zg_true, ob_some, zm_none, zm_some, if_pos, if_neg, if_true, if_false, Bool.false_eq_true, d_t, d_f, ob_eta, ob_eta1, m_ltn, m_nlt, m_nle, m_len, m_ne, m_ne', m_mlt, m_mle, m_meq, m_neg, M_X12_gives_B31], h1, fun c hc => ?_⟩
    rw [h2 c hc]
    simp only [hc, if_true]
  · obtain ⟨h1, h2, h3, h4, h5⟩ := hR
    have hr := h.fr h1 (fun k a b => by omega)
    by_cases e : z = dou d p
    · have e2 := h3 e
      refine ⟨(zAs a.1 16 z f, f), ⟨h1.trans (zFr_As rfl), fun c hc => ?_, fun q => by omega, fun q => ?_, by omega⟩, ?_⟩
      · rw [as_y]
        by_cases ec : c = z
        · subst ec; rw [pk_us, if_neg (by omega), if_pos (by omega), show c - dou d p = 0 by omega]; rfl
        · rw [pk_un ec, h2 c hc]
          by_cases q : c < dou d p
          · simp only [q, if_true]
          · rw [if_neg q, if_neg q, if_neg (by omega), if_neg (by omega)]
      · show f = _
        rw [show z + 1 - 1 - dou d p = 0 by omega]; rfl
      · show M_X12_gives_B31 (n + 1) a.1 (nI p) a.2 (nI z) = M_X12_gives_B31 n (zAs a.1 16 z f) (nI p) f (nI (z + 1))
        rw [M_X12_gives_B31, e2]
        simp (disch := omega) only [li, lo, c_le, c_lt, c_eq, c_cl, c_sub, nI_add, pk_mul, zin_nI, zg_true, ob_some, zm_none, zm_some, if_pos, if_neg, if_true, if_false, Bool.false_eq_true, d_t, d_f, ob_eta, ob_eta1, m_ltn, m_nlt, m_nle, m_len, m_ne, m_ne', m_mlt, m_mle, m_meq, m_neg, hr.ou, M_X12_gives_B70]
    · have e2 := h4 (by omega)
      have hl := r_lossAt hr k hp (show z - dou d p < 100 by omega)
      have eg : mx0 (a.2 - dLoss d p (z - dou d p)) = dGot d p f (z - dou d p) := by
        rw [e2, show z - dou d p = (z - 1 - dou d p) + 1 by omega]; rfl
      refine ⟨(zAs a.1 16 z (dGot d p f (z - dou d p)), dGot d p f (z - dou d p)), ⟨h1.trans (zFr_As rfl), fun c hc => ?_, fun q => by omega, fun q => ?_, by omega⟩, ?_⟩
      · rw [as_y]
        by_cases ec : c = z
        · subst ec; rw [pk_us, if_neg (by omega), if_pos (by omega)]
        · rw [pk_un ec, h2 c hc]
          by_cases q : c < dou d p
          · simp only [q, if_true]
          · rw [if_neg q, if_neg q]
            by_cases q2 : c < z
            · rw [if_pos q2, if_pos (by omega)]
            · rw [if_neg q2, if_neg (by omega)]
      · show _ = dGot d p f (z + 1 - 1 - dou d p)
        rw [Nat.add_sub_cancel]
      · show M_X12_gives_B31 (n + 1) a.1 (nI p) a.2 (nI z) = M_X12_gives_B31 n (zAs a.1 16 z (dGot d p f (z - dou d p))) (nI p) (dGot d p f (z - dou d p)) (nI (z + 1))
        rw [M_X12_gives_B31]
        simp (disch := omega) only [li, lo, c_le, c_lt, c_eq, c_cl, c_sub, nI_add, pk_mul, zin_nI, zg_true, ob_some, zm_none, zm_some, if_pos, if_neg, if_true, if_false, Bool.false_eq_true, d_t, d_f, ob_eta, ob_eta1, m_ltn, m_nlt, m_nle, m_len, m_ne, m_ne', m_mlt, m_mle, m_meq, m_neg, hr.ou, M_X12_gives_B70, hl, mx0_f, eg]
  · show zar T 16 c = _
    rw [hz c hc]
    by_cases q : c < dou d p
    · rw [if_pos q]
    · rw [if_neg q, if_neg q]
theorem r_gives (h : Rp T d p) (k : Kp d p) (hp : p < 6) (f : Int32) : ∃ T', M_X12_gives T (nI p) f = some T' ∧ zFr (fun k => k = 16) T T' ∧ ∀ c, c < 6 → zar T' 16 c = if c < dou d p then nI 0 else dGot d p f (c - dou d p) := by
  have key := lpR (fun n (a : zSt) z => M_X12_gives_B2 n a (nI p) f z) (fun (u : Unit) _ => u) (fun z a _ => zFr (fun k => k = 16) T a ∧ ∀ c, c < z → zar a 16 c = nI 0) (fun _ o => ∃ T', o = some T' ∧ zFr (fun k => k = 16) T T' ∧ ∀ c, c < 6 → zar T' 16 c = if c < dou d p then nI 0 else dGot d p f (c - dou d p)) 6 (fun n a c hR => ?_) (fun n a c z hz hR => ?_) 6 0 zF T () ⟨zFr.rf, fun c hc => absurd hc (Nat.not_lt_zero _)⟩ rfl (by decide)
  · exact key
  · obtain ⟨h1, h2⟩ := hR
    have hr := h.fr h1 (fun k a b => by omega)
    obtain ⟨T', e, f1, f2⟩ := r_gives2 hr k hp f h2
    refine ⟨T', ?_, h1.trans f1, f2⟩
    show M_X12_gives_B2 (n + 1) a (nI p) f (nI 6) = _
    rw [M_X12_gives_B2]
    simp (disch := omega) only [li, lo, c_le, c_lt, c_eq, c_cl, c_sub, nI_add, pk_mul, zin_nI, zg_true, ob_some, zm_none, zm_some, if_pos, if_neg, if_true, if_false, Bool.false_eq_true, d_t, d_f, ob_eta, ob_eta1, m_ltn, m_nlt, m_nle, m_len, m_ne, m_ne', m_mlt, m_mle, m_meq, m_neg, hr.ou, e]
  · obtain ⟨h1, h2⟩ := hR
    refine ⟨zAs a 16 z (nI 0), ⟨h1.trans (zFr_As rfl), fun c hc => ?_⟩, ?_⟩
    · rw [as_y]
      by_cases ec : c = z
      · subst ec; rw [pk_us]
      · rw [pk_un ec]; exact h2 c (by omega)
    · show M_X12_gives_B2 (n + 1) a (nI p) f (nI z) = M_X12_gives_B2 n (zAs a 16 z (nI 0)) (nI p) f (nI (z + 1))
      rw [M_X12_gives_B2]
      simp (disch := omega) only [li, lo, c_le, c_lt, c_eq, c_cl, c_sub, nI_add, pk_mul, zin_nI, zg_true, ob_some, zm_none, zm_some, if_pos, if_neg, if_true, if_false, Bool.false_eq_true, d_t, d_f, ob_eta, ob_eta1, m_ltn, m_nlt, m_nle, m_len, m_ne, m_ne', m_mlt, m_mle, m_meq, m_neg]
/-- the reference's press changes rows 9, 10, 16 -/
def zQ9 (k : Nat) : Prop := k = 9 ∨ k = 10 ∨ k = 16
theorem r_press (h : RR T d) (K : KK d) (hp : p < dn d) (hx : x < 8) (f : Int32) : ∃ T', M_X12_presses T (nI p) (nI x) f = some ((sPress d p x f).2, T') ∧ RR T' (sPress d p x f).1 ∧ zFr zQ9 T T' := by
  have kp := K.pe hp
  have ho := kp.o
  have kd := kp.1
  have h6 := K.1
  have hp6 : p < 6 := by omega
  obtain ⟨T1, e1, f1, g1⟩ := r_gives (h.pe hp) kp hp6 f
  have hR1 : RR T1 d := h.fr f1 (by rw [f1.sc (by decide)]) (by rw [f1.sc (by decide)]) (by rw [f1.sc (by decide)]) (fun k a b => by omega)
  have f1' : zFr zQ9 T T1 := f1.mono (fun k q => Or.inr (Or.inr q))
  have key := lpR (fun n (a : zSt × Int32) z => M_X12_presses_B17 n a.1 (nI p) (nI x) a.2 z) (sPrS d p x f) (fun z a c => RR a.1 c.1 ∧ zFr (fun k => k = 9 ∨ k = 10) T1 a.1 ∧ a.2 = c.2 ∧ Alk p d c.1 ∧ dou d p ≤ z) (fun c o => ∃ T', o = some (c.2, T') ∧ RR T' c.1 ∧ zFr (fun k => k = 9 ∨ k = 10) T1 T') 6 (fun n a c hR => ?_) (fun n a c z hz hR => ?_) (6 - dou d p) (dou d p) zF (T1, nI 0) (d, nI 0) ⟨hR1, zFr.rf, rfl, Alk.rf, Nat.le_refl _⟩ (by omega) (by show _ < 4096; omega)
  · obtain ⟨T', e, a, b⟩ := key
    refine ⟨T', ?_, a, f1'.trans (b.mono (fun k q => by unfold zQ9; omega))⟩
    unfold M_X12_presses
    rw [e1]
    simp (disch := omega) only [li, lo, c_le, c_lt, c_eq, c_cl, c_sub, nI_add, pk_mul, zin_nI, zg_true, ob_some, zm_none, zm_some, if_pos, if_neg, if_true, if_false, Bool.false_eq_true, d_t, d_f, ob_eta, ob_eta1, m_ltn, m_nlt, m_nle, m_len, m_ne, m_ne', m_mlt, m_mle, m_meq, m_neg, (hR1.pe hp).ou]
    exact e
  · obtain ⟨h1, h2, h3, -⟩ := hR
    refine ⟨a.1, ?_, h1, h2⟩
    rw [← h3]
    simp (disch := omega) only [li, lo, c_le, c_lt, c_eq, c_cl, c_sub, nI_add, pk_mul, zin_nI, zg_true, ob_some, zm_none, zm_some, if_pos, if_neg, if_true, if_false, Bool.false_eq_true, d_t, d_f, ob_eta, ob_eta1, m_ltn, m_nlt, m_nle, m_len, m_ne, m_ne', m_mlt, m_mle, m_meq, m_neg, M_X12_presses_B17]
  · obtain ⟨h1, h2, h3, h5, h6'⟩ := hR
    have hp' : p < dn c.1 := by rw [h5.1]; exact hp
    have hr := h1.pe hp'
    have eg : zar a.1 16 z = dGot d p f (z - dou d p) := by
      rw [h2.ar (by decide), g1 z hz, if_neg (by omega)]
    by_cases e : dGot d p f (z - dou d p) = nI 0
    · refine ⟨a, ⟨?_, h2, ?_, ?_, by omega⟩, ?_⟩
      · unfold sPrS; rw [if_pos e]; exact h1
      · unfold sPrS; rw [if_pos e]; exact h3
      · unfold sPrS; rw [if_pos e]; exact h5
      · show M_X12_presses_B17 (n + 1) a.1 (nI p) (nI x) a.2 (nI z) = M_X12_presses_B17 n a.1 (nI p) (nI x) a.2 (nI (z + 1))
        rw [M_X12_presses_B17]
        simp (disch := omega) only [li, lo, c_le, c_lt, c_eq, c_cl, c_sub, nI_add, pk_mul, zin_nI, zg_true, ob_some, zm_none, zm_some, if_pos, if_neg, if_true, if_false, Bool.false_eq_true, d_t, d_f, ob_eta, ob_eta1, m_ltn, m_nlt, m_nle, m_len, m_ne, m_ne', m_mlt, m_mle, m_meq, m_neg, eg, e]
    · have hj : 8 * z + x < 48 := by omega
      have e2 := r_strengthOf hr hp6 hz hx
      have hJ : 48 * p + 8 * z + x = 48 * p + (8 * z + x) := by omega
      have k7 : zar a.1 7 p = nI (dou d p) := by rw [hr.ou, h5.2.2.2.2.1]
      have k4 : zar a.1 4 p = nI (dk d p) := by rw [hr.knd, h5.2.2.2.1]
      have k5 : zar a.1 5 p = dv d p 60 := by rw [hr.a, (h5.2.2.2.2.2.1 p).1]
      have k9 : zar a.1 9 (6 * p + z) = dv c.1 p (54 + z) := hr.dr hz
      have w1 := h1.put10 (v := m99 (dv c.1 p (8 * z + x) + dGot d p f (z - dou d p))) hp' hj
      have w2 := w1.put9 (p := p) (j := z) (v := m999 (dv c.1 p (54 + z) + dDrift d p (z - dou d p))) hp' hz
      have ka : ∀ r, r ≠ 10 → zar (zAs a.1 10 (48 * p + (8 * z + x)) (m99 (dv c.1 p (8 * z + x) + dGot d p f (z - dou d p)))) r = zar a.1 r := fun r hr => as_n hr
      have key : M_X12_presses_B17 (n + 1) a.1 (nI p) (nI x) a.2 (nI z) = M_X12_presses_B17 n (zAs (zAs a.1 10 (48 * p + (8 * z + x)) (m99 (dv c.1 p (8 * z + x) + dGot d p f (z - dou d p)))) 9 (6 * p + z) (m999 (dv c.1 p (54 + z) + dDrift d p (z - dou d p)))) (nI p) (nI x) (a.2 + nI 1) (nI (z + 1)) := by
        rw [M_X12_presses_B17]
        unfold dDrift sDrift
        by_cases e6 : dk d p = 6
        · by_cases e3 : z - dou d p < 3
          · simp (disch := omega) only [li, lo, c_le, c_lt, c_eq, c_cl, c_sub, nI_add, pk_mul, zin_nI, zg_true, ob_some, zm_none, zm_some, if_pos, if_neg, if_true, if_false, Bool.false_eq_true, d_t, d_f, ob_eta, ob_eta1, m_ltn, m_nlt, m_nle, m_len, m_ne, m_ne', m_mlt, m_mle, m_meq, m_neg, eg, e, e2, hJ, m99_f, ka 7, ka 4, ka 5, ka 9, k7, k4, k5, k9, e6, e3, M_X12_presses_B120, M_X12_presses_B126, m999_f, Int32.mul_comm (nI (z - dou d p)) (dv d p 60)]
            rw [show nI 0 = (0 : Int32) from rfl, add0]
          · simp (disch := omega) only [li, lo, c_le, c_lt, c_eq, c_cl, c_sub, nI_add, pk_mul, zin_nI, zg_true, ob_some, zm_none, zm_some, if_pos, if_neg, if_true, if_false, Bool.false_eq_true, d_t, d_f, ob_eta, ob_eta1, m_ltn, m_nlt, m_nle, m_len, m_ne, m_ne', m_mlt, m_mle, m_meq, m_neg, eg, e, e2, hJ, m99_f, ka 7, ka 4, ka 5, ka 9, k7, k4, k5, k9, e6, e3, M_X12_presses_B120, M_X12_presses_B126, m999_f, Int32.mul_comm (nI (z - dou d p)) (dv d p 60)]
        · simp (disch := omega) only [li, lo, c_le, c_lt, c_eq, c_cl, c_sub, nI_add, pk_mul, zin_nI, zg_true, ob_some, zm_none, zm_some, if_pos, if_neg, if_true, if_false, Bool.false_eq_true, d_t, d_f, ob_eta, ob_eta1, m_ltn, m_nlt, m_nle, m_len, m_ne, m_ne', m_mlt, m_mle, m_meq, m_neg, eg, e, e2, hJ, m99_f, ka 7, ka 4, ka 5, ka 9, k7, k4, k5, k9, e6, M_X12_presses_B120, M_X12_presses_B126, m999_f]
      refine ⟨(zAs (zAs a.1 10 (48 * p + (8 * z + x)) (m99 (dv c.1 p (8 * z + x) + dGot d p f (z - dou d p)))) 9 (6 * p + z) (m999 (dv c.1 p (54 + z) + dDrift d p (z - dou d p))), a.2 + nI 1), ⟨?_, ?_, ?_, ?_, by omega⟩, key⟩
      · unfold sPrS; rw [if_neg e]; exact w2
      · exact (h2.trans (zFr_As (Or.inr rfl))).trans (zFr_As (Or.inl rfl))
      · unfold sPrS; rw [if_neg e, h3]
      · unfold sPrS; rw [if_neg e]
        exact (h5.put (by omega)).put (by omega)
theorem l_rub (h : LL i pk S d) (hn : dn d ≤ 6) (P0 : PK pk S) (hp : p < dn d) {c : Nat} (hc : c < 6) (hx : x < 8) : ∃ S', M_X5_rubOn pk S (6 * i + p) (nI c) (nI x) = some (dv d p (8 * c + x), S') ∧ LL i pk S' (sRub d p c x) ∧ zFr (fun k => zZ i k ∧ k % 4 ≠ 0) S S' ∧ PK pk S' := by
  have hl := h.pe hp
  have hJ : c * 8 + x = 8 * c + x := by omega
  have hi : zFr (fun k => zZ i k ∧ k % 4 ≠ 0) S (zAs (zAs S (100 + 4 * (6 * i + p) + 1) (8 * c + x) (nI 0)) (100 + 4 * (6 * i + p) + 2) c (m99 (dv d p (48 + c) + nI 1))) := by
    refine (zFr_As ?_).trans (zFr_As ?_)
    · unfold zZ; omega
    · unfold zZ; omega
  refine ⟨zAs (zAs S (100 + 4 * (6 * i + p) + 1) (8 * c + x) (nI 0)) (100 + 4 * (6 * i + p) + 2) c (m99 (dv d p (48 + c) + nI 1)), ?_, ?_, hi, P0.fr hi (fun q _ => by omega)⟩
  · unfold M_X5_rubOn
    have e2 : zar (zAs S (100 + 4 * (6 * i + p) + 1) (8 * c + x) (nI 0)) (100 + 4 * (6 * i + p) + 2) c = dv d p (48 + c) := by
      rw [as_n (by omega)]; exact hl.sm hc
    simp (disch := omega) only [li, lo, c_le, c_lt, c_eq, c_cl, c_sub, nI_add, pk_mul, zin_nI, zg_true, ob_some, zm_none, zm_some, if_pos, if_neg, if_true, if_false, Bool.false_eq_true, d_t, d_f, ob_eta, ob_eta1, m_ltn, m_nlt, m_nle, m_len, m_ne, m_ne', m_mlt, m_mle, m_meq, m_neg, t_isCopy pk S hc, t_isDeed pk S hx, hJ, hl.st (show 8 * c + x < 48 by omega), e2, m99_f]
  · have := (h.put1 (p := p) (v := nI 0) (show 8 * c + x < 48 by omega)).put2 (p := p) (v := m99 (dv d p (48 + c) + nI 1)) hc
    exact this
theorem r_rub (h : RR T d) (hn : dn d ≤ 6) (hp : p < dn d) {c : Nat} (hc : c < 6) (hx : x < 8) : ∃ T', M_X12_rubs T (nI p) (nI c) (nI x) = some (dv d p (8 * c + x), T') ∧ RR T' (sRub d p c x) ∧ zFr (fun k => k = 8 ∨ k = 10) T T' := by
  have hr := h.pe hp
  have hJ : 48 * p + 8 * c + x = 48 * p + (8 * c + x) := by omega
  refine ⟨zAs (zAs T 10 (48 * p + (8 * c + x)) (nI 0)) 8 (6 * p + c) (m99 (dv d p (48 + c) + nI 1)), ?_, ?_, (zFr_As (Or.inr rfl)).trans (zFr_As (Or.inl rfl))⟩
  · unfold M_X12_rubs
    have e2 : zar (zAs T 10 (48 * p + (8 * c + x)) (nI 0)) 8 (6 * p + c) = dv d p (48 + c) := by
      rw [as_n (by decide)]; exact hr.sm hc
    simp (disch := omega) only [li, lo, c_le, c_lt, c_eq, c_cl, c_sub, nI_add, pk_mul, zin_nI, zg_true, ob_some, zm_none, zm_some, if_pos, if_neg, if_true, if_false, Bool.false_eq_true, d_t, d_f, ob_eta, ob_eta1, m_ltn, m_nlt, m_nle, m_len, m_ne, m_ne', m_mlt, m_mle, m_meq, m_neg, r_strengthOf hr (show p < 6 by omega) hc hx, hJ, e2, m99_f]
  · have := (h.put10 (p := p) (v := nI 0) hp (show 8 * c + x < 48 by omega)).put8 (p := p) (v := m99 (dv d p (48 + c) + nI 1)) hp hc
    exact this
theorem rub_alk {c : Nat} (hc : c < 6) (hx : x < 8) : Alk p d (sRub d p c x) := (Alk.rf.put (by omega)).put (by omega)
end RPR
