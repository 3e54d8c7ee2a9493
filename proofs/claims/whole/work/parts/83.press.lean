/-! a press, a rub: both sides -/
def sPrS (d : zD) (p x : Nat) (f : Int32) (c : zD × Int32) (i : Nat) : zD × Int32 := if dGot d p f (i - dou d p) = nI 0 then c else (dPut (dPut c.1 p (8 * i + x) (m99 (dv c.1 p (8 * i + x) + dGot d p f (i - dou d p)))) p (54 + i) (m999 (dv c.1 p (54 + i) + dDrift d p (i - dou d p))), c.2 + nI 1)
def sPress (d : zD) (p x : Nat) (f : Int32) : zD × Int32 := sFo (sPrS d p x f) (dou d p) (6 - dou d p) (d, nI 0)
def sRub (d : zD) (p c x : Nat) : zD := dPut (dPut d p (8 * c + x) (nI 0)) p (48 + c) (m99 (dv d p (48 + c) + nI 1))
theorem m99_f (y : Int32) : (if y < nI 99 then y else nI 99) = m99 y := nr rfl
theorem m999_f (y : Int32) : (if -nI 999 < (if y < nI 999 then y else nI 999) then (if y < nI 999 then y else nI 999) else -nI 999) = m999 y := nr rfl
section PRE
variable {pk : Nat → Nat} {S T : zSt} {i p x : Nat} {d : zD}
theorem LL.pe (h : LL i pk S d) (hp : p < dn d) : Lp pk S (6 * i + p) d p := h.2.2.2 p hp
theorem RR.pe (h : RR T d) (hp : p < dn d) : Rp T d p := h.2.2.2 p hp
theorem KK.pe (h : KK d) (hp : p < dn d) : Kp d p := h.2.2 p hp
theorem sFo_inv {α : Type} (g : α → Nat → α) (I : α → Prop) (hs : ∀ a i, I a → I (g a i)) : ∀ (m i : Nat) (a : α), I a → I (sFo g i m a) := by
  intro m
  induction m with
  | zero => intro i a h; exact h
  | succ m ih => intro i a h; exact ih _ _ (hs a i h)
theorem sFo_invB {α : Type} (g : α → Nat → α) (I : α → Prop) (e : Nat) (hs : ∀ a i, i < e → I a → I (g a i)) : ∀ (m i : Nat) (a : α), i + m ≤ e → I a → I (sFo g i m a) := by
  intro m
  induction m with
  | zero => intro i a _ h; exact h
  | succ m ih => intro i a he h; exact ih _ _ (by omega) (hs a i (by omega) h)
theorem press_alk (hx : x < 8) (f : Int32) (ho : dou d p ≤ 6) : Alk p d (sPress d p x f).1 := by
  refine sFo_invB (sPrS d p x f) (fun c => Alk p d c.1) 6 (fun a i hi h => ?_) _ _ _ (by omega) Alk.rf
  unfold sPrS
  split
  · exact h
  · exact (h.put (by omega)).put (by omega)
theorem l_press (h : LL i pk S d) (K : KK d) (P0 : PK pk S) (hp : p < dn d) (hx : x < 8) {f : Int32} (hf : ¬ f < nI 0) : ∃ S', M_X5_pressWith pk S (6 * i + p) (nI x) f = some ((sPress d p x f).2, S') ∧ LL i pk S' (sPress d p x f).1 ∧ zFr (zZ i) S S' ∧ PK pk S' := by
  have kp := K.pe hp
  have ho := kp.o
  have h6 := K.1
  have key := lpR (fun n (a : zSt × Int32) z => M_X5_pressWith_B12 pk (6 * i + p) n a.1 (nI x) f a.2 z) (sPrS d p x f) (fun z a c => LL i pk a.1 c.1 ∧ zFr (zZ i) S a.1 ∧ PK pk a.1 ∧ a.2 = c.2 ∧ Alk p d c.1 ∧ dou d p ≤ z) (fun c o => ∃ S', o = some (c.2, S') ∧ LL i pk S' c.1 ∧ zFr (zZ i) S S' ∧ PK pk S') 6 (fun n a c hR => ?_) (fun n a c z hz hR => ?_) (6 - dou d p) (dou d p) zF (S, nI 0) (d, nI 0) ⟨h, zFr.rf, P0, rfl, Alk.rf, Nat.le_refl _⟩ (by omega) (by show _ < 4096; omega)
  · have e : (if (0 : Int32) < nI (dou d p) then nI (dou d p) else (0 : Int32)) = nI (dou d p) := by
      by_cases e : 0 < dou d p
      · exact if_pos (nI_lt e (by omega))
      · rw [show dou d p = 0 by omega]
        exact if_neg (Int32.lt_irrefl (a := 0))
    have k2 : M_X5_pressWith pk S (6 * i + p) (nI x) f = M_X5_pressWith_B12 pk (6 * i + p) zF S (nI x) f (nI 0) (nI (dou d p)) := by
      unfold M_X5_pressWith
      rw [(h.pe hp).ou, e]
      simp (disch := omega) only [li, lo, c_le, c_lt, c_eq, c_cl, c_sub, nI_add, pk_mul, zin_nI, zg_true, ob_some, zm_none, zm_some, if_pos, if_neg, if_true, if_false, Bool.false_eq_true, d_t, d_f, ob_eta, ob_eta1, m_ltn, m_nlt, m_nle, m_len, m_ne, m_ne', m_mlt, m_mle, m_meq, m_neg]
    rw [k2]
    exact key
  · obtain ⟨h1, h2, h3, h4, -, -⟩ := hR
    refine ⟨a.1, ?_, h1, h2, h3⟩
    rw [← h4]
    simp (disch := omega) only [li, lo, c_le, c_lt, c_eq, c_cl, c_sub, nI_add, pk_mul, zin_nI, zg_true, ob_some, zm_none, zm_some, if_pos, if_neg, if_true, if_false, Bool.false_eq_true, d_t, d_f, ob_eta, ob_eta1, m_ltn, m_nlt, m_nle, m_len, m_ne, m_ne', m_mlt, m_mle, m_meq, m_neg, M_X5_pressWith_B12]
  · obtain ⟨h1, h2, h3, h4, h5, h6'⟩ := hR
    have hp' : p < dn c.1 := by rw [h5.1]; exact hp
    have kc : KK c.1 := h5.kk K
    have hl := h1.pe hp'
    have eo : dou c.1 p = dou d p := by rw [h5.2.2.2.2.1]
    have hg := l_gotBy hl (kc.pe hp') hz (by rw [eo]; exact h6') f
    rw [eo, h5.got] at hg
    have g0 := got_0 d p hf (z - dou d p)
    by_cases e : dGot d p f (z - dou d p) = nI 0
    · refine ⟨a, ⟨?_, h2, h3, ?_, ?_, by omega⟩, ?_⟩
      · unfold sPrS; rw [if_pos e]; exact h1
      · unfold sPrS; rw [if_pos e]; exact h4
      · unfold sPrS; rw [if_pos e]; exact h5
      · have g1 : (dGot d p f (z - dou d p) ≤ nI 0) = True := eq_true (g0.mpr e)
        show M_X5_pressWith_B12 pk (6 * i + p) (n + 1) a.1 (nI x) f a.2 (nI z) = M_X5_pressWith_B12 pk (6 * i + p) n a.1 (nI x) f a.2 (nI (z + 1))
        rw [M_X5_pressWith_B12]
        simp (disch := omega) only [li, lo, c_le, c_lt, c_eq, c_cl, c_sub, nI_add, pk_mul, zin_nI, zg_true, ob_some, zm_none, zm_some, if_pos, if_neg, if_true, if_false, Bool.false_eq_true, d_t, d_f, ob_eta, ob_eta1, m_ltn, m_nlt, m_nle, m_len, m_ne, m_ne', m_mlt, m_mle, m_meq, m_neg, t_isDeed pk a.1 hx, hg, g1]
    · have g1 : (dGot d p f (z - dou d p) ≤ nI 0) = False := eq_false (fun q => e (g0.mp q))
      have hj : 8 * z + x < 48 := by omega
      have hJ : z * 8 + x = 8 * z + x := by omega
      have e1 : zar a.1 (100 + 4 * (6 * i + p) + 1) (8 * z + x) = dv c.1 p (8 * z + x) := hl.st hj
      have hl1 := h1.put1 (p := p) (v := m99 (dv c.1 p (8 * z + x) + dGot d p f (z - dou d p))) hj
      have e3 : zar (zAs a.1 (100 + 4 * (6 * i + p) + 1) (8 * z + x) (m99 (dv c.1 p (8 * z + x) + dGot d p f (z - dou d p)))) (100 + 4 * (6 * i + p) + 3) z = dv c.1 p (54 + z) := by
        rw [as_n (by omega)]; exact hl.dr hz
      have hd := l_driftOver (hl1.pe hp') (((Alk.rf.put (p := p) (d := c.1) (v := m99 (dv c.1 p (8 * z + x) + dGot d p f (z - dou d p))) (show 8 * z + x < 60 by omega)).kk kc).pe hp') (show z - dou d p < 100 by omega)
      rw [(Alk.rf.put (p := p) (d := c.1) (v := m99 (dv c.1 p (8 * z + x) + dGot d p f (z - dou d p))) (show 8 * z + x < 60 by omega)).drift, h5.drift] at hd
      have hou : zsc a.1 (100 + 4 * (6 * i + p)) 8 = nI (dou d p) := by rw [← eo]; exact hl.ou
      have key : M_X5_pressWith_B12 pk (6 * i + p) (n + 1) a.1 (nI x) f a.2 (nI z) = M_X5_pressWith_B12 pk (6 * i + p) n (zAs (zAs a.1 (100 + 4 * (6 * i + p) + 1) (8 * z + x) (m99 (dv c.1 p (8 * z + x) + dGot d p f (z - dou d p)))) (100 + 4 * (6 * i + p) + 3) z (m999 (dv c.1 p (54 + z) + dDrift d p (z - dou d p)))) (nI x) f (a.2 + nI 1) (nI (z + 1)) := by
        rw [M_X5_pressWith_B12]
        simp (disch := omega) only [li, lo, c_le, c_lt, c_eq, c_cl, c_sub, nI_add, pk_mul, zin_nI, zg_true, ob_some, zm_none, zm_some, if_pos, if_neg, if_true, if_false, Bool.false_eq_true, d_t, d_f, ob_eta, ob_eta1, m_ltn, m_nlt, m_nle, m_len, m_ne, m_ne', m_mlt, m_mle, m_meq, m_neg, t_isDeed pk a.1 hx, hg, g1, hJ, e1, as_s, hou, m99_f, m999_f, hd, e3]
      refine ⟨(zAs (zAs a.1 (100 + 4 * (6 * i + p) + 1) (8 * z + x) (m99 (dv c.1 p (8 * z + x) + dGot d p f (z - dou d p)))) (100 + 4 * (6 * i + p) + 3) z (m999 (dv c.1 p (54 + z) + dDrift d p (z - dou d p))), a.2 + nI 1), ⟨?_, ?_, ?_, ?_, ?_, by omega⟩, key⟩
      · unfold sPrS; rw [if_neg e]
        have := hl1.put3 (p := p) (v := m999 (dv c.1 p (54 + z) + dDrift d p (z - dou d p))) hz
        exact this
      · refine (h2.trans (zFr_As ?_)).trans (zFr_As ?_)
        · unfold zZ; omega
        · unfold zZ; omega
      · exact (h3.fr (zFr_As (P := fun k => k % 4 ≠ 0) (by omega)) (fun q _ => by omega)).fr (zFr_As (P := fun k => k % 4 ≠ 0) (by omega)) (fun q _ => by omega)
      · unfold sPrS; rw [if_neg e, h4]
      · unfold sPrS; rw [if_neg e]
        exact (h5.put (by omega)).put (by omega)
end PRE
