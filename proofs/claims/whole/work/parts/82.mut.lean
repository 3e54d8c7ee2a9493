/-! pressing, rubbing, dying -/
def dPut (d : zD) (p j : Nat) (x : Int32) : zD := (dn d, dk d, dou d, dle d, dse d, fun p' j' => if p' = p ∧ j' = j then x else dv d p' j')
def dDie (d : zD) (p : Nat) : zD := (dn d, dk d, fun p' => if p' = p then dou d p + 1 else dou d p', dle d, dse d, dv d)
def Alk (p : Nat) (d d' : zD) : Prop := dn d' = dn d ∧ dle d' = dle d ∧ dse d' = dse d ∧ dk d' = dk d ∧ dou d' = dou d ∧ (∀ p', dv d' p' 60 = dv d p' 60 ∧ dv d' p' 61 = dv d p' 61) ∧ ∀ p' j, p' ≠ p → dv d' p' j = dv d p' j
def zZ (i k : Nat) : Prop := 100 + 24 * i ≤ k ∧ k < 124 + 24 * i
def m99 (y : Int32) : Int32 := if y < 99 then y else 99
def m999 (y : Int32) : Int32 := if (-999 : Int32) < (if y < 999 then y else 999) then (if y < 999 then y else 999) else -999
def sDrift (k : Nat) (a : Int32) (j : Nat) : Int32 := if k = 6 then (if j < 3 then a * nI j else a * nI j + 1) else nI j
def dDrift (d : zD) (p j : Nat) : Int32 := sDrift (dk d p) (dv d p 60) j
section MUT
variable {pk : Nat → Nat} {S T : zSt} {i p j p' j' : Nat} {v : Int32} {d d' d'' : zD}
theorem put_eq : dv (dPut d p j v) p j = v := if_pos ⟨rfl, rfl⟩
theorem put_nj (h : j' ≠ j) : dv (dPut d p j v) p' j' = dv d p' j' := if_neg (fun q => h q.2)
theorem put_np (h : p' ≠ p) : dv (dPut d p j v) p' j' = dv d p' j' := if_neg (fun q => h q.1)
theorem put_n : dn (dPut d p j v) = dn d := rfl
theorem put_k : dk (dPut d p j v) = dk d := rfl
theorem put_o : dou (dPut d p j v) = dou d := rfl
theorem Alk.rf : Alk p d d := ⟨rfl, rfl, rfl, rfl, rfl, fun _ => ⟨rfl, rfl⟩, fun _ _ _ => rfl⟩
theorem Alk.put (h : Alk p d d') (hj : j < 60) : Alk p d (dPut d' p j v) := by
  obtain ⟨a, b, c, e, f, g, k⟩ := h
  refine ⟨a, b, c, e, f, fun p' => ⟨(put_nj (by omega)).trans (g p').1, (put_nj (by omega)).trans (g p').2⟩, fun p' j' hp => (put_np hp).trans (k p' j' hp)⟩
theorem Alk.got (h : Alk p d d') (f : Int32) (j : Nat) : dGot d' p f j = dGot d p f j := by
  have e : dLoss d' p = dLoss d p := by
    funext s
    unfold dLoss
    rw [h.2.2.2.1, (h.2.2.2.2.2.1 p).1, (h.2.2.2.2.2.1 p).2]
  unfold dGot
  rw [e]
theorem Alk.drift (h : Alk p d d') (j : Nat) : dDrift d' p j = dDrift d p j := by
  unfold dDrift
  rw [h.2.2.2.1, (h.2.2.2.2.2.1 p).1]
theorem Alk.kk (h : Alk p d d') (k : KK d) : KK d' := by
  obtain ⟨a, b, c⟩ := k
  refine ⟨by rw [h.1]; exact a, by rw [h.2.1]; exact b, fun p' hp => ?_⟩
  obtain ⟨x, y, z⟩ := c p' (by rw [← h.1]; exact hp)
  exact ⟨by rw [h.2.2.2.1]; exact x, by rw [h.2.2.2.2.1]; exact y, by rw [(h.2.2.2.2.2.1 p').1]; exact z⟩
theorem Lp.oth {q : Nat} (h : Lp pk S q d p') (hne : p' ≠ p) : Lp pk S q (dPut d p j v) p' := by
  unfold Lp
  simp only [put_k, put_o, put_np hne]
  exact h
theorem Lp.put1 {q : Nat} (h : Lp pk S q d p) (hj : j < 48) : Lp pk (zAs S (100 + 4 * q + 1) j v) q (dPut d p j v) p := by
  refine ⟨h.pq, h.knd, h.num, h.a.trans (put_nj (by omega)).symm, h.th.trans (put_nj (by omega)).symm, h.ou, fun c hc => ?_, fun c hc => ?_, fun k hk => ?_⟩
  · rw [as_n (by omega), put_nj (by omega)]; exact h.sm hc
  · rw [as_n (by omega), put_nj (by omega)]; exact h.dr hc
  · rw [as_y]
    by_cases e : k = j
    · subst e; rw [pk_us, put_eq]
    · rw [pk_un e, put_nj e]; exact h.st hk
theorem Lp.put2 {q : Nat} (h : Lp pk S q d p) (hj : j < 6) : Lp pk (zAs S (100 + 4 * q + 2) j v) q (dPut d p (48 + j) v) p := by
  refine ⟨h.pq, h.knd, h.num, h.a.trans (put_nj (by omega)).symm, h.th.trans (put_nj (by omega)).symm, h.ou, fun c hc => ?_, fun c hc => ?_, fun k hk => ?_⟩
  · rw [as_y]
    by_cases e : c = j
    · subst e; rw [pk_us, put_eq]
    · rw [pk_un e, put_nj (by omega)]; exact h.sm hc
  · rw [as_n (by omega), put_nj (by omega)]; exact h.dr hc
  · rw [as_n (by omega), put_nj (by omega)]; exact h.st hk
theorem Lp.put3 {q : Nat} (h : Lp pk S q d p) (hj : j < 6) : Lp pk (zAs S (100 + 4 * q + 3) j v) q (dPut d p (54 + j) v) p := by
  refine ⟨h.pq, h.knd, h.num, h.a.trans (put_nj (by omega)).symm, h.th.trans (put_nj (by omega)).symm, h.ou, fun c hc => ?_, fun c hc => ?_, fun k hk => ?_⟩
  · rw [as_n (by omega), put_nj (by omega)]; exact h.sm hc
  · rw [as_y]
    by_cases e : c = j
    · subst e; rw [pk_us, put_eq]
    · rw [pk_un e, put_nj (by omega)]; exact h.dr hc
  · rw [as_n (by omega), put_nj (by omega)]; exact h.st hk
theorem LL.put1 (h : LL i pk S d) (hj : j < 48) : LL i pk (zAs S (100 + 4 * (6 * i + p) + 1) j v) (dPut d p j v) := by
  refine ⟨h.1, h.2.1, h.2.2.1, fun p' hp' => ?_⟩
  by_cases e : p' = p
  · subst e; exact (h.2.2.2 p' hp').put1 hj
  · exact ((h.2.2.2 p' hp').fr (zFr_As (P := fun k => k = 100 + 4 * (6 * i + p) + 1) rfl) (fun c hc => by omega)).oth e
theorem LL.put2 (h : LL i pk S d) (hj : j < 6) : LL i pk (zAs S (100 + 4 * (6 * i + p) + 2) j v) (dPut d p (48 + j) v) := by
  refine ⟨h.1, h.2.1, h.2.2.1, fun p' hp' => ?_⟩
  by_cases e : p' = p
  · subst e; exact (h.2.2.2 p' hp').put2 hj
  · exact ((h.2.2.2 p' hp').fr (zFr_As (P := fun k => k = 100 + 4 * (6 * i + p) + 2) rfl) (fun c hc => by omega)).oth e
theorem LL.put3 (h : LL i pk S d) (hj : j < 6) : LL i pk (zAs S (100 + 4 * (6 * i + p) + 3) j v) (dPut d p (54 + j) v) := by
  refine ⟨h.1, h.2.1, h.2.2.1, fun p' hp' => ?_⟩
  by_cases e : p' = p
  · subst e; exact (h.2.2.2 p' hp').put3 hj
  · exact ((h.2.2.2 p' hp').fr (zFr_As (P := fun k => k = 100 + 4 * (6 * i + p) + 3) rfl) (fun c hc => by omega)).oth e
theorem RR.put10 (h : RR T d) (hp : p < dn d) (hj : j < 48) : RR (zAs T 10 (48 * p + j) v) (dPut d p j v) := by
  refine ⟨h.1, h.2.1, h.2.2.1, fun p' hp' => ?_⟩
  have h' := h.2.2.2 p' hp'
  refine ⟨h'.knd, h'.a.trans (put_nj (by omega)).symm, h'.th.trans (put_nj (by omega)).symm, h'.ou, fun c hc => ?_, fun c hc => ?_, fun k hk => ?_⟩
  · rw [as_n (by omega), put_nj (by omega)]; exact h'.sm hc
  · rw [as_n (by omega), put_nj (by omega)]; exact h'.dr hc
  · rw [as_y]
    by_cases e : p' = p ∧ k = j
    · obtain ⟨rfl, rfl⟩ := e; rw [pk_us, put_eq]
    · rw [pk_un (by omega), show dv (dPut d p j v) p' k = dv d p' k from if_neg e]; exact h'.st hk
theorem RR.put8 (h : RR T d) (hp : p < dn d) (hj : j < 6) : RR (zAs T 8 (6 * p + j) v) (dPut d p (48 + j) v) := by
  refine ⟨h.1, h.2.1, h.2.2.1, fun p' hp' => ?_⟩
  have h' := h.2.2.2 p' hp'
  refine ⟨h'.knd, h'.a.trans (put_nj (by omega)).symm, h'.th.trans (put_nj (by omega)).symm, h'.ou, fun c hc => ?_, fun c hc => ?_, fun k hk => ?_⟩
  · rw [as_y]
    by_cases e : p' = p ∧ c = j
    · obtain ⟨rfl, rfl⟩ := e; rw [pk_us, put_eq]
    · rw [pk_un (by omega), show dv (dPut d p (48 + j) v) p' (48 + c) = dv d p' (48 + c) from if_neg (by omega)]; exact h'.sm hc
  · rw [as_n (by omega), put_nj (by omega)]; exact h'.dr hc
  · rw [as_n (by omega), put_nj (by omega)]; exact h'.st hk
theorem RR.put9 (h : RR T d) (hp : p < dn d) (hj : j < 6) : RR (zAs T 9 (6 * p + j) v) (dPut d p (54 + j) v) := by
  refine ⟨h.1, h.2.1, h.2.2.1, fun p' hp' => ?_⟩
  have h' := h.2.2.2 p' hp'
  refine ⟨h'.knd, h'.a.trans (put_nj (by omega)).symm, h'.th.trans (put_nj (by omega)).symm, h'.ou, fun c hc => ?_, fun c hc => ?_, fun k hk => ?_⟩
  · rw [as_n (by omega), put_nj (by omega)]; exact h'.sm hc
  · rw [as_y]
    by_cases e : p' = p ∧ c = j
    · obtain ⟨rfl, rfl⟩ := e; rw [pk_us, put_eq]
    · rw [pk_un (by omega), show dv (dPut d p (54 + j) v) p' (54 + c) = dv d p' (54 + c) from if_neg (by omega)]; exact h'.dr hc
  · rw [as_n (by omega), put_nj (by omega)]; exact h'.st hk
theorem LL.die (h : LL i pk S d) : LL i pk (zP S (100 + 4 * (6 * i + p)) 8 (nI (dou d p + 1))) (dDie d p) := by
  have e0 : 60 + 3 * i ≠ 100 + 4 * (6 * i + p) := by omega
  refine ⟨by rw [p_n e0]; exact h.1, by rw [p_n e0]; exact h.2.1, by rw [p_n e0]; exact h.2.2.1, fun p' hp' => ?_⟩
  have h' := h.2.2.2 p' hp'
  by_cases e : p' = p
  · subst e
    refine ⟨h'.pq, ?_, ?_, ?_, ?_, ?_, fun c hc => h'.sm hc, fun c hc => h'.dr hc, fun j hj => h'.st hj⟩
    · rw [p_y, if_neg (by decide)]; exact h'.knd
    · rw [p_y, if_neg (by decide)]; exact h'.num
    · rw [p_y, if_neg (by decide)]; exact h'.a
    · rw [p_y, if_neg (by decide)]; exact h'.th
    · rw [p_y, if_pos rfl]
      show _ = nI (if p' = p' then _ else _)
      rw [if_pos rfl]
  · have h' := h'.fr (zFr_P (S := S) (f := 8) (v := nI (dou d p + 1)) (P := fun k => k = 100 + 4 * (6 * i + p)) rfl) (fun c hc => by omega)
    refine ⟨h'.pq, h'.knd, h'.num, h'.a, h'.th, ?_, fun c hc => h'.sm hc, fun c hc => h'.dr hc, fun j hj => h'.st hj⟩
    show _ = nI (if p' = p then _ else _)
    rw [if_neg e]
    exact h'.ou
theorem RR.die (h : RR T d) : RR (zAs T 7 p (nI (dou d p + 1))) (dDie d p) := by
  refine ⟨h.1, h.2.1, h.2.2.1, fun p' hp' => ?_⟩
  have h' := h.2.2.2 p' hp'
  refine ⟨h'.knd, h'.a, h'.th, ?_, fun c hc => h'.sm hc, fun c hc => h'.dr hc, fun j hj => h'.st hj⟩
  rw [as_y]
  show _ = nI (if p' = p then _ else _)
  by_cases e : p' = p
  · subst e; rw [pk_us, if_pos rfl]
  · rw [pk_un e, if_neg e]; exact h'.ou
theorem KK.die (k : KK d) (h : dou d p < 6) : KK (dDie d p) := by
  refine ⟨k.1, k.2.1, fun p' hp => ?_⟩
  obtain ⟨x, y, z⟩ := k.2.2 p' hp
  refine ⟨x, ?_, z⟩
  show (if p' = p then _ else _) ≤ 6
  split <;> omega
theorem PK.die {q : Nat} (h : PK pk S) : PK pk (zP S (100 + 4 * q) 8 v) := by
  intro q' hq
  rcases h q' hq with h | ⟨k, h1, h2, h3, h4⟩
  · exact Or.inl h
  · refine Or.inr ⟨k, h1, h2, ?_, ?_⟩
    · by_cases e : 100 + 4 * q' = 100 + 4 * q
      · rw [e, p_y, if_neg (by decide), ← e]; exact h3
      · rw [p_n e]; exact h3
    · by_cases e : 100 + 4 * q' = 100 + 4 * q
      · rw [e, p_y, if_neg (by decide), ← e]; exact h4
      · rw [p_n e]; exact h4
theorem l_driftOver {q : Nat} (h : Lp pk S q d p) (k : Kp d p) {j : Nat} (hj : j < 100) : V_driftOver pk S q (nI j) = some (dDrift d p j) := by
  have k1 := k.1
  have h5 : M_X5_driftOver pk S q (nI j) = some (nI j) := rfl
  have hh := h.pq
  unfold V_driftOver dDrift sDrift
  rw [hh]
  have hk : dk d p = 0 ∨ dk d p = 1 ∨ dk d p = 2 ∨ dk d p = 3 ∨ dk d p = 4 ∨ dk d p = 5 ∨ dk d p = 6 := by omega
  rcases hk with e | e | e | e | e | e | e <;> rw [e]
  · exact h5
  · exact h5
  · exact h5
  · exact h5
  · exact h5
  · exact h5
  · show M_X1_driftOver pk S q (nI j) = _
    unfold M_X1_driftOver
    rw [h.a]
    by_cases e3 : j < 3
    · simp (disch := omega) only [li, lo, c_le, c_lt, c_eq, c_cl, c_sub, nI_add, pk_mul, zin_nI, zg_true, ob_some, zm_none, zm_some, if_pos, if_neg, if_true, if_false, Bool.false_eq_true, d_t, d_f, ob_eta, ob_eta1, m_ltn, m_nlt, m_nle, m_len, m_ne, m_ne', m_mlt, m_mle, m_meq, m_neg, e3]
      rw [show nI 0 = (0 : Int32) from rfl, add0]
    · simp (disch := omega) only [li, lo, c_le, c_lt, c_eq, c_cl, c_sub, nI_add, pk_mul, zin_nI, zg_true, ob_some, zm_none, zm_some, if_pos, if_neg, if_true, if_false, Bool.false_eq_true, d_t, d_f, ob_eta, ob_eta1, m_ltn, m_nlt, m_nle, m_len, m_ne, m_ne', m_mlt, m_mle, m_meq, m_neg, e3]
end MUT
