/-! MOVES and the trace -/
def sPu (c : Nat × (Nat → Int32)) (b : Int32) : Nat × (Nat → Int32) := (c.1 + 1, if c.1 < 20 then upd c.2 c.1 b else c.2)
def sPs (c : Nat × (Nat → Int32)) (l : List Int32) : Nat × (Nat → Int32) := l.foldl sPu c
theorem sPs_len : ∀ (l : List Int32) (c : Nat × (Nat → Int32)), (sPs c l).1 = c.1 + l.length := by
  intro l
  induction l with
  | nil => intro c; rfl
  | cons b l ih =>
    intro c
    show (sPs (sPu c b) l).1 = _
    rw [ih]
    show c.1 + 1 + l.length = c.1 + (l.length + 1)
    omega
theorem sPs_app (c : Nat × (Nat → Int32)) (l l' : List Int32) : sPs c (l ++ l') = sPs (sPs c l) l' := List.foldl_append
def Tc (S : zSt) (c : Nat × (Nat → Int32)) : Prop := zsc S 56 1 = nI c.1 ∧ ∀ j, j < 20 → zar S 57 j = c.2 j
def Tr (S : zSt) (c : Nat × (Nat → Int32)) : Prop := zsc S 0 17 = nI c.1 ∧ ∀ j, j < 20 → zar S 12 j = c.2 j
def F56 (k : Nat) : Prop := k = 56 ∨ k = 57
def F12 (S S' : zSt) : Prop := zFr (fun k => k = 0 ∨ k = 12) S S' ∧ ∀ f, f ≠ 17 → zsc S' 0 f = zsc S 0 f
theorem F12.rf {S : zSt} : F12 S S := ⟨zFr.rf, fun _ _ => rfl⟩
theorem F12.trans {S S' S'' : zSt} (h : F12 S S') (h' : F12 S' S'') : F12 S S'' := ⟨h.1.trans h'.1, fun f q => (h'.2 f q).trans (h.2 f q)⟩
def Rc (o : Option (Int32 × zSt)) (S : zSt) (v : Int32) (c : Nat × (Nat → Int32)) (l : List Int32) : Prop := ∃ S', o = some (v, S') ∧ Tc S' (sPs c l) ∧ zFr F56 S S'
def Rr (o : Option (Int32 × zSt)) (S : zSt) (v : Int32) (c : Nat × (Nat → Int32)) (l : List Int32) : Prop := ∃ S', o = some (v, S') ∧ Tr S' (sPs c l) ∧ F12 S S'
section ACT
variable {pk : Nat → Nat} {S T : zSt} {q p : Nat} {d : zD} {x v v' b : Int32} {c : Nat × (Nat → Int32)} {l l' : List Int32}
theorem l_began (h : Tc S c) (hc : c.1 < 2000) (b : Int32) : ∃ S', M_X9_began pk S b = some S' ∧ Tc S' (sPu c b) ∧ zFr F56 S S' := by
  unfold M_X9_began M_X9_began_B26
  by_cases e : c.1 < 20
  · refine ⟨zP (zAs S 57 c.1 b) 56 1 (nI (c.1 + 1)), by simp (disch := omega) only [reduceIte, li, lo, k_leT, k_leF, k_ltT, k_ltF, k_eqT, k_eqF, c_cl, c_sub, nI_add, pk_mul, zin_nI, zg_true, ob_some, zm_none, zm_some, if_true, if_false, Bool.false_eq_true, d_t, d_f, ob_eta, ob_eta1, m_ltn, m_nlt, m_nle, m_len, m_ne, m_ne', k_mltT, k_mltF, k_mleT, k_mleF, k_meqT, k_meqF, m_neg, h.1, as_s], ⟨?_, fun j hj => ?_⟩, (zFr_As (Or.inr rfl)).trans (zFr_P (Or.inl rfl))⟩
    · rw [p_y, if_pos rfl]; rfl
    · rw [p_a, as_y]
      show _ = (if c.1 < 20 then upd c.2 c.1 b else c.2) j
      rw [if_pos e]
      by_cases ej : j = c.1
      · subst ej; rw [pk_us, pk_us]
      · rw [pk_un ej, pk_un ej]; exact h.2 j hj
  · refine ⟨zP S 56 1 (nI (c.1 + 1)), by simp (disch := omega) only [reduceIte, li, lo, k_leT, k_leF, k_ltT, k_ltF, k_eqT, k_eqF, c_cl, c_sub, nI_add, pk_mul, zin_nI, zg_true, ob_some, zm_none, zm_some, if_true, if_false, Bool.false_eq_true, d_t, d_f, ob_eta, ob_eta1, m_ltn, m_nlt, m_nle, m_len, m_ne, m_ne', k_mltT, k_mltF, k_mleT, k_mleF, k_meqT, k_meqF, m_neg, h.1], ⟨?_, fun j hj => ?_⟩, zFr_P (Or.inl rfl)⟩
    · rw [p_y, if_pos rfl]; rfl
    · rw [p_a]
      show _ = (if c.1 < 20 then upd c.2 c.1 b else c.2) j
      rw [if_neg e]; exact h.2 j hj
theorem r_ran (h : Tr S c) (hc : c.1 < 2000) (b : Int32) : ∃ S', M_X12_ran S b = some S' ∧ Tr S' (sPu c b) ∧ F12 S S' := by
  unfold M_X12_ran M_X12_ran_B19
  by_cases e : c.1 < 20
  · refine ⟨zP (zAs S 12 c.1 b) 0 17 (nI (c.1 + 1)), by simp (disch := omega) only [reduceIte, li, lo, k_leT, k_leF, k_ltT, k_ltF, k_eqT, k_eqF, c_cl, c_sub, nI_add, pk_mul, zin_nI, zg_true, ob_some, zm_none, zm_some, if_true, if_false, Bool.false_eq_true, d_t, d_f, ob_eta, ob_eta1, m_ltn, m_nlt, m_nle, m_len, m_ne, m_ne', k_mltT, k_mltF, k_mleT, k_mleF, k_meqT, k_meqF, m_neg, h.1, as_s], ⟨?_, fun j hj => ?_⟩, (zFr_As (Or.inr rfl)).trans (zFr_P (Or.inl rfl)), fun f hf => ?_⟩
    · rw [p_y, if_pos rfl]; rfl
    · rw [p_a, as_y]
      show _ = (if c.1 < 20 then upd c.2 c.1 b else c.2) j
      rw [if_pos e]
      by_cases ej : j = c.1
      · subst ej; rw [pk_us, pk_us]
      · rw [pk_un ej, pk_un ej]; exact h.2 j hj
    · rw [p_y, if_neg hf]; rfl
  · refine ⟨zP S 0 17 (nI (c.1 + 1)), by simp (disch := omega) only [reduceIte, li, lo, k_leT, k_leF, k_ltT, k_ltF, k_eqT, k_eqF, c_cl, c_sub, nI_add, pk_mul, zin_nI, zg_true, ob_some, zm_none, zm_some, if_true, if_false, Bool.false_eq_true, d_t, d_f, ob_eta, ob_eta1, m_ltn, m_nlt, m_nle, m_len, m_ne, m_ne', k_mltT, k_mltF, k_mleT, k_mleF, k_meqT, k_meqF, m_neg, h.1], ⟨?_, fun j hj => ?_⟩, zFr_P (Or.inl rfl), fun f hf => ?_⟩
    · rw [p_y, if_pos rfl]; rfl
    · rw [p_a]
      show _ = (if c.1 < 20 then upd c.2 c.1 b else c.2) j
      rw [if_neg e]; exact h.2 j hj
    · rw [p_y, if_neg hf]
theorem rc_beg {F : zSt → Option (Int32 × zSt)} (h : Tc S c) (hc : c.1 < 2000) (k : ∀ S1, Tc S1 (sPu c b) → zFr F56 S S1 → Rc (F S1) S1 v (sPu c b) l) : Rc (Option.bind (M_X9_began pk S b) F) S v c (b :: l) := by
  obtain ⟨S1, e1, t1, f1⟩ := l_began (pk := pk) h hc b
  obtain ⟨S2, e2, t2, f2⟩ := k S1 t1 f1
  exact ⟨S2, by rw [e1]; exact e2, t2, f1.trans f2⟩
theorem rr_ran {F : zSt → Option (Int32 × zSt)} (h : Tr S c) (hc : c.1 < 2000) (k : ∀ S1, Tr S1 (sPu c b) → F12 S S1 → Rr (F S1) S1 v (sPu c b) l) : Rr (Option.bind (M_X12_ran S b) F) S v c (b :: l) := by
  obtain ⟨S1, e1, t1, f1⟩ := r_ran h hc b
  obtain ⟨S2, e2, t2, f2⟩ := k S1 t1 f1
  exact ⟨S2, by rw [e1]; exact e2, t2, f1.trans f2⟩
theorem rc_map {o : Option (Int32 × zSt)} {F : Int32 × zSt → Option (Int32 × zSt)} (h : Rc o S v c l) (k : ∀ S1, zFr F56 S S1 → F (v, S1) = some (v', S1)) : Rc (Option.bind o F) S v' c l := by
  obtain ⟨S1, e1, t1, f1⟩ := h
  exact ⟨S1, by rw [e1]; exact k S1 f1, t1, f1⟩
theorem rr_map {o : Option (Int32 × zSt)} {F : Int32 × zSt → Option (Int32 × zSt)} (h : Rr o S v c l) (k : ∀ S1, F12 S S1 → F (v, S1) = some (v', S1)) : Rr (Option.bind o F) S v' c l := by
  obtain ⟨S1, e1, t1, f1⟩ := h
  exact ⟨S1, by rw [e1]; exact k S1 f1, t1, f1⟩
theorem rc_bind {o : Option (Int32 × zSt)} {F : Int32 × zSt → Option (Int32 × zSt)} (h : Rc o S v c l) (k : ∀ S1, Tc S1 (sPs c l) → zFr F56 S S1 → Rc (F (v, S1)) S1 v' (sPs c l) l') : Rc (Option.bind o F) S v' c (l ++ l') := by
  obtain ⟨S1, e1, t1, f1⟩ := h
  obtain ⟨S2, e2, t2, f2⟩ := k S1 t1 f1
  exact ⟨S2, by rw [e1]; exact e2, by rw [sPs_app]; exact t2, f1.trans f2⟩
theorem rr_bind {o : Option (Int32 × zSt)} {F : Int32 × zSt → Option (Int32 × zSt)} (h : Rr o S v c l) (k : ∀ S1, Tr S1 (sPs c l) → F12 S S1 → Rr (F (v, S1)) S1 v' (sPs c l) l') : Rr (Option.bind o F) S v' c (l ++ l') := by
  obtain ⟨S1, e1, t1, f1⟩ := h
  obtain ⟨S2, e2, t2, f2⟩ := k S1 t1 f1
  exact ⟨S2, by rw [e1]; exact e2, by rw [sPs_app]; exact t2, f1.trans f2⟩
theorem rc_end (h : Tc S c) : Rc (some (v, S)) S v c [] := ⟨S, rfl, h, zFr.rf⟩
theorem rr_end (h : Tr S c) : Rr (some (v, S)) S v c [] := ⟨S, rfl, h, F12.rf⟩
theorem Lp.f56 {S' : zSt} (h : Lp pk S q d p) (f : zFr F56 S S') : Lp pk S' q d p := h.fr f (fun c hc => by unfold F56; omega)
theorem Rp.f12 {S' : zSt} (h : Rp S d p) (f : F12 S S') : Rp S' d p := h.fr f.1 (fun k a b => by omega)
theorem sPu_1 : (sPu c b).1 = c.1 + 1 := rfl
/-! lives -/
def lvV (k : Nat) (a m x : Int32) : Int32 := if k = 1 then x + m + a else if k = 4 ∨ k = 5 then x + m - m else if k = 6 then (x + m + a) * 2 else x + m
def lvL (k : Nat) : List Int32 := if k = 1 then [20, 10] else if k = 4 ∨ k = 5 then [51, 10] else if k = 6 then [70, 20, 10] else [10]
theorem lvL_len (k : Nat) : (lvL k).length ≤ 3 := by
  unfold lvL
  repeat' split
  all_goals decide
theorem l_lives5 (h : Lp pk S q d p) (t : Tc S c) (hc : c.1 < 1500) (x : Int32) : Rc (M_X5_lives pk S q x) S (x + nI p) c [10] := by
  unfold M_X5_lives
  refine rc_beg t (by omega) (fun S1 t1 f1 => ?_)
  rw [(h.f56 f1).num]
  exact rc_end t1
theorem l_lives8 (h : Lp pk S q d p) (t : Tc S c) (hc : c.1 < 1400) (x : Int32) : Rc (M_X8_lives pk S q x) S (x + nI p + dv d p 60) c [20, 10] := by
  unfold M_X8_lives
  refine rc_beg t (by omega) (fun S1 t1 f1 => ?_)
  refine rc_map (l_lives5 (h.f56 f1) t1 (by rw [sPu_1]; omega) x) (fun S2 f2 => ?_)
  dsimp only
  rw [((h.f56 f1).f56 f2).a]
theorem l_lives3 (h : Lp pk S q d p) (t : Tc S c) (hc : c.1 < 1400) (x : Int32) : Rc (M_X3_lives pk S q x) S (x + nI p - nI p) c [51, 10] := by
  unfold M_X3_lives
  refine rc_beg t (by omega) (fun S1 t1 f1 => ?_)
  refine rc_map (l_lives5 (h.f56 f1) t1 (by rw [sPu_1]; omega) x) (fun S2 f2 => ?_)
  dsimp only
  rw [((h.f56 f1).f56 f2).num]
theorem l_lives (h : Lp pk S q d p) (k : Kp d p) (t : Tc S c) (hc : c.1 < 1000) (x : Int32) : Rc (V_lives pk S q x) S (lvV (dk d p) (dv d p 60) (nI p) x) c (lvL (dk d p)) := by
  have hh := h.pq
  have k1 := k.1
  have hk : dk d p = 0 ∨ dk d p = 1 ∨ dk d p = 2 ∨ dk d p = 3 ∨ dk d p = 4 ∨ dk d p = 5 ∨ dk d p = 6 := by omega
  unfold V_lives
  rw [hh]
  rcases hk with e | e | e | e | e | e | e <;> rw [e]
  · exact l_lives5 h t (by omega) x
  · exact l_lives8 h t (by omega) x
  · exact l_lives5 h t (by omega) x
  · exact l_lives5 h t (by omega) x
  · exact l_lives3 h t (by omega) x
  · exact l_lives3 h t (by omega) x
  · show Rc (M_X1_lives pk S q x) S ((x + nI p + dv d p 60) * 2) c [70, 20, 10]
    unfold M_X1_lives
    refine rc_beg t (by omega) (fun S1 t1 f1 => ?_)
    exact rc_map (l_lives8 (h.f56 f1) t1 (by rw [sPu_1]; omega) x) (fun S2 f2 => rfl)
theorem r_livesBy52 (h : Rp S d p) (k : Kp d p) (hp : p < 6) (t : Tr S c) (hc : c.1 < 1500) (x : Int32) : Rr (M_X12_livesBy_B52 S (nI p) x (nI (dk d p))) S (lvV (dk d p) (dv d p 60) (nI p) x) c [10] := by
  have k1 := k.1
  have hk : dk d p = 0 ∨ dk d p = 1 ∨ dk d p = 2 ∨ dk d p = 3 ∨ dk d p = 4 ∨ dk d p = 5 ∨ dk d p = 6 := by omega
  unfold M_X12_livesBy_B52
  refine rr_ran t (by omega) (fun S1 t1 f1 => ?_)
  have h5 := (h.f12 f1).a
  refine ⟨S1, ?_, t1, F12.rf⟩
  rcases hk with e | e | e | e | e | e | e <;> rw [e] <;> simp (disch := omega) only [reduceIte, li, lo, k_leT, k_leF, k_ltT, k_ltF, k_eqT, k_eqF, c_cl, c_sub, nI_add, pk_mul, zin_nI, zg_true, ob_some, zm_none, zm_some, if_true, if_false, Bool.false_eq_true, d_t, d_f, ob_eta, ob_eta1, m_ltn, m_nlt, m_nle, m_len, m_ne, m_ne', k_mltT, k_mltF, k_mleT, k_mleF, k_meqT, k_meqF, m_neg, h5, M_X12_livesBy_B73] <;> rfl
theorem r_lives_ (h : Rp S d p) (k : Kp d p) (hp : p < 6) (t : Tr S c) (hc : c.1 < 1000) (x : Int32) : Rr (M_X12_livesBy S (nI p) x) S (lvV (dk d p) (dv d p 60) (nI p) x) c (lvL (dk d p)) := by
  have k1 := k.1
  have hk : dk d p = 0 ∨ dk d p = 1 ∨ dk d p = 2 ∨ dk d p = 3 ∨ dk d p = 4 ∨ dk d p = 5 ∨ dk d p = 6 := by omega
  have e0 : M_X12_livesBy S (nI p) x = if nI (dk d p) = 6 then Option.bind (M_X12_ran S 70) (fun w17 => M_X12_livesBy_B19 w17 (nI p) x (nI (dk d p))) else M_X12_livesBy_B19 S (nI p) x (nI (dk d p)) := by
    unfold M_X12_livesBy
    rw [zg_in hp (by decide), c_cl (by omega), h.knd, ob_some]
  rw [e0]
  have st := fun (S1 : zSt) c1 (h1 : Rp S1 d p) (t1 : Tr S1 c1) (hc1 : c1.1 < 1500) => r_livesBy52 h1 k hp t1 hc1 x
  rcases hk with e | e | e | e | e | e | e <;> rw [e] at st ⊢
  · exact st S c h t (by omega)
  · show Rr (Option.bind (M_X12_ran S 20) (fun w5 => M_X12_livesBy_B36 w5 (nI p) x (nI 1))) S _ c [20, 10]
    exact rr_ran t (by omega) (fun S1 t1 f1 => st S1 _ (h.f12 f1) t1 (by rw [sPu_1]; omega))
  · exact st S c h t (by omega)
  · exact st S c h t (by omega)
  · show Rr (Option.bind (M_X12_ran S 51) (fun w7 => M_X12_livesBy_B52 w7 (nI p) x (nI 4))) S _ c [51, 10]
    exact rr_ran t (by omega) (fun S1 t1 f1 => st S1 _ (h.f12 f1) t1 (by rw [sPu_1]; omega))
  · show Rr (Option.bind (M_X12_ran S 51) (fun w7 => M_X12_livesBy_B52 w7 (nI p) x (nI 5))) S _ c [51, 10]
    exact rr_ran t (by omega) (fun S1 t1 f1 => st S1 _ (h.f12 f1) t1 (by rw [sPu_1]; omega))
  · show Rr (Option.bind (M_X12_ran S 70) (fun w17 => M_X12_livesBy_B19 w17 (nI p) x (nI 6))) S _ c [70, 20, 10]
    refine rr_ran t (by omega) (fun S1 t1 f1 => ?_)
    show Rr (Option.bind (M_X12_ran S1 20) (fun w5 => M_X12_livesBy_B36 w5 (nI p) x (nI 6))) S1 _ _ [20, 10]
    exact rr_ran t1 (by rw [sPu_1]; omega) (fun S2 t2 f2 => st S2 _ ((h.f12 f1).f12 f2) t2 (by rw [sPu_1, sPu_1]; omega))
/-! goes -/
def goV (k : Nat) (a m x : Int32) : Int32 := if k = 2 then lvV k a m x * 2 * 3 else if k = 3 then lvV k a m (x + 1) * 2 * 3 else if k = 6 then lvV k a m (x - a) * 2 else lvV k a m x * 2
def goL (k : Nat) : List Int32 := if k = 2 then 30 :: 11 :: lvL k else if k = 3 then 40 :: 30 :: 11 :: lvL k else if k = 6 then 71 :: 11 :: lvL k else 11 :: lvL k
theorem goL_len (k : Nat) : (goL k).length ≤ 6 := by
  have := lvL_len k
  unfold goL
  repeat' split
  all_goals (simp only [List.length_cons]; omega)
theorem l_goes5 (h : Lp pk S q d p) (k : Kp d p) (t : Tc S c) (hc : c.1 < 990) (x : Int32) : Rc (M_X5_goes pk S q x) S (lvV (dk d p) (dv d p 60) (nI p) x * 2) c (11 :: lvL (dk d p)) := by
  unfold M_X5_goes
  refine rc_beg t (by omega) (fun S1 t1 f1 => ?_)
  exact rc_map (l_lives (h.f56 f1) k t1 (by rw [sPu_1]; omega) x) (fun S2 f2 => rfl)
theorem l_goes2 (h : Lp pk S q d p) (k : Kp d p) (t : Tc S c) (hc : c.1 < 980) (x : Int32) : Rc (M_X2_goes pk S q x) S (lvV (dk d p) (dv d p 60) (nI p) x * 2 * 3) c (30 :: 11 :: lvL (dk d p)) := by
  unfold M_X2_goes
  refine rc_beg t (by omega) (fun S1 t1 f1 => ?_)
  exact rc_map (l_goes5 (h.f56 f1) k t1 (by rw [sPu_1]; omega) x) (fun S2 f2 => rfl)
theorem l_goes (h : Lp pk S q d p) (k : Kp d p) (t : Tc S c) (hc : c.1 < 900) (x : Int32) : Rc (V_goes pk S q x) S (goV (dk d p) (dv d p 60) (nI p) x) c (goL (dk d p)) := by
  have hh := h.pq
  have k1 := k.1
  have hk : dk d p = 0 ∨ dk d p = 1 ∨ dk d p = 2 ∨ dk d p = 3 ∨ dk d p = 4 ∨ dk d p = 5 ∨ dk d p = 6 := by omega
  unfold V_goes
  rw [hh]
  have g5 := fun x => l_goes5 h k t (by omega) x
  have g2 := fun (S1 : zSt) (h1 : Lp pk S1 q d p) c1 (t1 : Tc S1 c1) (hc1 : c1.1 < 980) x => l_goes2 h1 k t1 hc1 x
  have g5' := fun (S1 : zSt) (h1 : Lp pk S1 q d p) c1 (t1 : Tc S1 c1) (hc1 : c1.1 < 990) x => l_goes5 h1 k t1 hc1 x
  rcases hk with e | e | e | e | e | e | e <;> rw [e] at g5 g2 g5' ⊢
  · exact g5 x
  · exact g5 x
  · exact g2 S h c t (by omega) x
  · show Rc (M_X10_goes pk S q x) S (lvV 3 (dv d p 60) (nI p) (x + 1) * 2 * 3) c (40 :: 30 :: 11 :: lvL 3)
    unfold M_X10_goes
    refine rc_beg t (by omega) (fun S1 t1 f1 => ?_)
    rw [ob_eta]
    exact g2 S1 (h.f56 f1) _ t1 (by rw [sPu_1]; omega) (x + 1)
  · exact g5 x
  · exact g5 x
  · show Rc (M_X1_goes pk S q x) S (lvV 6 (dv d p 60) (nI p) (x - dv d p 60) * 2) c (71 :: 11 :: lvL 6)
    unfold M_X1_goes
    refine rc_beg t (by omega) (fun S1 t1 f1 => ?_)
    rw [ob_eta, (h.f56 f1).a]
    exact g5' S1 (h.f56 f1) _ t1 (by rw [sPu_1]; omega) (x - dv d p 60)
theorem r_goes64 (h : Rp S d p) (k : Kp d p) (hp : p < 6) (t : Tr S c) (hc : c.1 < 990) (x : Int32) : Rr (M_X12_goesBy_B64 S (nI p) (nI (dk d p)) x) S (if dk d p = 2 ∨ dk d p = 3 then lvV (dk d p) (dv d p 60) (nI p) x * 2 * 3 else lvV (dk d p) (dv d p 60) (nI p) x * 2) c (11 :: lvL (dk d p)) := by
  have k1 := k.1
  have hk : dk d p = 0 ∨ dk d p = 1 ∨ dk d p = 2 ∨ dk d p = 3 ∨ dk d p = 4 ∨ dk d p = 5 ∨ dk d p = 6 := by omega
  unfold M_X12_goesBy_B64
  refine rr_ran t (by omega) (fun S1 t1 f1 => ?_)
  refine rr_map (r_lives_ (h.f12 f1) k hp t1 (by rw [sPu_1]; omega) x) (fun S2 f2 => ?_)
  unfold M_X12_goesBy_B91
  rcases hk with e | e | e | e | e | e | e <;> rw [e] <;> simp (disch := omega) only [reduceIte, li, lo, k_leT, k_leF, k_ltT, k_ltF, k_eqT, k_eqF, c_cl, c_sub, nI_add, pk_mul, zin_nI, zg_true, ob_some, zm_none, zm_some, if_true, if_false, Bool.false_eq_true, d_t, d_f, ob_eta, ob_eta1, m_ltn, m_nlt, m_nle, m_len, m_ne, m_ne', k_mltT, k_mltF, k_mleT, k_mleF, k_meqT, k_meqF, m_neg] <;> rfl
theorem r_goes_ (h : Rp S d p) (k : Kp d p) (hp : p < 6) (t : Tr S c) (hc : c.1 < 900) (x : Int32) : Rr (M_X12_goesBy S (nI p) x) S (goV (dk d p) (dv d p 60) (nI p) x) c (goL (dk d p)) := by
  have k1 := k.1
  have hk : dk d p = 0 ∨ dk d p = 1 ∨ dk d p = 2 ∨ dk d p = 3 ∨ dk d p = 4 ∨ dk d p = 5 ∨ dk d p = 6 := by omega
  have e0 : M_X12_goesBy S (nI p) x = if nI (dk d p) = 6 then Option.bind (M_X12_ran S 71) (fun w13 => zg (zin (nI p) 6) (Option.bind (some ((x - (zar w13 5 (Int32.toNatClampNeg (nI p)))))) (fun v15 => M_X12_goesBy_B32 w13 (nI p) x (nI (dk d p)) v15))) else M_X12_goesBy_B32 S (nI p) x (nI (dk d p)) x := by
    unfold M_X12_goesBy
    rw [zg_in hp (by decide), c_cl (by omega), h.knd, ob_some]
  rw [e0]
  have st := fun (S1 : zSt) c1 (h1 : Rp S1 d p) (t1 : Tr S1 c1) (hc1 : c1.1 < 990) x => r_goes64 h1 k hp t1 hc1 x
  rcases hk with e | e | e | e | e | e | e <;> rw [e] at st ⊢
  · exact st S c h t (by omega) x
  · exact st S c h t (by omega) x
  · show Rr (Option.bind (M_X12_ran S 30) (fun w6 => M_X12_goesBy_B64 w6 (nI p) (nI 2) x)) S _ c (30 :: 11 :: lvL 2)
    exact rr_ran t (by omega) (fun S1 t1 f1 => st S1 _ (h.f12 f1) t1 (by rw [sPu_1]; omega) x)
  · show Rr (Option.bind (M_X12_ran S 40) (fun w12 => M_X12_goesBy_B48 w12 (nI p) (nI 3) (x + 1))) S _ c (40 :: 30 :: 11 :: lvL 3)
    refine rr_ran t (by omega) (fun S1 t1 f1 => ?_)
    show Rr (Option.bind (M_X12_ran S1 30) (fun w6 => M_X12_goesBy_B64 w6 (nI p) (nI 3) (x + 1))) S1 _ _ (30 :: 11 :: lvL 3)
    exact rr_ran t1 (by rw [sPu_1]; omega) (fun S2 t2 f2 => st S2 _ ((h.f12 f1).f12 f2) t2 (by rw [sPu_1, sPu_1]; omega) (x + 1))
  · exact st S c h t (by omega) x
  · exact st S c h t (by omega) x
  · show Rr (Option.bind (M_X12_ran S 71) (fun w13 => zg (zin (nI p) 6) (Option.bind (some ((x - (zar w13 5 (Int32.toNatClampNeg (nI p)))))) (fun v15 => M_X12_goesBy_B32 w13 (nI p) x (nI 6) v15)))) S _ c (71 :: 11 :: lvL 6)
    refine rr_ran t (by omega) (fun S1 t1 f1 => ?_)
    rw [zg_in hp (by decide), c_cl (by omega), (h.f12 f1).a, ob_some]
    exact st S1 _ (h.f12 f1) t1 (by rw [sPu_1]; omega) (x - dv d p 60)
/-! looks -/
def loB (k : Nat) (a m x : Int32) : Int32 := goV k a m x ^^^ lvV k a m (x - a)
def loV (k : Nat) (a m x : Int32) : Int32 := if k = 4 then -loB k a m x else if k = 5 then -loB k a m x ^^^ 5 else loB k a m x
def loL (k : Nat) : List Int32 := if k = 4 then 50 :: 12 :: (goL k ++ lvL k) else if k = 5 then 60 :: 50 :: 12 :: (goL k ++ lvL k) else 12 :: (goL k ++ lvL k)
theorem l_looks5 (h : Lp pk S q d p) (k : Kp d p) (t : Tc S c) (hc : c.1 < 890) (x : Int32) : Rc (M_X5_looks pk S q x) S (loB (dk d p) (dv d p 60) (nI p) x) c (12 :: (goL (dk d p) ++ lvL (dk d p))) := by
  have gl := goL_len (dk d p)
  unfold M_X5_looks
  refine rc_beg t (by omega) (fun S1 t1 f1 => ?_)
  refine rc_bind (l_goes (h.f56 f1) k t1 (by rw [sPu_1]; omega) x) (fun S2 t2 f2 => ?_)
  dsimp only
  rw [((h.f56 f1).f56 f2).a]
  exact rc_map (l_lives ((h.f56 f1).f56 f2) k t2 (by rw [sPs_len, sPu_1]; omega) (x - dv d p 60)) (fun S3 f3 => rfl)
theorem l_looks3 (h : Lp pk S q d p) (k : Kp d p) (t : Tc S c) (hc : c.1 < 880) (x : Int32) : Rc (M_X3_looks pk S q x) S (-loB (dk d p) (dv d p 60) (nI p) x) c (50 :: 12 :: (goL (dk d p) ++ lvL (dk d p))) := by
  unfold M_X3_looks
  refine rc_beg t (by omega) (fun S1 t1 f1 => ?_)
  exact rc_map (l_looks5 (h.f56 f1) k t1 (by rw [sPu_1]; omega) x) (fun S2 f2 => rfl)
theorem l_looks (h : Lp pk S q d p) (k : Kp d p) (t : Tc S c) (hc : c.1 < 800) (x : Int32) : Rc (V_looks pk S q x) S (loV (dk d p) (dv d p 60) (nI p) x) c (loL (dk d p)) := by
  have hh := h.pq
  have k1 := k.1
  have hk : dk d p = 0 ∨ dk d p = 1 ∨ dk d p = 2 ∨ dk d p = 3 ∨ dk d p = 4 ∨ dk d p = 5 ∨ dk d p = 6 := by omega
  unfold V_looks
  rw [hh]
  have g5 := l_looks5 h k t (by omega) x
  have g3 := fun (S1 : zSt) (h1 : Lp pk S1 q d p) c1 (t1 : Tc S1 c1) (hc1 : c1.1 < 880) => l_looks3 h1 k t1 hc1 x
  rcases hk with e | e | e | e | e | e | e <;> rw [e] at g5 g3 ⊢
  · exact g5
  · exact g5
  · exact g5
  · exact g5
  · exact g3 S h c t (by omega)
  · show Rc (M_X0_looks pk S q x) S _ c (60 :: 50 :: 12 :: (goL 5 ++ lvL 5))
    unfold M_X0_looks
    refine rc_beg t (by omega) (fun S1 t1 f1 => ?_)
    exact rc_map (g3 S1 (h.f56 f1) _ t1 (by rw [sPu_1]; omega)) (fun S2 f2 => rfl)
  · exact g5
theorem r_looks34 (h : Rp S d p) (k : Kp d p) (hp : p < 6) (t : Tr S c) (hc : c.1 < 890) (x : Int32) : Rr (M_X12_looksBy_B34 S (nI p) x (nI (dk d p))) S (loV (dk d p) (dv d p 60) (nI p) x) c (12 :: (goL (dk d p) ++ lvL (dk d p))) := by
  have gl := goL_len (dk d p)
  have k1 := k.1
  have hk : dk d p = 0 ∨ dk d p = 1 ∨ dk d p = 2 ∨ dk d p = 3 ∨ dk d p = 4 ∨ dk d p = 5 ∨ dk d p = 6 := by omega
  unfold M_X12_looksBy_B34
  refine rr_ran t (by omega) (fun S1 t1 f1 => ?_)
  refine rr_bind (r_goes_ (h.f12 f1) k hp t1 (by rw [sPu_1]; omega) x) (fun S2 t2 f2 => ?_)
  dsimp only
  rw [zg_in hp (by decide), c_cl (by omega), ((h.f12 f1).f12 f2).a]
  refine rr_map (r_lives_ ((h.f12 f1).f12 f2) k hp t2 (by rw [sPs_len, sPu_1]; omega) (x - dv d p 60)) (fun S3 f3 => ?_)
  unfold loV loB
  rcases hk with e | e | e | e | e | e | e <;> rw [e] <;> simp (disch := omega) only [reduceIte, li, lo, k_leT, k_leF, k_ltT, k_ltF, k_eqT, k_eqF, c_cl, c_sub, nI_add, pk_mul, zin_nI, zg_true, ob_some, zm_none, zm_some, if_true, if_false, Bool.false_eq_true, d_t, d_f, ob_eta, ob_eta1, m_ltn, m_nlt, m_nle, m_len, m_ne, m_ne', k_mltT, k_mltF, k_mleT, k_mleF, k_meqT, k_meqF, m_neg] <;> rfl
theorem r_looks_ (h : Rp S d p) (k : Kp d p) (hp : p < 6) (t : Tr S c) (hc : c.1 < 800) (x : Int32) : Rr (M_X12_looksBy S (nI p) x) S (loV (dk d p) (dv d p 60) (nI p) x) c (loL (dk d p)) := by
  have k1 := k.1
  have hk : dk d p = 0 ∨ dk d p = 1 ∨ dk d p = 2 ∨ dk d p = 3 ∨ dk d p = 4 ∨ dk d p = 5 ∨ dk d p = 6 := by omega
  have e0 : M_X12_looksBy S (nI p) x = if nI (dk d p) = 5 then Option.bind (M_X12_ran S 60) (fun w13 => M_X12_looksBy_B18 w13 (nI p) x (nI (dk d p))) else M_X12_looksBy_B18 S (nI p) x (nI (dk d p)) := by
    unfold M_X12_looksBy
    rw [zg_in hp (by decide), c_cl (by omega), h.knd, ob_some]
  rw [e0]
  have st := fun (S1 : zSt) c1 (h1 : Rp S1 d p) (t1 : Tr S1 c1) (hc1 : c1.1 < 890) => r_looks34 h1 k hp t1 hc1 x
  rcases hk with e | e | e | e | e | e | e <;> rw [e] at st ⊢
  · exact st S c h t (by omega)
  · exact st S c h t (by omega)
  · exact st S c h t (by omega)
  · exact st S c h t (by omega)
  · show Rr (Option.bind (M_X12_ran S 50) (fun w5 => M_X12_looksBy_B34 w5 (nI p) x (nI 4))) S _ c (50 :: 12 :: (goL 4 ++ lvL 4))
    exact rr_ran t (by omega) (fun S1 t1 f1 => st S1 _ (h.f12 f1) t1 (by rw [sPu_1]; omega))
  · show Rr (Option.bind (M_X12_ran S 60) (fun w13 => M_X12_looksBy_B18 w13 (nI p) x (nI 5))) S _ c (60 :: 50 :: 12 :: (goL 5 ++ lvL 5))
    refine rr_ran t (by omega) (fun S1 t1 f1 => ?_)
    show Rr (Option.bind (M_X12_ran S1 50) (fun w5 => M_X12_looksBy_B34 w5 (nI p) x (nI 5))) S1 _ _ (50 :: 12 :: (goL 5 ++ lvL 5))
    exact rr_ran t1 (by rw [sPu_1]; omega) (fun S2 t2 f2 => st S2 _ ((h.f12 f1).f12 f2) t2 (by rw [sPu_1, sPu_1]; omega))
  · exact st S c h t (by omega)
/-- the trace anew, in both -/
theorem Inv.act {S1 S2 : zSt} (h : Inv pk S d) (f1 : zFr F56 S S1) (f2 : F12 S1 S2) (t1 : Tc S1 c) (t2 : Tr S2 c) (hc : c.1 < 1000) : Inv pk S2 d := by
  have f : zFr (fun k => k = 56 ∨ k = 57 ∨ k = 0 ∨ k = 12) S S2 := (f1.mono (fun k q => by unfold F56 at q; omega)).trans (f2.1.mono (fun k q => by omega))
  have c0 : ∀ g, g ≠ 17 → zsc S2 0 g = zsc S 0 g := fun g hg => (f2.2 g hg).trans (by rw [f1.sc (by unfold F56; omega)])
  refine ⟨h.k, h.l.fr h.k.1 f (by omega) (fun k a b => by omega), h.r.fr f (c0 3 (by decide)) (c0 11 (by decide)) (c0 12 (by decide)) (fun k a b => by omega), h.pe.fr f (fun q _ => by omega), h.sh.fr f (by omega) (by omega) (by omega) (fun k a b => by omega), ⟨c.1, hc, ?_, t2.1, fun j hj => ?_⟩, h.rf.fr f (by omega) (by omega), ?_, h.im.fr f (c0 20 (by decide)) (by rw [f.sc (by omega)]) (by omega) (by omega) (fun k a b => by omega)⟩
  · rw [f2.1.sc (by omega)]; exact t1.1
  · rw [f2.1.ar (by omega), t1.2 j hj, t2.2 j hj]
  · rw [f.sc (by omega), c0 15 (by decide)]; exact h.fa
theorem s_act (h : Inv pk S d) (x1 x2 x3 : Int32) : zStp pk (M_X11_act pk S x1 x2 x3) (fun T => M_X12_act T x1 x2 x3) := by
  unfold M_X11_act M_X12_act M_X9_clear
  have f1 : zFr F56 S (zP S 56 1 (nI 0)) := zFr_P (Or.inl rfl)
  have t1 : Tc (zP S 56 1 (nI 0)) (0, zar S 57) := ⟨by rw [p_y, if_pos rfl], fun j hj => rfl⟩
  have tr : ∀ S1, zFr F56 (zP S 56 1 (nI 0)) S1 → Tr (zP S1 0 17 (nI 0)) (0, zar S 57) ∧ F12 S1 (zP S1 0 17 (nI 0)) := by
    intro S1 f
    obtain ⟨t, _, _, _, e⟩ := h.tr
    refine ⟨⟨by rw [p_y, if_pos rfl], fun j hj => ?_⟩, zFr_P (Or.inl rfl), fun g hg => by rw [p_y, if_neg hg]⟩
    rw [p_a, f.ar (by unfold F56; omega), p_a]
    exact (e j hj).symm
  have p0 : ∀ y, M_X4_personAt pk (zP S 56 1 (nI 0)) 0 y = M_X4_personAt pk S 0 y := fun y => rfl
  obtain ⟨tr0, fr0⟩ := tr _ zFr.rf
  rcases cPer h x1 with ⟨a1, b1, -⟩ | ⟨p, hp, rfl, a1, b1, h6, ok⟩
  · rw [← p0] at a1
    refine ⟨nI 0, zP S 56 1 (nI 0), zP (zP S 56 1 (nI 0)) 0 17 (nI 0), by simp (disch := omega) only [↓ob_some, ↓zm_some, ↓zm_none, ↓zg_true, ↓zg_in, ↓(ob_of a1), reduceIte, li, lo, k_leT, k_leF, k_ltT, k_ltF, k_eqT, k_eqF, c_cl, c_sub, nI_add, pk_mul, zin_nI, zg_true, ob_some, zm_none, zm_some, if_true, if_false, Bool.false_eq_true, d_t, d_f, ob_eta, ob_eta1, m_ltn, m_nlt, m_nle, m_len, m_ne, m_ne', k_mltT, k_mltF, k_mleT, k_mleF, k_meqT, k_meqF, m_neg], ?_, d, h.act f1 fr0 t1 tr0 (by show 0 < _; decide)⟩
    simp (disch := omega) only [↓ob_some, ↓zm_some, ↓zm_none, ↓zg_true, ↓zg_in, ↓(ob_of (b1 (zP (zP S 56 1 (nI 0)) 0 17 (nI 0)) rfl)), reduceIte, li, lo, k_leT, k_leF, k_ltT, k_ltF, k_eqT, k_eqF, c_cl, c_sub, nI_add, pk_mul, zin_nI, zg_true, ob_some, zm_none, zm_some, if_true, if_false, Bool.false_eq_true, d_t, d_f, ob_eta, ob_eta1, m_ltn, m_nlt, m_nle, m_len, m_ne, m_ne', k_mltT, k_mltF, k_mleT, k_mleF, k_meqT, k_meqF, m_neg]
  · rw [← p0] at a1
    have kp := h.k.pe hp
    have hl := (h.l.pe hp).f56 f1
    have fin : ∀ {o1 : Option (Int32 × zSt)} {o2 : zSt → Option (Int32 × zSt)} {v : Int32} {l : List Int32}, l.length < 500 → Rc o1 (zP S 56 1 (nI 0)) v (0, zar S 57) l → (∀ S1, zFr F56 S S1 → Rr (o2 S1) (zP S1 0 17 (nI 0)) v (0, zar S 57) l) → zStp pk o1 o2 := by
      intro o1 o2 v l hl r1 r2
      obtain ⟨S1, e1, u1, g1⟩ := r1
      obtain ⟨S2, e2, u2, g2⟩ := r2 S1 (f1.trans g1)
      refine ⟨v, S1, S2, e1, e2, d, h.act (f1.trans g1) ((tr S1 g1).2.trans g2) u1 u2 ?_⟩
      rw [sPs_len]
      show 0 + l.length < 1000
      omega
    have bp : ∀ S1, zFr F56 S S1 → M_X12_isPerson (zP S1 0 17 (nI 0)) (nI p) = some (nI 1) := fun S1 f => b1 _ (by
      have e : zsc (zP S1 0 17 (nI 0)) 0 3 = zsc S1 0 3 := by rw [p_y, if_neg (by decide)]
      rw [e, f.sc (by unfold F56; omega)])
    have tr' : ∀ S1, zFr F56 S S1 → Tr (zP S1 0 17 (nI 0)) (0, zar S 57) := by
      intro S1 f
      obtain ⟨t, _, _, _, e⟩ := h.tr
      refine ⟨by rw [p_y, if_pos rfl], fun j hj => ?_⟩
      rw [p_a, f.ar (by unfold F56; omega)]
      exact (e j hj).symm
    have rp' : ∀ S1, zFr F56 S S1 → Rp (zP S1 0 17 (nI 0)) d p := fun S1 f => ((h.r.pe hp).fr f (fun k a b => by unfold F56; omega)).fr (zFr_P (P := fun k => k = 0) rfl) (fun k a b => by omega)
    rcases cN x2 3 with n | ⟨j, hj, rfl⟩
    · have n0 := n 0 (by decide)
      have n1 := n 1 (by decide)
      have n2 := n 2 (by decide)
      have w := w_2N (b := 2) (by decide) n
      refine ⟨nI 0, zP S 56 1 (nI 0), zP (zP S 56 1 (nI 0)) 0 17 (nI 0), by simp (disch := omega) only [↓ob_some, ↓zm_some, ↓zm_none, ↓zg_true, ↓zg_in, ↓(ob_of a1), ↓(zg_of ok), n0, n1, n2, reduceIte, li, lo, k_leT, k_leF, k_ltT, k_ltF, k_eqT, k_eqF, c_cl, c_sub, nI_add, pk_mul, zin_nI, zg_true, ob_some, zm_none, zm_some, if_true, if_false, Bool.false_eq_true, d_t, d_f, ob_eta, ob_eta1, m_ltn, m_nlt, m_nle, m_len, m_ne, m_ne', k_mltT, k_mltF, k_mleT, k_mleF, k_meqT, k_meqF, m_neg], ?_, d, h.act f1 fr0 t1 tr0 (by show 0 < _; decide)⟩
      simp (disch := omega) only [↓ob_some, ↓zm_some, ↓zm_none, ↓zg_true, ↓zg_in, ↓(ob_of (bp _ f1)), ↓(ob_of (w (zP (zP S 56 1 (nI 0)) 0 17 (nI 0)))), reduceIte, li, lo, k_leT, k_leF, k_ltT, k_ltF, k_eqT, k_eqF, c_cl, c_sub, nI_add, pk_mul, zin_nI, zg_true, ob_some, zm_none, zm_some, if_true, if_false, Bool.false_eq_true, d_t, d_f, ob_eta, ob_eta1, m_ltn, m_nlt, m_nle, m_len, m_ne, m_ne', k_mltT, k_mltF, k_mleT, k_mleF, k_meqT, k_meqF, m_neg]
    · have w := fun T => w_n (a := 0) (b := 2) T (Nat.zero_le j) (by omega) (by decide)
      have hj : j = 0 ∨ j = 1 ∨ j = 2 := by omega
      rcases hj with rfl | rfl | rfl
      · refine fin (l := lvL (dk d p)) (by have := lvL_len (dk d p); omega) (v := lvV (dk d p) (dv d p 60) (nI p) x3) ?_ (fun S1 f => ?_)
        · have := l_lives hl kp t1 (by show 0 < _; decide) x3
          simp (disch := omega) only [↓ob_some, ↓zm_some, ↓zm_none, ↓zg_true, ↓zg_in, ↓(ob_of a1), ↓(zg_of ok), reduceIte, li, lo, k_leT, k_leF, k_ltT, k_ltF, k_eqT, k_eqF, c_cl, c_sub, nI_add, pk_mul, zin_nI, zg_true, ob_some, zm_none, zm_some, if_true, if_false, Bool.false_eq_true, d_t, d_f, ob_eta, ob_eta1, m_ltn, m_nlt, m_nle, m_len, m_ne, m_ne', k_mltT, k_mltF, k_mleT, k_mleF, k_meqT, k_meqF, m_neg]
          exact this
        · have := r_lives_ (rp' S1 f) kp h6 (tr' S1 f) (by show 0 < _; decide) x3
          simp (disch := omega) only [↓ob_some, ↓zm_some, ↓zm_none, ↓zg_true, ↓zg_in, ↓(ob_of (bp S1 f)), ↓(ob_of (w (zP S1 0 17 (nI 0)))), reduceIte, li, lo, k_leT, k_leF, k_ltT, k_ltF, k_eqT, k_eqF, c_cl, c_sub, nI_add, pk_mul, zin_nI, zg_true, ob_some, zm_none, zm_some, if_true, if_false, Bool.false_eq_true, d_t, d_f, ob_eta, ob_eta1, m_ltn, m_nlt, m_nle, m_len, m_ne, m_ne', k_mltT, k_mltF, k_mleT, k_mleF, k_meqT, k_meqF, m_neg]
          exact this
      · refine fin (l := goL (dk d p)) (by have := goL_len (dk d p); omega) (v := goV (dk d p) (dv d p 60) (nI p) x3) ?_ (fun S1 f => ?_)
        · have := l_goes hl kp t1 (by show 0 < _; decide) x3
          simp (disch := omega) only [↓ob_some, ↓zm_some, ↓zm_none, ↓zg_true, ↓zg_in, ↓(ob_of a1), ↓(zg_of ok), reduceIte, li, lo, k_leT, k_leF, k_ltT, k_ltF, k_eqT, k_eqF, c_cl, c_sub, nI_add, pk_mul, zin_nI, zg_true, ob_some, zm_none, zm_some, if_true, if_false, Bool.false_eq_true, d_t, d_f, ob_eta, ob_eta1, m_ltn, m_nlt, m_nle, m_len, m_ne, m_ne', k_mltT, k_mltF, k_mleT, k_mleF, k_meqT, k_meqF, m_neg]
          exact this
        · have := r_goes_ (rp' S1 f) kp h6 (tr' S1 f) (by show 0 < _; decide) x3
          simp (disch := omega) only [↓ob_some, ↓zm_some, ↓zm_none, ↓zg_true, ↓zg_in, ↓(ob_of (bp S1 f)), ↓(ob_of (w (zP S1 0 17 (nI 0)))), reduceIte, li, lo, k_leT, k_leF, k_ltT, k_ltF, k_eqT, k_eqF, c_cl, c_sub, nI_add, pk_mul, zin_nI, zg_true, ob_some, zm_none, zm_some, if_true, if_false, Bool.false_eq_true, d_t, d_f, ob_eta, ob_eta1, m_ltn, m_nlt, m_nle, m_len, m_ne, m_ne', k_mltT, k_mltF, k_mleT, k_mleF, k_meqT, k_meqF, m_neg]
          exact this
      · refine fin (l := loL (dk d p)) ?_ (v := loV (dk d p) (dv d p 60) (nI p) x3) ?_ (fun S1 f => ?_)
        · have h1 := lvL_len (dk d p)
          have h2 := goL_len (dk d p)
          unfold loL
          repeat' split
          all_goals (simp only [List.length_cons, List.length_append]; omega)
        · have := l_looks hl kp t1 (by show 0 < _; decide) x3
          simp (disch := omega) only [↓ob_some, ↓zm_some, ↓zm_none, ↓zg_true, ↓zg_in, ↓(ob_of a1), ↓(zg_of ok), reduceIte, li, lo, k_leT, k_leF, k_ltT, k_ltF, k_eqT, k_eqF, c_cl, c_sub, nI_add, pk_mul, zin_nI, zg_true, ob_some, zm_none, zm_some, if_true, if_false, Bool.false_eq_true, d_t, d_f, ob_eta, ob_eta1, m_ltn, m_nlt, m_nle, m_len, m_ne, m_ne', k_mltT, k_mltF, k_mleT, k_mleF, k_meqT, k_meqF, m_neg]
          exact this
        · have := r_looks_ (rp' S1 f) kp h6 (tr' S1 f) (by show 0 < _; decide) x3
          simp (disch := omega) only [↓ob_some, ↓zm_some, ↓zm_none, ↓zg_true, ↓zg_in, ↓(ob_of (bp S1 f)), ↓(ob_of (w (zP S1 0 17 (nI 0)))), reduceIte, li, lo, k_leT, k_leF, k_ltT, k_ltF, k_eqT, k_eqF, c_cl, c_sub, nI_add, pk_mul, zin_nI, zg_true, ob_some, zm_none, zm_some, if_true, if_false, Bool.false_eq_true, d_t, d_f, ob_eta, ob_eta1, m_ltn, m_nlt, m_nle, m_len, m_ne, m_ne', k_mltT, k_mltF, k_mleT, k_mleF, k_meqT, k_meqF, m_neg]
          exact this
end ACT
