/-! YEARS by draws -/
def sYear (nx : Int32 → Int32) (drw : Int32 → Nat) (d : zD) : zD :=
  if drw (nx (nx (dse d))) % 8 < 5 then
    (if dou d (drw (nx (dse d)) % dn d) < 6 then (sPress (dSd d (nx (nx (nx (nx (dse d)))))) (drw (nx (dse d)) % dn d) (drw (nx (nx (nx (dse d)))) % 8) (nI (1 + drw (nx (nx (nx (nx (dse d))))) % 60))).1 else dSd d (nx (nx (nx (nx (dse d))))))
  else if drw (nx (nx (dse d))) % 8 < 7 then
    (if drw (nx (nx (nx (dse d)))) % 6 < dou d (drw (nx (dse d)) % dn d) then dSd d (nx (nx (nx (nx (dse d))))) else sRub (dSd d (nx (nx (nx (nx (dse d)))))) (drw (nx (dse d)) % dn d) (drw (nx (nx (nx (dse d)))) % 6) (drw (nx (nx (nx (nx (dse d))))) % 8))
  else (if dou d (drw (nx (dse d)) % dn d) < 6 then dDie (dSd d (nx (nx (dse d)))) (drw (nx (dse d)) % dn d) else dSd d (nx (nx (dse d))))
section YE2
variable {P : Nat → Prop} {pk : Nat → Nat} {S S' T : zSt} {i p n : Nat} {d : zD} {v : Int32}
theorem LL.seed (h : LL i pk S d) : LL i pk (zP S (60 + 3 * i) 5 v) (dSd d v) := by
  refine ⟨by rw [p_y, if_neg (by decide)]; exact h.1, by rw [p_y, if_neg (by decide)]; exact h.2.1, by rw [p_y, if_pos rfl]; rfl, fun p hp => ?_⟩
  exact (h.pe hp).fr (zFr_P (P := fun k => k = 60 + 3 * i) rfl) (fun c hc => by omega)
theorem RR.seed (h : RR T d) : RR (zP T 0 12 v) (dSd d v) := by
  refine ⟨by rw [p_y, if_neg (by decide)]; exact h.1, by rw [p_y, if_neg (by decide)]; exact h.2.1, by rw [p_y, if_pos rfl]; rfl, fun p hp => ?_⟩
  exact (h.pe hp).fr (zFr_P (P := fun k => k = 0) rfl) (fun k a b => by omega)
theorem KK.seed (K : KK d) : KK (dSd d v) := K
theorem l_draw (h : LL i pk S d) (P0 : PK pk S) (hi : i < 3) (h1 : 0 < n) (h2 : n < 1000) : M_X4_drawBelow pk S i (nI n) = some (nI (drw (nx (dse d)) % n), zP S (60 + 3 * i) 5 (nx (dse d))) ∧ LL i pk (zP S (60 + 3 * i) 5 (nx (dse d))) (dSd d (nx (dse d))) ∧ PK pk (zP S (60 + 3 * i) 5 (nx (dse d))) ∧ zFr (zL1 i) S (zP S (60 + 3 * i) 5 (nx (dse d))) := by
  refine ⟨?_, h.seed, P0.head hi, zFr_P (Or.inl rfl)⟩
  have e1 : zsc S (60 + 3 * i) 5 * 1103515245 + 12345 = nx (dse d) := by rw [h.2.2.1]; rfl
  have c1 : (1 : Int32) ≤ nI n := nI_le (a := 1) h1 (by omega)
  have c2 : ¬ nI n = 0 := nI_ne0 h1 (by omega)
  unfold M_X4_drawBelow
  rw [if_pos c1, zg_of (decide_eq_true c2), e1, p_y, if_pos rfl, drw_m _ h1 h2]
theorem r_draw (h : RR T d) (h1 : 0 < n) (h2 : n < 1000) : M_X12_draw T (nI n) = some (nI (drw (nx (dse d)) % n), zP T 0 12 (nx (dse d))) ∧ RR (zP T 0 12 (nx (dse d))) (dSd d (nx (dse d))) := by
  refine ⟨?_, h.seed⟩
  have e1 : zsc T 0 12 * 1103515245 + 12345 = nx (dse d) := by rw [h.2.2.1]; rfl
  have c2 : ¬ nI n = 0 := nI_ne0 h1 (by omega)
  unfold M_X12_draw
  rw [zg_of (decide_eq_true c2), e1, p_y, if_pos rfl, drw_m _ h1 h2]
end YE2
/-- what is known of draws -/
def DrL (nx : Int32 → Int32) (drw : Int32 → Nat) : Prop := ∀ (pk : Nat → Nat) (S : zSt) (d : zD) (i n : Nat), LL i pk S d → PK pk S → i < 3 → 0 < n → n < 1000 → M_X4_drawBelow pk S i (nI n) = some (nI (drw (nx (dse d)) % n), zP S (60 + 3 * i) 5 (nx (dse d))) ∧ LL i pk (zP S (60 + 3 * i) 5 (nx (dse d))) (dSd d (nx (dse d))) ∧ PK pk (zP S (60 + 3 * i) 5 (nx (dse d))) ∧ zFr (zL1 i) S (zP S (60 + 3 * i) 5 (nx (dse d)))
def DrR (nx : Int32 → Int32) (drw : Int32 → Nat) : Prop := ∀ (T : zSt) (d : zD) (n : Nat), RR T d → 0 < n → n < 1000 → M_X12_draw T (nI n) = some (nI (drw (nx (dse d)) % n), zP T 0 12 (nx (dse d))) ∧ RR (zP T 0 12 (nx (dse d))) (dSd d (nx (dse d)))
theorem drL0 : DrL nx drw := fun _ _ _ _ _ h P0 hi h1 h2 => l_draw h P0 hi h1 h2
theorem drR0 : DrR nx drw := fun _ _ _ h h1 h2 => r_draw h h1 h2
section YE3
variable {P : Nat → Prop} {pk : Nat → Nat} {S S' T : zSt} {i p n : Nat} {d : zD} {v : Int32} {nx : Int32 → Int32} {drw : Int32 → Nat}
theorem l_year (HD : DrL nx drw) (h : LL 0 pk S d) (K : KK d) (P0 : PK pk S) (hn : 0 < dn d) : ∃ S', M_X4_liveYear pk S 0 = some S' ∧ LL 0 pk S' (sYear nx drw d) ∧ PK pk S' ∧ zFr (zL1 0) S S' := by
  have hn6 := K.1
  obtain ⟨a1, l1, P1, f1⟩ := HD _ _ _ _ _ h P0 (by decide) hn (by omega)
  obtain ⟨a2, l2, P2, f2⟩ := HD _ _ _ _ 8 l1 P1 (by decide) (by decide) (by decide)
  have hp : drw (nx (dse d)) % dn d < dn d := Nat.mod_lt _ hn
  have pa := l_perY l1 hn6 hp
  have ok := (l1.pe hp).ok (show 6 * 0 + drw (nx (dse d)) % dn d < 18 by omega)
  have ho := (K.pe hp).o
  have hcount := h.1
  have w8 : drw (nx (nx (dse d))) % 8 < 8 := Nat.mod_lt _ (by decide)
  unfold M_X4_liveYear sYear
  generalize hP : drw (nx (dse d)) % dn d = p at *
  have a2 : M_X4_drawBelow pk (zP S (60 + 3 * 0) 5 (nx (dse d))) 0 (nI 8) = some (nI (drw (nx (nx (dse d))) % 8), zP (zP S (60 + 3 * 0) 5 (nx (dse d))) (60 + 3 * 0) 5 (nx (nx (dse d)))) := a2
  have l2 : LL 0 pk (zP (zP S (60 + 3 * 0) 5 (nx (dse d))) (60 + 3 * 0) 5 (nx (nx (dse d)))) (dSd d (nx (nx (dse d)))) := l2
  have P2 : PK pk (zP (zP S (60 + 3 * 0) 5 (nx (dse d))) (60 + 3 * 0) 5 (nx (nx (dse d)))) := P2
  have f2 : zFr (zL1 0) S (zP (zP S (60 + 3 * 0) 5 (nx (dse d))) (60 + 3 * 0) 5 (nx (nx (dse d)))) := f1.trans f2
  generalize hW : drw (nx (nx (dse d))) % 8 = w at *
  generalize zP (zP S (60 + 3 * 0) 5 (nx (dse d))) (60 + 3 * 0) 5 (nx (nx (dse d))) = S2 at *
  by_cases c5 : w < 5
  · obtain ⟨a3, l3, P3, f3⟩ := HD _ _ _ _ 8 l2 P2 (by decide) (by decide) (by decide)
    obtain ⟨a4, l4, P4, f4⟩ := HD _ _ _ _ 60 l3 P3 (by decide) (by decide) (by decide)
    have ff := (f2.trans f3).trans f4
    have hx : drw (nx (nx (nx (dse d)))) % 8 < 8 := Nat.mod_lt _ (by decide)
    have hf : drw (nx (nx (nx (nx (dse d))))) % 60 < 60 := Nat.mod_lt _ (by decide)
    have a3 : M_X4_drawBelow pk S2 0 (nI 8) = some (nI (drw (nx (nx (nx (dse d)))) % 8), zP S2 (60 + 3 * 0) 5 (nx (nx (nx (dse d))))) := a3
    have a4 : M_X4_drawBelow pk (zP S2 (60 + 3 * 0) 5 (nx (nx (nx (dse d))))) 0 (nI 60) = some (nI (drw (nx (nx (nx (nx (dse d))))) % 60), zP (zP S2 (60 + 3 * 0) 5 (nx (nx (nx (dse d))))) (60 + 3 * 0) 5 (nx (nx (nx (nx (dse d)))))) := a4
    have l4 : LL 0 pk (zP (zP S2 (60 + 3 * 0) 5 (nx (nx (nx (dse d))))) (60 + 3 * 0) 5 (nx (nx (nx (nx (dse d)))))) (dSd d (nx (nx (nx (nx (dse d)))))) := l4
    have P4 : PK pk (zP (zP S2 (60 + 3 * 0) 5 (nx (nx (nx (dse d))))) (60 + 3 * 0) 5 (nx (nx (nx (nx (dse d)))))) := P4
    have ff : zFr (zL1 0) S (zP (zP S2 (60 + 3 * 0) 5 (nx (nx (nx (dse d))))) (60 + 3 * 0) 5 (nx (nx (nx (nx (dse d)))))) := ff
    generalize hX : drw (nx (nx (nx (dse d)))) % 8 = x at *
    generalize hF : drw (nx (nx (nx (nx (dse d))))) % 60 = f at *
    generalize zP (zP S2 (60 + 3 * 0) 5 (nx (nx (nx (dse d))))) (60 + 3 * 0) 5 (nx (nx (nx (nx (dse d))))) = S4 at *
    have ig := l_isGone (l4.pe (p := p) hp) (ho : dou (dSd d (nx (nx (nx (nx (dse d)))))) p ≤ 6)
    have ig : M_X5_isGone pk S4 (6 * 0 + p) = some (if dou d p < 6 then nI 0 else nI 1) := ig
    rw [if_pos c5]
    by_cases e : dou d p < 6
    · obtain ⟨S', e1, r1, r2, r3⟩ := l_press l4 (K.seed (v := nx (nx (nx (nx (dse d)))))) P4 (p := p) hp hx (not_lt0 (k := 1 + f) (by omega))
      rw [if_pos e] at ig ⊢
      refine ⟨S', ?_, r1, r3, ff.trans (r2.mono (fun k z => Or.inr z))⟩
      simp (disch := omega) only [↓ob_some, ↓zm_some, ↓zm_none, ↓zg_true, ↓zg_in, hcount, ↓(ob_of a1), ↓(ob_of pa), ↓(zg_of ok), ↓(ob_of a2), ↓(ob_of a3), ↓(ob_of a4), ↓(ob_of ig), ↓(ob_of e1), reduceIte, li, lo, k_leT, k_leF, k_ltT, k_ltF, k_eqT, k_eqF, c_cl, c_sub, nI_add, pk_mul, zin_nI, zg_true, ob_some, zm_none, zm_some, if_true, if_false, Bool.false_eq_true, d_t, d_f, ob_eta, ob_eta1, m_ltn, m_nlt, m_nle, m_len, m_ne, m_ne', k_mltT, k_mltF, k_mleT, k_mleF, k_meqT, k_meqF, m_neg]
    · rw [if_neg e] at ig ⊢
      refine ⟨S4, ?_, l4, P4, ff⟩
      simp (disch := omega) only [↓ob_some, ↓zm_some, ↓zm_none, ↓zg_true, ↓zg_in, hcount, ↓(ob_of a1), ↓(ob_of pa), ↓(zg_of ok), ↓(ob_of a2), ↓(ob_of a3), ↓(ob_of a4), ↓(ob_of ig), reduceIte, li, lo, k_leT, k_leF, k_ltT, k_ltF, k_eqT, k_eqF, c_cl, c_sub, nI_add, pk_mul, zin_nI, zg_true, ob_some, zm_none, zm_some, if_true, if_false, Bool.false_eq_true, d_t, d_f, ob_eta, ob_eta1, m_ltn, m_nlt, m_nle, m_len, m_ne, m_ne', k_mltT, k_mltF, k_mleT, k_mleF, k_meqT, k_meqF, m_neg]
  · rw [if_neg c5]
    by_cases c7 : w < 7
    · obtain ⟨a3, l3, P3, f3⟩ := HD _ _ _ _ 6 l2 P2 (by decide) (by decide) (by decide)
      obtain ⟨a4, l4, P4, f4⟩ := HD _ _ _ _ 8 l3 P3 (by decide) (by decide) (by decide)
      have ff := (f2.trans f3).trans f4
      have hc : drw (nx (nx (nx (dse d)))) % 6 < 6 := Nat.mod_lt _ (by decide)
      have hx : drw (nx (nx (nx (nx (dse d))))) % 8 < 8 := Nat.mod_lt _ (by decide)
      have a3 : M_X4_drawBelow pk S2 0 (nI 6) = some (nI (drw (nx (nx (nx (dse d)))) % 6), zP S2 (60 + 3 * 0) 5 (nx (nx (nx (dse d))))) := a3
      have a4 : M_X4_drawBelow pk (zP S2 (60 + 3 * 0) 5 (nx (nx (nx (dse d))))) 0 (nI 8) = some (nI (drw (nx (nx (nx (nx (dse d))))) % 8), zP (zP S2 (60 + 3 * 0) 5 (nx (nx (nx (dse d))))) (60 + 3 * 0) 5 (nx (nx (nx (nx (dse d)))))) := a4
      have l4 : LL 0 pk (zP (zP S2 (60 + 3 * 0) 5 (nx (nx (nx (dse d))))) (60 + 3 * 0) 5 (nx (nx (nx (nx (dse d)))))) (dSd d (nx (nx (nx (nx (dse d)))))) := l4
      have P4 : PK pk (zP (zP S2 (60 + 3 * 0) 5 (nx (nx (nx (dse d))))) (60 + 3 * 0) 5 (nx (nx (nx (nx (dse d)))))) := P4
      have ff : zFr (zL1 0) S (zP (zP S2 (60 + 3 * 0) 5 (nx (nx (nx (dse d))))) (60 + 3 * 0) 5 (nx (nx (nx (nx (dse d)))))) := ff
      generalize hC : drw (nx (nx (nx (dse d)))) % 6 = c at *
      generalize hX : drw (nx (nx (nx (nx (dse d))))) % 8 = x at *
      generalize zP (zP S2 (60 + 3 * 0) 5 (nx (nx (nx (dse d))))) (60 + 3 * 0) 5 (nx (nx (nx (nx (dse d))))) = S4 at *
      have il := l_isLeft (l4.pe (p := p) hp) (ho : dou (dSd d (nx (nx (nx (nx (dse d)))))) p ≤ 6) hc
      have il : M_X5_isLeft pk S4 (6 * 0 + p) (nI c) = some (if c < dou d p then nI 0 else nI 1) := il
      rw [if_pos c7]
      by_cases e : c < dou d p
      · rw [if_pos e] at il ⊢
        refine ⟨S4, ?_, l4, P4, ff⟩
        simp (disch := omega) only [↓ob_some, ↓zm_some, ↓zm_none, ↓zg_true, ↓zg_in, hcount, ↓(ob_of a1), ↓(ob_of pa), ↓(zg_of ok), ↓(ob_of a2), ↓(ob_of a3), ↓(ob_of a4), ↓(ob_of il), reduceIte, li, lo, k_leT, k_leF, k_ltT, k_ltF, k_eqT, k_eqF, c_cl, c_sub, nI_add, pk_mul, zin_nI, zg_true, ob_some, zm_none, zm_some, if_true, if_false, Bool.false_eq_true, d_t, d_f, ob_eta, ob_eta1, m_ltn, m_nlt, m_nle, m_len, m_ne, m_ne', k_mltT, k_mltF, k_mleT, k_mleF, k_meqT, k_meqF, m_neg]
      · rw [if_neg e] at il ⊢
        obtain ⟨S', e1, r1, r2, r3⟩ := l_rub l4 hn6 P4 (p := p) hp hc hx
        refine ⟨S', ?_, r1, r3, ff.trans (r2.mono (fun k z => Or.inr z.1))⟩
        simp (disch := omega) only [↓ob_some, ↓zm_some, ↓zm_none, ↓zg_true, ↓zg_in, hcount, ↓(ob_of a1), ↓(ob_of pa), ↓(zg_of ok), ↓(ob_of a2), ↓(ob_of a3), ↓(ob_of a4), ↓(ob_of il), ↓(ob_of e1), reduceIte, li, lo, k_leT, k_leF, k_ltT, k_ltF, k_eqT, k_eqF, c_cl, c_sub, nI_add, pk_mul, zin_nI, zg_true, ob_some, zm_none, zm_some, if_true, if_false, Bool.false_eq_true, d_t, d_f, ob_eta, ob_eta1, m_ltn, m_nlt, m_nle, m_len, m_ne, m_ne', k_mltT, k_mltF, k_mleT, k_mleF, k_meqT, k_meqF, m_neg]
    · rw [if_neg c7]
      have ig := l_isGone (l2.pe (p := p) hp) (ho : dou (dSd d (nx (nx (dse d)))) p ≤ 6)
      have ig : M_X5_isGone pk S2 (6 * 0 + p) = some (if dou d p < 6 then nI 0 else nI 1) := ig
      have hou : zsc S2 (100 + 4 * (6 * 0 + p)) 8 = nI (dou d p) := (l2.pe (p := p) hp).ou
      by_cases e : dou d p < 6
      · rw [if_pos e] at ig ⊢
        refine ⟨zP S2 (100 + 4 * (6 * 0 + p)) 8 (nI (dou d p + 1)), ?_, l2.die, P2.die, f2.trans (zFr_P (Or.inr (by unfold zZ; omega)))⟩
        simp (disch := omega) only [↓ob_some, ↓zm_some, ↓zm_none, ↓zg_true, ↓zg_in, hcount, ↓(ob_of a1), ↓(ob_of pa), ↓(zg_of ok), ↓(ob_of a2), ↓(ob_of ig), hou, reduceIte, li, lo, k_leT, k_leF, k_ltT, k_ltF, k_eqT, k_eqF, c_cl, c_sub, nI_add, pk_mul, zin_nI, zg_true, ob_some, zm_none, zm_some, if_true, if_false, Bool.false_eq_true, d_t, d_f, ob_eta, ob_eta1, m_ltn, m_nlt, m_nle, m_len, m_ne, m_ne', k_mltT, k_mltF, k_mleT, k_mleF, k_meqT, k_meqF, m_neg]
      · rw [if_neg e] at ig ⊢
        refine ⟨S2, ?_, l2, P2, f2⟩
        simp (disch := omega) only [↓ob_some, ↓zm_some, ↓zm_none, ↓zg_true, ↓zg_in, hcount, ↓(ob_of a1), ↓(ob_of pa), ↓(zg_of ok), ↓(ob_of a2), ↓(ob_of ig), reduceIte, li, lo, k_leT, k_leF, k_ltT, k_ltF, k_eqT, k_eqF, c_cl, c_sub, nI_add, pk_mul, zin_nI, zg_true, ob_some, zm_none, zm_some, if_true, if_false, Bool.false_eq_true, d_t, d_f, ob_eta, ob_eta1, m_ltn, m_nlt, m_nle, m_len, m_ne, m_ne', k_mltT, k_mltF, k_mleT, k_mleF, k_meqT, k_meqF, m_neg]
theorem year_n (nx : Int32 → Int32) (drw : Int32 → Nat) (d : zD) (hn : 0 < dn d) (K : KK d) : dn (sYear nx drw d) = dn d ∧ KK (sYear nx drw d) := by
  have hp : drw (nx (dse d)) % dn d < dn d := Nat.mod_lt _ hn
  have ho := (K.pe hp).o
  unfold sYear
  split
  · have hx : drw (nx (nx (nx (dse d)))) % 8 < 8 := Nat.mod_lt _ (by decide)
    split
    · have := press_alk (p := drw (nx (dse d)) % dn d) (d := dSd d (nx (nx (nx (nx (dse d)))))) hx (nI (1 + drw (nx (nx (nx (nx (dse d))))) % 60)) ho
      exact ⟨this.1, this.kk K.seed⟩
    · exact ⟨rfl, K.seed⟩
  · split
    · split
      · exact ⟨rfl, K.seed⟩
      · have := rub_alk (p := drw (nx (dse d)) % dn d) (d := dSd d (nx (nx (nx (nx (dse d)))))) (c := drw (nx (nx (nx (dse d)))) % 6) (x := drw (nx (nx (nx (nx (dse d))))) % 8) (Nat.mod_lt _ (by decide)) (Nat.mod_lt _ (by decide))
        exact ⟨this.1, this.kk K.seed⟩
    · split
      · rename_i e
        exact ⟨rfl, K.seed.die e⟩
      · exact ⟨rfl, K.seed⟩
def zYr (k : Nat) : Prop := k = 0 ∨ (4 ≤ k ∧ k ≤ 10) ∨ k = 16
theorem r_year (HD : DrR nx drw) (h : RR T d) (K : KK d) (hn : 0 < dn d) : ∃ T', M_X12_year T = some T' ∧ RR T' (sYear nx drw d) ∧ zFr zYr T T' ∧ ∀ g, g ≠ 12 → zsc T' 0 g = zsc T 0 g := by
  have hn6 := K.1
  obtain ⟨a1, l1⟩ := HD _ _ _ h hn (by omega)
  obtain ⟨a2, l2⟩ := HD _ _ 8 l1 (by decide) (by decide)
  have hp : drw (nx (dse d)) % dn d < dn d := Nat.mod_lt _ hn
  have ho := (K.pe hp).o
  have hcount := h.1
  have w8 : drw (nx (nx (dse d))) % 8 < 8 := Nat.mod_lt _ (by decide)
  have sd : ∀ (S : zSt) v, (∀ g, g ≠ 12 → zsc S 0 g = zsc T 0 g) → ∀ g, g ≠ 12 → zsc (zP S 0 12 v) 0 g = zsc T 0 g := fun S v hS g hg => by rw [p_y, if_neg hg, hS g hg]
  have fd : ∀ (S : zSt) v, zFr zYr T S → zFr zYr T (zP S 0 12 v) := fun S v f => f.trans (zFr_P (Or.inl rfl))
  have g2 := sd _ (nx (nx (dse d))) (sd T (nx (dse d)) (fun _ _ => rfl))
  have f2 := fd _ (nx (nx (dse d))) (fd T (nx (dse d)) zFr.rf)
  unfold M_X12_year sYear
  generalize hP : drw (nx (dse d)) % dn d = p at *
  have hp6 : p < 6 := by omega
  have a2 : M_X12_draw (zP T 0 12 (nx (dse d))) (nI 8) = some (nI (drw (nx (nx (dse d))) % 8), zP (zP T 0 12 (nx (dse d))) 0 12 (nx (nx (dse d)))) := a2
  have l2 : RR (zP (zP T 0 12 (nx (dse d))) 0 12 (nx (nx (dse d)))) (dSd d (nx (nx (dse d)))) := l2
  generalize hW : drw (nx (nx (dse d))) % 8 = w at *
  generalize zP (zP T 0 12 (nx (dse d))) 0 12 (nx (nx (dse d))) = S2 at *
  by_cases c5 : w < 5
  · obtain ⟨a3, l3⟩ := HD _ _ 8 l2 (by decide) (by decide)
    obtain ⟨a4, l4⟩ := HD _ _ 60 l3 (by decide) (by decide)
    have g4 := sd _ (nx (nx (nx (nx (dse d))))) (sd S2 (nx (nx (nx (dse d)))) g2)
    have f4 := fd _ (nx (nx (nx (nx (dse d))))) (fd S2 (nx (nx (nx (dse d)))) f2)
    have hx : drw (nx (nx (nx (dse d)))) % 8 < 8 := Nat.mod_lt _ (by decide)
    have hf : drw (nx (nx (nx (nx (dse d))))) % 60 < 60 := Nat.mod_lt _ (by decide)
    have a3 : M_X12_draw S2 (nI 8) = some (nI (drw (nx (nx (nx (dse d)))) % 8), zP S2 0 12 (nx (nx (nx (dse d))))) := a3
    have a4 : M_X12_draw (zP S2 0 12 (nx (nx (nx (dse d))))) (nI 60) = some (nI (drw (nx (nx (nx (nx (dse d))))) % 60), zP (zP S2 0 12 (nx (nx (nx (dse d))))) 0 12 (nx (nx (nx (nx (dse d)))))) := a4
    have l4 : RR (zP (zP S2 0 12 (nx (nx (nx (dse d))))) 0 12 (nx (nx (nx (nx (dse d)))))) (dSd d (nx (nx (nx (nx (dse d)))))) := l4
    generalize hX : drw (nx (nx (nx (dse d)))) % 8 = x at *
    generalize hF : drw (nx (nx (nx (nx (dse d))))) % 60 = f at *
    generalize zP (zP S2 0 12 (nx (nx (nx (dse d))))) 0 12 (nx (nx (nx (nx (dse d))))) = S4 at *
    have k7 : zar S4 7 p = nI (dou d p) := (l4.pe (p := p) hp).ou
    rw [if_pos c5]
    by_cases e : dou d p < 6
    · obtain ⟨T', e1, r1, r2⟩ := r_press l4 (K.seed (v := nx (nx (nx (nx (dse d)))))) (p := p) hp hx (nI (1 + f))
      rw [if_pos e]
      refine ⟨T', ?_, r1, f4.trans (r2.mono (fun k z => by unfold zQ9 at z; unfold zYr; omega)), fun g hg => by rw [r2.sc (by unfold zQ9; omega)]; exact g4 g hg⟩
      simp (disch := omega) only [↓ob_some, ↓zm_some, ↓zm_none, ↓zg_true, ↓zg_in, hcount, ↓(ob_of a1), ↓(ob_of a2), ↓(ob_of a3), ↓(ob_of a4), k7, ↓(ob_of e1), reduceIte, li, lo, k_leT, k_leF, k_ltT, k_ltF, k_eqT, k_eqF, c_cl, c_sub, nI_add, pk_mul, zin_nI, zg_true, ob_some, zm_none, zm_some, if_true, if_false, Bool.false_eq_true, d_t, d_f, ob_eta, ob_eta1, m_ltn, m_nlt, m_nle, m_len, m_ne, m_ne', k_mltT, k_mltF, k_mleT, k_mleF, k_meqT, k_meqF, m_neg]
    · rw [if_neg e]
      refine ⟨S4, ?_, l4, f4, g4⟩
      simp (disch := omega) only [↓ob_some, ↓zm_some, ↓zm_none, ↓zg_true, ↓zg_in, hcount, ↓(ob_of a1), ↓(ob_of a2), ↓(ob_of a3), ↓(ob_of a4), k7, reduceIte, li, lo, k_leT, k_leF, k_ltT, k_ltF, k_eqT, k_eqF, c_cl, c_sub, nI_add, pk_mul, zin_nI, zg_true, ob_some, zm_none, zm_some, if_true, if_false, Bool.false_eq_true, d_t, d_f, ob_eta, ob_eta1, m_ltn, m_nlt, m_nle, m_len, m_ne, m_ne', k_mltT, k_mltF, k_mleT, k_mleF, k_meqT, k_meqF, m_neg]
  · rw [if_neg c5]
    by_cases c7 : w < 7
    · obtain ⟨a3, l3⟩ := HD _ _ 6 l2 (by decide) (by decide)
      obtain ⟨a4, l4⟩ := HD _ _ 8 l3 (by decide) (by decide)
      have g4 := sd _ (nx (nx (nx (nx (dse d))))) (sd S2 (nx (nx (nx (dse d)))) g2)
      have f4 := fd _ (nx (nx (nx (nx (dse d))))) (fd S2 (nx (nx (nx (dse d)))) f2)
      have hc : drw (nx (nx (nx (dse d)))) % 6 < 6 := Nat.mod_lt _ (by decide)
      have hx : drw (nx (nx (nx (nx (dse d))))) % 8 < 8 := Nat.mod_lt _ (by decide)
      have a3 : M_X12_draw S2 (nI 6) = some (nI (drw (nx (nx (nx (dse d)))) % 6), zP S2 0 12 (nx (nx (nx (dse d))))) := a3
      have a4 : M_X12_draw (zP S2 0 12 (nx (nx (nx (dse d))))) (nI 8) = some (nI (drw (nx (nx (nx (nx (dse d))))) % 8), zP (zP S2 0 12 (nx (nx (nx (dse d))))) 0 12 (nx (nx (nx (nx (dse d)))))) := a4
      have l4 : RR (zP (zP S2 0 12 (nx (nx (nx (dse d))))) 0 12 (nx (nx (nx (nx (dse d)))))) (dSd d (nx (nx (nx (nx (dse d)))))) := l4
      generalize hC : drw (nx (nx (nx (dse d)))) % 6 = c at *
      generalize hX : drw (nx (nx (nx (nx (dse d))))) % 8 = x at *
      generalize zP (zP S2 0 12 (nx (nx (nx (dse d))))) 0 12 (nx (nx (nx (nx (dse d))))) = S4 at *
      have il := r_lives (d := dSd d (nx (nx (nx (nx (dse d)))))) ((l4.pe (p := p) hp).ou) hp6 ho hc
      have il : M_X12_lives S4 (nI p) (nI c) = some (if c < dou d p then nI 0 else nI 1) := il
      rw [if_pos c7]
      by_cases e : c < dou d p
      · rw [if_pos e] at il ⊢
        refine ⟨S4, ?_, l4, f4, g4⟩
        simp (disch := omega) only [↓ob_some, ↓zm_some, ↓zm_none, ↓zg_true, ↓zg_in, hcount, ↓(ob_of a1), ↓(ob_of a2), ↓(ob_of a3), ↓(ob_of a4), ↓(ob_of il), reduceIte, li, lo, k_leT, k_leF, k_ltT, k_ltF, k_eqT, k_eqF, c_cl, c_sub, nI_add, pk_mul, zin_nI, zg_true, ob_some, zm_none, zm_some, if_true, if_false, Bool.false_eq_true, d_t, d_f, ob_eta, ob_eta1, m_ltn, m_nlt, m_nle, m_len, m_ne, m_ne', k_mltT, k_mltF, k_mleT, k_mleF, k_meqT, k_meqF, m_neg]
      · rw [if_neg e] at il ⊢
        obtain ⟨T', e1, r1, r2⟩ := r_rub l4 hn6 (p := p) hp hc hx
        refine ⟨T', ?_, r1, f4.trans (r2.mono (fun k z => by unfold zYr; omega)), fun g hg => by rw [r2.sc (by omega)]; exact g4 g hg⟩
        simp (disch := omega) only [↓ob_some, ↓zm_some, ↓zm_none, ↓zg_true, ↓zg_in, hcount, ↓(ob_of a1), ↓(ob_of a2), ↓(ob_of a3), ↓(ob_of a4), ↓(ob_of il), ↓(ob_of e1), reduceIte, li, lo, k_leT, k_leF, k_ltT, k_ltF, k_eqT, k_eqF, c_cl, c_sub, nI_add, pk_mul, zin_nI, zg_true, ob_some, zm_none, zm_some, if_true, if_false, Bool.false_eq_true, d_t, d_f, ob_eta, ob_eta1, m_ltn, m_nlt, m_nle, m_len, m_ne, m_ne', k_mltT, k_mltF, k_mleT, k_mleF, k_meqT, k_meqF, m_neg]
    · rw [if_neg c7]
      have k7 : zar S2 7 p = nI (dou d p) := (l2.pe (p := p) hp).ou
      by_cases e : dou d p < 6
      · rw [if_pos e]
        refine ⟨zAs S2 7 p (nI (dou d p + 1)), ?_, l2.die, f2.trans (zFr_As (by unfold zYr; omega)), fun g hg => g2 g hg⟩
        simp (disch := omega) only [↓ob_some, ↓zm_some, ↓zm_none, ↓zg_true, ↓zg_in, hcount, ↓(ob_of a1), ↓(ob_of a2), k7, reduceIte, li, lo, k_leT, k_leF, k_ltT, k_ltF, k_eqT, k_eqF, c_cl, c_sub, nI_add, pk_mul, zin_nI, zg_true, ob_some, zm_none, zm_some, if_true, if_false, Bool.false_eq_true, d_t, d_f, ob_eta, ob_eta1, m_ltn, m_nlt, m_nle, m_len, m_ne, m_ne', k_mltT, k_mltF, k_mleT, k_mleF, k_meqT, k_meqF, m_neg]
      · rw [if_neg e]
        refine ⟨S2, ?_, l2, f2, g2⟩
        simp (disch := omega) only [↓ob_some, ↓zm_some, ↓zm_none, ↓zg_true, ↓zg_in, hcount, ↓(ob_of a1), ↓(ob_of a2), k7, reduceIte, li, lo, k_leT, k_leF, k_ltT, k_ltF, k_eqT, k_eqF, c_cl, c_sub, nI_add, pk_mul, zin_nI, zg_true, ob_some, zm_none, zm_some, if_true, if_false, Bool.false_eq_true, d_t, d_f, ob_eta, ob_eta1, m_ltn, m_nlt, m_nle, m_len, m_ne, m_ne', k_mltT, k_mltF, k_mleT, k_mleF, k_meqT, k_meqF, m_neg]
def sYrs (nx : Int32 → Int32) (drw : Int32 → Nat) : Nat → zD → zD
  | 0, d => d
  | n + 1, d => sYrs nx drw n (sYear nx drw d)
theorem l_years (HD : DrL nx drw) (m : Nat) (hm : m ≤ 100) : ∀ (r z n : Nat) (S : zSt) (d : zD), z + r = m → r < n → LL 0 pk S d → KK d → PK pk S → 0 < dn d → ∃ S', M_X11_years_B37 pk n S (nI m) (nI z) = some (sDead (sYrs nx drw r d), S') ∧ LL 0 pk S' (sYrs nx drw r d) ∧ KK (sYrs nx drw r d) ∧ dn (sYrs nx drw r d) = dn d ∧ PK pk S' ∧ zFr (zL1 0) S S' := by
  intro r
  induction r with
  | zero =>
    intro z n S d h1 h2 hL K P0 hn
    obtain ⟨n, rfl⟩ : ∃ k, n = k + 1 := ⟨n - 1, by omega⟩
    obtain rfl : z = m := by omega
    refine ⟨S, ?_, hL, K, rfl, P0, zFr.rf⟩
    rw [M_X11_years_B37]
    have := l_deadTotal hL K.1 (by decide)
    unfold sYrs
    simp (disch := omega) only [↓ob_some, ↓zm_some, ↓zm_none, ↓zg_true, ↓zg_in, ↓(ob_of this), reduceIte, li, lo, k_leT, k_leF, k_ltT, k_ltF, k_eqT, k_eqF, c_cl, c_sub, nI_add, pk_mul, zin_nI, zg_true, ob_some, zm_none, zm_some, if_true, if_false, Bool.false_eq_true, d_t, d_f, ob_eta, ob_eta1, m_ltn, m_nlt, m_nle, m_len, m_ne, m_ne', k_mltT, k_mltF, k_mleT, k_mleF, k_meqT, k_meqF, m_neg]
  | succ r ih =>
    intro z n S d h1 h2 hL K P0 hn
    obtain ⟨n, rfl⟩ : ∃ k, n = k + 1 := ⟨n - 1, by omega⟩
    obtain ⟨S1, e1, l1, p1, f1⟩ := l_year HD hL K P0 hn
    obtain ⟨y1, y2⟩ := year_n nx drw d hn K
    obtain ⟨S2, e2, l2, k2, n2, p2, f2⟩ := ih (z + 1) n S1 (sYear nx drw d) (by omega) (by omega) l1 y2 p1 (by rw [y1]; exact hn)
    refine ⟨S2, ?_, l2, k2, n2.trans y1, p2, f1.trans f2⟩
    rw [M_X11_years_B37]
    simp (disch := omega) only [↓ob_some, ↓zm_some, ↓zm_none, ↓zg_true, ↓zg_in, ↓(ob_of e1), reduceIte, li, lo, k_leT, k_leF, k_ltT, k_ltF, k_eqT, k_eqF, c_cl, c_sub, nI_add, pk_mul, zin_nI, zg_true, ob_some, zm_none, zm_some, if_true, if_false, Bool.false_eq_true, d_t, d_f, ob_eta, ob_eta1, m_ltn, m_nlt, m_nle, m_len, m_ne, m_ne', k_mltT, k_mltF, k_mleT, k_mleF, k_meqT, k_meqF, m_neg]
    exact e2
theorem r_years (HD : DrR nx drw) (m : Nat) (hm : m ≤ 100) : ∀ (r z n : Nat) (T : zSt) (d : zD), z + r = m → r < n → RR T d → KK d → 0 < dn d → ∃ T', M_X12_years_B33 n T (nI m) (nI z) = some (sDead (sYrs nx drw r d), T') ∧ RR T' (sYrs nx drw r d) ∧ zFr zYr T T' ∧ ∀ g, g ≠ 12 → zsc T' 0 g = zsc T 0 g := by
  intro r
  induction r with
  | zero =>
    intro z n T d h1 h2 hR K hn
    obtain ⟨n, rfl⟩ : ∃ k, n = k + 1 := ⟨n - 1, by omega⟩
    obtain rfl : z = m := by omega
    refine ⟨T, ?_, hR, zFr.rf, fun _ _ => rfl⟩
    rw [M_X12_years_B33]
    have := r_allDead hR K.1
    unfold sYrs
    simp (disch := omega) only [↓ob_some, ↓zm_some, ↓zm_none, ↓zg_true, ↓zg_in, ↓(ob_of this), reduceIte, li, lo, k_leT, k_leF, k_ltT, k_ltF, k_eqT, k_eqF, c_cl, c_sub, nI_add, pk_mul, zin_nI, zg_true, ob_some, zm_none, zm_some, if_true, if_false, Bool.false_eq_true, d_t, d_f, ob_eta, ob_eta1, m_ltn, m_nlt, m_nle, m_len, m_ne, m_ne', k_mltT, k_mltF, k_mleT, k_mleF, k_meqT, k_meqF, m_neg]
  | succ r ih =>
    intro z n T d h1 h2 hR K hn
    obtain ⟨n, rfl⟩ : ∃ k, n = k + 1 := ⟨n - 1, by omega⟩
    obtain ⟨T1, e1, l1, f1, g1⟩ := r_year HD hR K hn
    obtain ⟨y1, y2⟩ := year_n nx drw d hn K
    obtain ⟨T2, e2, l2, f2, g2⟩ := ih (z + 1) n T1 (sYear nx drw d) (by omega) (by omega) l1 y2 (by rw [y1]; exact hn)
    refine ⟨T2, ?_, l2, f1.trans f2, fun g hg => (g2 g hg).trans (g1 g hg)⟩
    rw [M_X12_years_B33]
    simp (disch := omega) only [↓ob_some, ↓zm_some, ↓zm_none, ↓zg_true, ↓zg_in, ↓(ob_of e1), reduceIte, li, lo, k_leT, k_leF, k_ltT, k_ltF, k_eqT, k_eqF, c_cl, c_sub, nI_add, pk_mul, zin_nI, zg_true, ob_some, zm_none, zm_some, if_true, if_false, Bool.false_eq_true, d_t, d_f, ob_eta, ob_eta1, m_ltn, m_nlt, m_nle, m_len, m_ne, m_ne', k_mltT, k_mltF, k_mleT, k_mleF, k_meqT, k_meqF, m_neg]
    exact e2
end YE3
section YE4
variable {pk : Nat → Nat} {S : zSt} {d : zD}
theorem s_years (h : Inv pk S d) (x1 : Int32) : zStp pk (M_X11_years pk S x1) (fun T => M_X12_years T x1) := by
  have hn6 := h.k.1
  have n1 := h.n1
  have n2 : ∀ c, zsc (zR1 S c) 0 3 = nI (dn d) := fun c => h.r.1
  unfold M_X11_years M_X12_years M_X11_years_B28
  by_cases e0 : dn d = 0
  · exact st_no h 5 (by decide) (by decide) (by simp (disch := omega) only [reduceIte, li, lo, k_leT, k_leF, k_ltT, k_ltF, k_eqT, k_eqF, c_cl, c_sub, nI_add, pk_mul, zin_nI, zg_true, ob_some, zm_none, zm_some, if_true, if_false, Bool.false_eq_true, d_t, d_f, ob_eta, ob_eta1, m_ltn, m_nlt, m_nle, m_len, m_ne, m_ne', k_mltT, k_mltF, k_mleT, k_mleF, k_meqT, k_meqF, m_neg, n1, e0]) (by simp (disch := omega) only [reduceIte, li, lo, k_leT, k_leF, k_ltT, k_ltF, k_eqT, k_eqF, c_cl, c_sub, nI_add, pk_mul, zin_nI, zg_true, ob_some, zm_none, zm_some, if_true, if_false, Bool.false_eq_true, d_t, d_f, ob_eta, ob_eta1, m_ltn, m_nlt, m_nle, m_len, m_ne, m_ne', k_mltT, k_mltF, k_mleT, k_mleF, k_meqT, k_meqF, m_neg, n2, e0])
  · rcases cR x1 1 100 (by decide) (by decide) with q | ⟨q1, q2, q3⟩ | ⟨m, m1, m2, rfl⟩
    · have n2 := n2 6
      exact st_no h 6 (by decide) (by decide) (by simp (disch := omega) only [↓ob_some, ↓zm_some, ↓zm_none, ↓zg_true, ↓zg_in, n1, q, reduceIte, li, lo, k_leT, k_leF, k_ltT, k_ltF, k_eqT, k_eqF, c_cl, c_sub, nI_add, pk_mul, zin_nI, zg_true, ob_some, zm_none, zm_some, if_true, if_false, Bool.false_eq_true, d_t, d_f, ob_eta, ob_eta1, m_ltn, m_nlt, m_nle, m_len, m_ne, m_ne', k_mltT, k_mltF, k_mleT, k_mleF, k_meqT, k_meqF, m_neg]) (by simp (disch := omega) only [↓ob_some, ↓zm_some, ↓zm_none, ↓zg_true, ↓zg_in, n2, ↓(ob_of (w_lo (b := nI 100) (zR1 S 6) q)), reduceIte, li, lo, k_leT, k_leF, k_ltT, k_ltF, k_eqT, k_eqF, c_cl, c_sub, nI_add, pk_mul, zin_nI, zg_true, ob_some, zm_none, zm_some, if_true, if_false, Bool.false_eq_true, d_t, d_f, ob_eta, ob_eta1, m_ltn, m_nlt, m_nle, m_len, m_ne, m_ne', k_mltT, k_mltF, k_mleT, k_mleF, k_meqT, k_meqF, m_neg])
    · have n2 := n2 6
      exact st_no h 6 (by decide) (by decide) (by simp (disch := omega) only [↓ob_some, ↓zm_some, ↓zm_none, ↓zg_true, ↓zg_in, n1, q1, q3, reduceIte, li, lo, k_leT, k_leF, k_ltT, k_ltF, k_eqT, k_eqF, c_cl, c_sub, nI_add, pk_mul, zin_nI, zg_true, ob_some, zm_none, zm_some, if_true, if_false, Bool.false_eq_true, d_t, d_f, ob_eta, ob_eta1, m_ltn, m_nlt, m_nle, m_len, m_ne, m_ne', k_mltT, k_mltF, k_mleT, k_mleF, k_meqT, k_meqF, m_neg]) (by simp (disch := omega) only [↓ob_some, ↓zm_some, ↓zm_none, ↓zg_true, ↓zg_in, n2, ↓(ob_of (w_hi (a := nI 1) (zR1 S 6) q2)), reduceIte, li, lo, k_leT, k_leF, k_ltT, k_ltF, k_eqT, k_eqF, c_cl, c_sub, nI_add, pk_mul, zin_nI, zg_true, ob_some, zm_none, zm_some, if_true, if_false, Bool.false_eq_true, d_t, d_f, ob_eta, ob_eta1, m_ltn, m_nlt, m_nle, m_len, m_ne, m_ne', k_mltT, k_mltF, k_mleT, k_mleF, k_meqT, k_meqF, m_neg])
    · obtain ⟨S1, e1, l1, K1, y1, p1, f1⟩ := l_years (pk := pk) drL0 m m2 m 0 zF S d (by omega) (by show _ < 4096; omega) h.l h.k h.pe (by omega)
      obtain ⟨T1, e2, r2, f2, g2⟩ := r_years drR0 m m2 m 0 zF S1 d (by omega) (by show _ < 4096; omega) (f1L h.r f1) h.k (by omega)
      have c0 : zsc S1 0 = zsc S 0 := f1.sc (by unfold zL1 zZ; omega)
      have F : zFr (fun k => zL1 0 k ∨ zYr k) S T1 := (f1.mono (fun k z => Or.inl z)).trans (f2.mono (fun k z => Or.inr z))
      have n3 : zsc S1 0 3 = nI (dn d) := by rw [c0]; exact h.r.1
      have w := w_n (a := 1) (b := 100) S1 m1 m2 (by decide)
      refine ⟨sDead (sYrs nx drw m d), S1, T1, ?_, ?_, sYrs nx drw m d, h.upG F (fun k z => ?_) (by rw [g2 15 (by decide), c0]) (by rw [g2 17 (by decide), c0]) (by rw [g2 20 (by decide), c0]) (fun _ _ _ => rfl) K1 (by omega) (l1.fr K1.1 f2 (by unfold zYr; omega) (fun k a b => by unfold zYr; omega)) r2 (p1.fr f2 (fun q _ => by unfold zYr; omega))⟩
      · simp (disch := omega) only [↓ob_some, ↓zm_some, ↓zm_none, ↓zg_true, ↓zg_in, n1, reduceIte, li, lo, k_leT, k_leF, k_ltT, k_ltF, k_eqT, k_eqF, c_cl, c_sub, nI_add, pk_mul, zin_nI, zg_true, ob_some, zm_none, zm_some, if_true, if_false, Bool.false_eq_true, d_t, d_f, ob_eta, ob_eta1, m_ltn, m_nlt, m_nle, m_len, m_ne, m_ne', k_mltT, k_mltF, k_mleT, k_mleF, k_meqT, k_meqF, m_neg]
        exact e1
      · simp (disch := omega) only [↓ob_some, ↓zm_some, ↓zm_none, ↓zg_true, ↓zg_in, n3, ↓(ob_of w), reduceIte, li, lo, k_leT, k_leF, k_ltT, k_ltF, k_eqT, k_eqF, c_cl, c_sub, nI_add, pk_mul, zin_nI, zg_true, ob_some, zm_none, zm_some, if_true, if_false, Bool.false_eq_true, d_t, d_f, ob_eta, ob_eta1, m_ltn, m_nlt, m_nle, m_len, m_ne, m_ne', k_mltT, k_mltF, k_mleT, k_mleF, k_meqT, k_meqF, m_neg]
        exact e2
      · left
        unfold zUp zIr zZ
        unfold zL1 zZ zYr at z
        omega
end YE4
