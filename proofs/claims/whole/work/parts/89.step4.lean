/-! heirs; forces -/
def sHeS (d : zD) (le : Int32) (x : Nat) (a : Nat × Nat) (i : Nat) : Nat × Nat := if sBear d i le x ≤ a.2 then a else (i, sBear d i le x)
def sCnt (ok : Nat → Bool) (i m : Nat) : Nat := sFo (fun acc c => if ok c = true then acc + 1 else acc) i m 0
def sNo (bad : Nat → Bool) : Nat → Nat → Bool
  | _, 0 => true
  | i, m + 1 => if bad i = true then false else sNo bad (i + 1) m
def sFst (P : Nat → Bool) (z : Int32) : Nat → Nat → Int32
  | _, 0 => z
  | i, m + 1 => if P i = true then nI i else sFst P z (i + 1) m
theorem sNo_iff (bad : Nat → Bool) : ∀ (m i : Nat), sNo bad i m = true ↔ ∀ c, i ≤ c → c < i + m → bad c = false := by
  intro m
  induction m with
  | zero => intro i; exact ⟨fun _ c h1 h2 => by omega, fun _ => rfl⟩
  | succ m ih =>
    intro i
    unfold sNo
    by_cases e : bad i = true
    · rw [if_pos e]
      refine ⟨fun q => Bool.noConfusion q, fun q => ?_⟩
      have := q i (Nat.le_refl _) (by omega)
      rw [e] at this
      cases this
    · rw [if_neg e, ih]
      refine ⟨fun q c h1 h2 => ?_, fun q c h1 h2 => q c (by omega) (by omega)⟩
      by_cases ec : c = i
      · subst ec; exact Bool.eq_false_iff.mpr e
      · exact q c (by omega) (by omega)
theorem sCnt_go (ok : Nat → Bool) : ∀ (m i a : Nat), sFo (fun acc c => if ok c = true then acc + 1 else acc) i m a = a + sCnt ok i m := by
  intro m
  induction m with
  | zero => intro i a; rfl
  | succ m ih =>
    intro i a
    unfold sCnt
    show sFo _ (i + 1) m (if ok i = true then a + 1 else a) = a + sFo _ (i + 1) m (if ok i = true then 0 + 1 else 0)
    by_cases e : ok i = true
    · rw [if_pos e, if_pos e, ih, ih]; omega
    · rw [if_neg e, if_neg e, ih]; rfl
theorem sCnt_s (ok : Nat → Bool) (m i : Nat) : sCnt ok i (m + 1) = (if ok i = true then 1 else 0) + sCnt ok (i + 1) m := by
  show sFo _ (i + 1) m (if ok i = true then 0 + 1 else 0) = _
  rw [sCnt_go]
theorem sCnt_le (ok : Nat → Bool) : ∀ (m i : Nat), sCnt ok i m ≤ m := by
  intro m
  induction m with
  | zero => intro i; exact Nat.le_refl _
  | succ m ih =>
    intro i
    rw [sCnt_s]
    have := ih (i + 1)
    split <;> omega
theorem sCnt_full (ok : Nat → Bool) : ∀ (m i : Nat), sCnt ok i m = m ↔ ∀ c, i ≤ c → c < i + m → ok c = true := by
  intro m
  induction m with
  | zero => intro i; exact ⟨fun _ c h1 h2 => by omega, fun _ => rfl⟩
  | succ m ih =>
    intro i
    rw [sCnt_s]
    have hl := sCnt_le ok m (i + 1)
    by_cases e : ok i = true
    · rw [if_pos e]
      refine ⟨fun q c h1 h2 => ?_, fun q => ?_⟩
      · by_cases ec : c = i
        · subst ec; exact e
        · exact (ih (i + 1)).mp (by omega) c (by omega) (by omega)
      · rw [(ih (i + 1)).mpr (fun c h1 h2 => q c (by omega) (by omega))]; omega
    · rw [if_neg e]
      refine ⟨fun q => by omega, fun q => absurd (q i (Nat.le_refl _) (by omega)) e⟩
theorem sCnt_zero (ok : Nat → Bool) : ∀ (m i : Nat), sCnt ok i m = 0 ↔ ∀ c, i ≤ c → c < i + m → ok c = false := by
  intro m
  induction m with
  | zero => intro i; exact ⟨fun _ c h1 h2 => by omega, fun _ => rfl⟩
  | succ m ih =>
    intro i
    rw [sCnt_s]
    by_cases e : ok i = true
    · rw [if_pos e]
      refine ⟨fun q => by omega, fun q => ?_⟩
      have := q i (Nat.le_refl _) (by omega)
      rw [e] at this
      cases this
    · rw [if_neg e]
      refine ⟨fun q c h1 h2 => ?_, fun q => ?_⟩
      · by_cases ec : c = i
        · subst ec; exact Bool.eq_false_iff.mpr e
        · exact (ih (i + 1)).mp (by omega) c (by omega) (by omega)
      · rw [(ih (i + 1)).mpr (fun c h1 h2 => q c (by omega) (by omega))]
section FOR
variable {pk : Nat → Nat} {S T : zSt} {q n p x c : Nat} {d : zD}
theorem sBear_n (ho : dou d p ≤ 6) (le : Int32) (x : Nat) : sBear d p le x ≤ 6 := by
  unfold sBear
  exact sFo_invB _ (fun a => a ≤ 6) 6 (fun a i hi ha => by
    by_cases e : dv d p (8 * i + x) < le
    · rw [if_pos e]; exact ha
    · rw [if_neg e]; omega) _ _ _ (by omega) (by decide)
theorem s_heir (h : Inv pk S d) (x1 : Int32) : zStp pk (M_X11_heir pk S x1) (fun T => M_X12_heir T x1) := by
  have hn := h.k.1
  have n1 := h.n1
  have n2 : ∀ c, zsc (zR1 S c) 0 3 = nI (dn d) := fun c => h.r.1
  unfold M_X11_heir M_X12_heir
  by_cases e0 : dn d = 0
  · exact st_no h 5 (by decide) (by decide) (by simp (disch := omega) only [li, lo, c_le, c_lt, c_eq, c_cl, c_sub, nI_add, pk_mul, zin_nI, zg_true, ob_some, zm_none, zm_some, if_pos, if_neg, if_true, if_false, Bool.false_eq_true, d_t, d_f, ob_eta, ob_eta1, m_ltn, m_nlt, m_nle, m_len, m_ne, m_ne', m_mlt, m_mle, m_meq, m_neg, n1, e0]) (by simp (disch := omega) only [li, lo, c_le, c_lt, c_eq, c_cl, c_sub, nI_add, pk_mul, zin_nI, zg_true, ob_some, zm_none, zm_some, if_pos, if_neg, if_true, if_false, Bool.false_eq_true, d_t, d_f, ob_eta, ob_eta1, m_ltn, m_nlt, m_nle, m_len, m_ne, m_ne', m_mlt, m_mle, m_meq, m_neg, n2, e0])
  · rcases cDeed x1 with ⟨a2, b2, -⟩ | ⟨x, hx, rfl⟩
    · exact st_no h 6 (by decide) (by decide) (by simp (disch := omega) only [li, lo, c_le, c_lt, c_eq, c_cl, c_sub, nI_add, pk_mul, zin_nI, zg_true, ob_some, zm_none, zm_some, if_pos, if_neg, if_true, if_false, Bool.false_eq_true, d_t, d_f, ob_eta, ob_eta1, m_ltn, m_nlt, m_nle, m_len, m_ne, m_ne', m_mlt, m_mle, m_meq, m_neg, n1, a2]) (by simp (disch := omega) only [li, lo, c_le, c_lt, c_eq, c_cl, c_sub, nI_add, pk_mul, zin_nI, zg_true, ob_some, zm_none, zm_some, if_pos, if_neg, if_true, if_false, Bool.false_eq_true, d_t, d_f, ob_eta, ob_eta1, m_ltn, m_nlt, m_nle, m_len, m_ne, m_ne', m_mlt, m_mle, m_meq, m_neg, n2, b2])
    · have l1 : M_X4_longestBearer pk S 0 (nI x) = some (nI (sFo (sHeS d (dle d) x) 1 (dn d - 1) (0, sBear d 0 (dle d) x)).1) := by
        unfold M_X4_longestBearer
        rw [show zF = 4095 + 1 from rfl]
        have hl0 := h.l.pe (show 0 < dn d by omega)
        have hb0 := l_bearing hl0 (h.k.pe (show 0 < dn d by omega)) hx (dle d)
        have first : ∀ n, M_X4_longestBearer_B7 pk S 0 (n + 1) (nI x) (-1) (-1) 0 = M_X4_longestBearer_B7 pk S 0 n (nI x) (nI (sBear d 0 (dle d) x)) (nI 0) (nI (0 + 1)) := by
          intro n
          have s0 := sBear_n (h.k.pe (show 0 < dn d by omega)).o (dle d) x
          simp (disch := omega) only [li, lo, c_le, c_lt, c_eq, c_cl, c_sub, nI_add, pk_mul, zin_nI, zg_true, ob_some, zm_none, zm_some, if_pos, if_neg, if_true, if_false, Bool.false_eq_true, d_t, d_f, ob_eta, ob_eta1, m_ltn, m_nlt, m_nle, m_len, m_ne, m_ne', m_mlt, m_mle, m_meq, m_neg, M_X4_longestBearer_B7, h.l.1, l_perY h.l hn (show 0 < dn d by omega), hl0.ok (show 6 * 0 + 0 < 18 by decide), h.l.2.1, hb0, M_X4_longestBearer_B43]
        rw [first]
        refine lpR (fun n (a : Int32 × Int32) i => M_X4_longestBearer_B7 pk S 0 n (nI x) a.1 a.2 i) (sHeS d (dle d) x) (fun i a c => a = (nI c.2, nI c.1) ∧ c.2 ≤ 6) (fun c o => o = some (nI c.1)) (dn d) (fun n a c hR => ?_) (fun n a c i hi hR => ?_) (dn d - 1) 1 4095 (nI (sBear d 0 (dle d) x), nI 0) (0, sBear d 0 (dle d) x) ⟨rfl, sBear_n (h.k.pe (show 0 < dn d by omega)).o _ _⟩ (by omega) (by omega)
        · obtain ⟨rfl, -⟩ := hR
          simp (disch := omega) only [li, lo, c_le, c_lt, c_eq, c_cl, c_sub, nI_add, pk_mul, zin_nI, zg_true, ob_some, zm_none, zm_some, if_pos, if_neg, if_true, if_false, Bool.false_eq_true, d_t, d_f, ob_eta, ob_eta1, m_ltn, m_nlt, m_nle, m_len, m_ne, m_ne', m_mlt, m_mle, m_meq, m_neg, M_X4_longestBearer_B7, h.l.1]
        · obtain ⟨rfl, h6⟩ := hR
          have si := sBear_n (h.k.pe hi).o (dle d) x
          have hb := l_bearing (h.l.pe hi) (h.k.pe hi) hx (dle d)
          refine ⟨(nI (sHeS d (dle d) x c i).2, nI (sHeS d (dle d) x c i).1), ⟨rfl, ?_⟩, ?_⟩
          · unfold sHeS
            by_cases e : sBear d i (dle d) x ≤ c.2
            · rw [if_pos e]; exact h6
            · rw [if_neg e]; exact si
          · unfold sHeS
            by_cases e : sBear d i (dle d) x ≤ c.2
            · simp (disch := omega) only [li, lo, c_le, c_lt, c_eq, c_cl, c_sub, nI_add, pk_mul, zin_nI, zg_true, ob_some, zm_none, zm_some, if_pos, if_neg, if_true, if_false, Bool.false_eq_true, d_t, d_f, ob_eta, ob_eta1, m_ltn, m_nlt, m_nle, m_len, m_ne, m_ne', m_mlt, m_mle, m_meq, m_neg, M_X4_longestBearer_B7, h.l.1, l_perY h.l hn hi, (h.l.pe hi).ok (show 6 * 0 + i < 18 by omega), h.l.2.1, hb, M_X4_longestBearer_B43, e]
            · simp (disch := omega) only [li, lo, c_le, c_lt, c_eq, c_cl, c_sub, nI_add, pk_mul, zin_nI, zg_true, ob_some, zm_none, zm_some, if_pos, if_neg, if_true, if_false, Bool.false_eq_true, d_t, d_f, ob_eta, ob_eta1, m_ltn, m_nlt, m_nle, m_len, m_ne, m_ne', m_mlt, m_mle, m_meq, m_neg, M_X4_longestBearer_B7, h.l.1, l_perY h.l hn hi, (h.l.pe hi).ok (show 6 * 0 + i < 18 by omega), h.l.2.1, hb, M_X4_longestBearer_B43, e]
      have l2 : M_X12_heir_B32 zF S (nI x) (nI 0) (nI 1) = some (nI (sFo (sHeS d (dle d) x) 1 (dn d - 1) (0, sBear d 0 (dle d) x)).1, S) := by
        refine lpR (fun n (a : Int32) i => M_X12_heir_B32 n S (nI x) a i) (sHeS d (dle d) x) (fun i a c => a = nI c.1 ∧ c.1 < dn d ∧ c.2 = sBear d c.1 (dle d) x) (fun c o => o = some (nI c.1, S)) (dn d) (fun n a c hR => ?_) (fun n a c i hi hR => ?_) (dn d - 1) 1 zF (nI 0) (0, sBear d 0 (dle d) x) ⟨rfl, by show 0 < dn d; omega, rfl⟩ (by omega) (by show _ < 4096; omega)
        · obtain ⟨rfl, -, -⟩ := hR
          simp (disch := omega) only [li, lo, c_le, c_lt, c_eq, c_cl, c_sub, nI_add, pk_mul, zin_nI, zg_true, ob_some, zm_none, zm_some, if_pos, if_neg, if_true, if_false, Bool.false_eq_true, d_t, d_f, ob_eta, ob_eta1, m_ltn, m_nlt, m_nle, m_len, m_ne, m_ne', m_mlt, m_mle, m_meq, m_neg, M_X12_heir_B32, h.r.1]
        · obtain ⟨rfl, hc1, hc2⟩ := hR
          have si := sBear_n (h.k.pe hi).o (dle d) x
          have sc := sBear_n (h.k.pe hc1).o (dle d) x
          have hb := r_bears (h.r.pe hi) (h.k.pe hi) (show i < 6 by omega) hx
          have hb2 := r_bears (h.r.pe hc1) (h.k.pe hc1) (show c.1 < 6 by omega) hx
          rw [h.le2] at hb hb2
          refine ⟨nI (sHeS d (dle d) x c i).1, ⟨rfl, ?_, ?_⟩, ?_⟩
          · unfold sHeS
            by_cases e : sBear d i (dle d) x ≤ c.2
            · rw [if_pos e]; exact hc1
            · rw [if_neg e]; exact hi
          · unfold sHeS
            by_cases e : sBear d i (dle d) x ≤ c.2
            · rw [if_pos e]; exact hc2
            · rw [if_neg e]
          · unfold sHeS
            rw [hc2]
            by_cases e : sBear d i (dle d) x ≤ sBear d c.1 (dle d) x
            · simp (disch := omega) only [li, lo, c_le, c_lt, c_eq, c_cl, c_sub, nI_add, pk_mul, zin_nI, zg_true, ob_some, zm_none, zm_some, if_pos, if_neg, if_true, if_false, Bool.false_eq_true, d_t, d_f, ob_eta, ob_eta1, m_ltn, m_nlt, m_nle, m_len, m_ne, m_ne', m_mlt, m_mle, m_meq, m_neg, M_X12_heir_B32, h.r.1, hb, hb2, e]
            · simp (disch := omega) only [li, lo, c_le, c_lt, c_eq, c_cl, c_sub, nI_add, pk_mul, zin_nI, zg_true, ob_some, zm_none, zm_some, if_pos, if_neg, if_true, if_false, Bool.false_eq_true, d_t, d_f, ob_eta, ob_eta1, m_ltn, m_nlt, m_nle, m_len, m_ne, m_ne', m_mlt, m_mle, m_meq, m_neg, M_X12_heir_B32, h.r.1, hb, hb2, e]
      exact st_eq h (nI (sFo (sHeS d (dle d) x) 1 (dn d - 1) (0, sBear d 0 (dle d) x)).1) (by simp (disch := omega) only [li, lo, c_le, c_lt, c_eq, c_cl, c_sub, nI_add, pk_mul, zin_nI, zg_true, ob_some, zm_none, zm_some, if_pos, if_neg, if_true, if_false, Bool.false_eq_true, d_t, d_f, ob_eta, ob_eta1, m_ltn, m_nlt, m_nle, m_len, m_ne, m_ne', m_mlt, m_mle, m_meq, m_neg, n1, t_isDeed pk S hx, l1]) (by simp (disch := omega) only [li, lo, c_le, c_lt, c_eq, c_cl, c_sub, nI_add, pk_mul, zin_nI, zg_true, ob_some, zm_none, zm_some, if_pos, if_neg, if_true, if_false, Bool.false_eq_true, d_t, d_f, ob_eta, ob_eta1, m_ltn, m_nlt, m_nle, m_len, m_ne, m_ne', m_mlt, m_mle, m_meq, m_neg, n2, h.r.1, r_isDeedY hx, l2])
/-- the copy c has the deed x behind a press with f -/
def sOk (d : zD) (p x : Nat) (le f : Int32) (c : Nat) : Bool := !decide (dv d p (8 * c + x) + dGot d p f (c - dou d p) < le)
theorem l_haveDown (h : Lp pk S q d p) (k : Kp d p) (hx : x < 8) {a b : Nat} (ha : dou d p ≤ a) (hab : a ≤ b + 1) (hb : b < 6) (f le : Int32) : M_X5_haveDown pk S q (nI x) (nI a) (nI b) f le = some (nI (sCnt (sOk d p x le f) a (b + 1 - a))) := by
  unfold M_X5_haveDown sCnt
  refine lpR (fun n (a : Int32) i => M_X5_haveDown_B6 pk S q n (nI x) (nI b) f le a i) (fun acc c => if sOk d p x le f c = true then acc + 1 else acc) (fun i a c => a = nI c ∧ dou d p ≤ i) (fun c o => o = some (nI c)) (b + 1) (fun n a c hR => ?_) (fun n a c i hi hR => ?_) (b + 1 - a) a zF (nI 0) 0 ⟨rfl, ha⟩ (by omega) (by show _ < 4096; omega)
  · obtain ⟨rfl, -⟩ := hR
    simp (disch := omega) only [li, lo, c_le, c_lt, c_eq, c_cl, c_sub, nI_add, pk_mul, zin_nI, zg_true, ob_some, zm_none, zm_some, if_pos, if_neg, if_true, if_false, Bool.false_eq_true, d_t, d_f, ob_eta, ob_eta1, m_ltn, m_nlt, m_nle, m_len, m_ne, m_ne', m_mlt, m_mle, m_meq, m_neg, M_X5_haveDown_B6]
  · obtain ⟨rfl, hi2⟩ := hR
    have hg := l_gotBy h k (show i < 6 by omega) hi2 f
    by_cases e : dv d p (8 * i + x) + dGot d p f (i - dou d p) < le
    · have e2 : sOk d p x le f i = false := by unfold sOk; rw [decide_eq_true e]; rfl
      exact ⟨nI c, ⟨by simp only [e2, if_false, Bool.false_eq_true], by omega⟩, by simp (disch := omega) only [li, lo, c_le, c_lt, c_eq, c_cl, c_sub, nI_add, pk_mul, zin_nI, zg_true, ob_some, zm_none, zm_some, if_pos, if_neg, if_true, if_false, Bool.false_eq_true, d_t, d_f, ob_eta, ob_eta1, m_ltn, m_nlt, m_nle, m_len, m_ne, m_ne', m_mlt, m_mle, m_meq, m_neg, M_X5_haveDown_B6, l_strengthOf h (show i < 6 by omega) hx, hg, e]⟩
    · have e2 : sOk d p x le f i = true := by unfold sOk; rw [decide_eq_false e]; rfl
      exact ⟨nI (c + 1), ⟨by simp only [e2, if_true], by omega⟩, by simp (disch := omega) only [li, lo, c_le, c_lt, c_eq, c_cl, c_sub, nI_add, pk_mul, zin_nI, zg_true, ob_some, zm_none, zm_some, if_pos, if_neg, if_true, if_false, Bool.false_eq_true, d_t, d_f, ob_eta, ob_eta1, m_ltn, m_nlt, m_nle, m_len, m_ne, m_ne', m_mlt, m_mle, m_meq, m_neg, M_X5_haveDown_B6, l_strengthOf h (show i < 6 by omega) hx, hg, e]⟩
def sBad (ok : Nat → Bool) (k j c : Nat) : Bool := if k < c then (decide (j = 1) && ok c) else !ok c
def sEnP (d : zD) (p x k j : Nat) (le : Int32) (f : Nat) : Bool := sNo (sBad (sOk d p x le (nI f)) k j) (dou d p) (6 - dou d p)
theorem sEnP_iff {k j f : Nat} {le : Int32} (ho : dou d p ≤ k) (hk : k < 6) : sEnP d p x k j le f = true ↔ (sCnt (sOk d p x le (nI f)) (dou d p) (k + 1 - dou d p) = k + 1 - dou d p ∧ (j = 1 → sCnt (sOk d p x le (nI f)) (k + 1) (5 + 1 - (k + 1)) = 0)) := by
  unfold sEnP
  rw [sNo_iff, sCnt_full, sCnt_zero]
  constructor
  · intro q
    refine ⟨fun c h1 h2 => ?_, fun ej c h1 h2 => ?_⟩
    · have := q c h1 (by omega)
      unfold sBad at this
      rw [if_neg (by omega)] at this
      simpa using this
    · have := q c (by omega) (by omega)
      unfold sBad at this
      rw [if_pos (by omega), decide_eq_true ej] at this
      simpa using this
  · intro ⟨q1, q2⟩ c h1 h2
    unfold sBad
    by_cases e : k < c
    · rw [if_pos e]
      by_cases ej : j = 1
      · rw [q2 ej c (by omega) (by omega)]; simp
      · rw [decide_eq_false ej]; rfl
    · rw [if_neg e, q1 c h1 (by omega)]; rfl
theorem m99_lt {y le : Int32} {l : Nat} (hl : l ≤ 99) (e : le = nI l) : (m99 y < le) = (y < le) := by
  unfold m99
  by_cases h : y < 99
  · rw [if_pos h]
  · rw [if_neg h]
    have h1 : ¬ (99 : Int32) < le := by
      rw [e]
      show ¬ nI 99 < nI l
      rw [c_lt (by decide) (by omega)]; omega
    exact propext ⟨fun q => absurd q h1, fun q => absurd (Int32.lt_of_le_of_lt (Int32.not_lt.mp h) q) h1⟩
theorem l_leastForce (h : Inv pk S d) (hp : p < dn d) (hx : x < 8) {k j : Nat} (ho : dou d p ≤ k) (hk : k < 6) (hj : j < 2) : M_X11_leastForce pk S (6 * 0 + p) (nI x) (nI k) (nI j) = some (sFst (sEnP d p x k j (dle d)) (-nI 1) 1 99) := by
  have hl := h.l.pe hp
  have kp := h.k.pe hp
  have go : ∀ m n i, i + m = 100 → m < n → M_X11_leastForce_B3 pk S (6 * 0 + p) n (nI x) (nI k) (nI j) (nI i) = some (sFst (sEnP d p x k j (dle d)) (-nI 1) i m) := by
    intro m
    induction m with
    | zero =>
      intro n i h1 h2
      obtain ⟨n, rfl⟩ : ∃ r, n = r + 1 := ⟨n - 1, by omega⟩
      obtain rfl : i = 100 := by omega
      unfold sFst
      simp (disch := omega) only [li, lo, c_le, c_lt, c_eq, c_cl, c_sub, nI_add, pk_mul, zin_nI, zg_true, ob_some, zm_none, zm_some, if_pos, if_neg, if_true, if_false, Bool.false_eq_true, d_t, d_f, ob_eta, ob_eta1, m_ltn, m_nlt, m_nle, m_len, m_ne, m_ne', m_mlt, m_mle, m_meq, m_neg, M_X11_leastForce_B3]
    | succ m ih =>
      intro n i h1 h2
      obtain ⟨n, rfl⟩ : ∃ r, n = r + 1 := ⟨n - 1, by omega⟩
      have ih := ih n (i + 1) (by omega) (by omega)
      have w1 := l_haveDown hl kp hx (a := dou d p) (b := k) (Nat.le_refl _) (by omega) hk (nI i) (dle d)
      have w2 := l_haveDown hl kp hx (a := k + 1) (b := 5) (by omega) (by omega) (by decide) (nI i) (dle d)
      have l1 := sCnt_le (sOk d p x (dle d) (nI i)) (k + 1 - dou d p) (dou d p)
      have l2 := sCnt_le (sOk d p x (dle d) (nI i)) (5 + 1 - (k + 1)) (k + 1)
      have iff := sEnP_iff (d := d) (p := p) (x := x) (j := j) (f := i) (le := dle d) ho hk
      have ek : nI k - nI (dou d p) + nI 1 = nI (k + 1 - dou d p) := by rw [pk_sub ho, nI_add]; congr 1; omega
      unfold sFst
      by_cases e1 : sCnt (sOk d p x (dle d) (nI i)) (dou d p) (k + 1 - dou d p) = k + 1 - dou d p
      · by_cases e2 : sCnt (sOk d p x (dle d) (nI i)) (k + 1) (5 + 1 - (k + 1)) = 0
        · rw [if_pos (iff.mpr ⟨e1, fun _ => e2⟩)]
          by_cases ej : j = 0
          · subst ej
            simp (disch := omega) only [li, lo, c_le, c_lt, c_eq, c_cl, c_sub, nI_add, pk_mul, zin_nI, zg_true, ob_some, zm_none, zm_some, if_pos, if_neg, if_true, if_false, Bool.false_eq_true, d_t, d_f, ob_eta, ob_eta1, m_ltn, m_nlt, m_nle, m_len, m_ne, m_ne', m_mlt, m_mle, m_meq, m_neg, M_X11_leastForce_B3, hl.ou, h.le1, w1, w2, M_X11_leastForce_B45, M_X11_leastForce_B73, e1, e2, show k - dou d p + 1 = k + 1 - dou d p by omega]
          · simp (disch := omega) only [li, lo, c_le, c_lt, c_eq, c_cl, c_sub, nI_add, pk_mul, zin_nI, zg_true, ob_some, zm_none, zm_some, if_pos, if_neg, if_true, if_false, Bool.false_eq_true, d_t, d_f, ob_eta, ob_eta1, m_ltn, m_nlt, m_nle, m_len, m_ne, m_ne', m_mlt, m_mle, m_meq, m_neg, M_X11_leastForce_B3, hl.ou, h.le1, w1, w2, M_X11_leastForce_B45, M_X11_leastForce_B73, e1, e2, show k - dou d p + 1 = k + 1 - dou d p by omega]
        · by_cases ej : j = 0
          · rw [if_pos (iff.mpr ⟨e1, fun z => by omega⟩)]
            subst ej
            simp (disch := omega) only [li, lo, c_le, c_lt, c_eq, c_cl, c_sub, nI_add, pk_mul, zin_nI, zg_true, ob_some, zm_none, zm_some, if_pos, if_neg, if_true, if_false, Bool.false_eq_true, d_t, d_f, ob_eta, ob_eta1, m_ltn, m_nlt, m_nle, m_len, m_ne, m_ne', m_mlt, m_mle, m_meq, m_neg, M_X11_leastForce_B3, hl.ou, h.le1, w1, w2, M_X11_leastForce_B45, M_X11_leastForce_B73, e1, show k - dou d p + 1 = k + 1 - dou d p by omega]
          · rw [if_neg (fun z => e2 ((iff.mp z).2 (by omega)))]
            simp (disch := omega) only [li, lo, c_le, c_lt, c_eq, c_cl, c_sub, nI_add, pk_mul, zin_nI, zg_true, ob_some, zm_none, zm_some, if_pos, if_neg, if_true, if_false, Bool.false_eq_true, d_t, d_f, ob_eta, ob_eta1, m_ltn, m_nlt, m_nle, m_len, m_ne, m_ne', m_mlt, m_mle, m_meq, m_neg, M_X11_leastForce_B3, hl.ou, h.le1, w1, w2, M_X11_leastForce_B45, M_X11_leastForce_B73, e1, show k - dou d p + 1 = k + 1 - dou d p by omega]
            exact ih
      · rw [if_neg (fun z => e1 (iff.mp z).1)]
        by_cases e2 : sCnt (sOk d p x (dle d) (nI i)) (k + 1) (5 + 1 - (k + 1)) = 0
        · simp (disch := omega) only [li, lo, c_le, c_lt, c_eq, c_cl, c_sub, nI_add, pk_mul, zin_nI, zg_true, ob_some, zm_none, zm_some, if_pos, if_neg, if_true, if_false, Bool.false_eq_true, d_t, d_f, ob_eta, ob_eta1, m_ltn, m_nlt, m_nle, m_len, m_ne, m_ne', m_mlt, m_mle, m_meq, m_neg, M_X11_leastForce_B3, hl.ou, h.le1, w1, w2, M_X11_leastForce_B45, M_X11_leastForce_B73, e2, show k - dou d p + 1 = k + 1 - dou d p by omega]
          exact ih
        · simp (disch := omega) only [li, lo, c_le, c_lt, c_eq, c_cl, c_sub, nI_add, pk_mul, zin_nI, zg_true, ob_some, zm_none, zm_some, if_pos, if_neg, if_true, if_false, Bool.false_eq_true, d_t, d_f, ob_eta, ob_eta1, m_ltn, m_nlt, m_nle, m_len, m_ne, m_ne', m_mlt, m_mle, m_meq, m_neg, M_X11_leastForce_B3, hl.ou, h.le1, w1, w2, M_X11_leastForce_B45, M_X11_leastForce_B73, show k - dou d p + 1 = k + 1 - dou d p by omega]
          exact ih
  unfold M_X11_leastForce
  exact go 99 zF 1 rfl (by decide)
theorem r_isEnough (h : RR T d) (K : KK d) (hp : p < dn d) (hx : x < 8) {k j f : Nat} (ho : dou d p ≤ k) (hk : k < 6) (hj : j < 2) : ∃ T', M_X12_isEnough T (nI p) (nI x) (nI k) (nI j) (nI f) = some (if sEnP d p x k j (dle d) f = true then nI 1 else nI 0, T') ∧ zFr (fun k => k = 16) T T' := by
  have kp := K.pe hp
  have hn := K.1
  obtain ⟨l, l1, l2, el⟩ := K.2.1
  have h6 : p < 6 := by omega
  obtain ⟨T', e1, f1, g1⟩ := r_gives (h.pe hp) kp h6 (nI f)
  have hR : RR T' d := h.fr f1 (by rw [f1.sc (by decide)]) (by rw [f1.sc (by decide)]) (by rw [f1.sc (by decide)]) (fun k a b => by omega)
  have hr := hR.pe hp
  refine ⟨T', ?_, f1⟩
  have go : ∀ m n i, dou d p ≤ i → i + m = 6 → m < n → M_X12_isEnough_B15 n T' (nI p) (nI x) (nI k) (nI j) (nI i) = some (if sNo (sBad (sOk d p x (dle d) (nI f)) k j) i m = true then nI 1 else nI 0, T') := by
    intro m
    induction m with
    | zero =>
      intro n i _ h1 h2
      obtain ⟨n, rfl⟩ : ∃ r, n = r + 1 := ⟨n - 1, by omega⟩
      obtain rfl : i = 6 := by omega
      unfold sNo
      simp (disch := omega) only [li, lo, c_le, c_lt, c_eq, c_cl, c_sub, nI_add, pk_mul, zin_nI, zg_true, ob_some, zm_none, zm_some, if_pos, if_neg, if_true, if_false, Bool.false_eq_true, d_t, d_f, ob_eta, ob_eta1, m_ltn, m_nlt, m_nle, m_len, m_ne, m_ne', m_mlt, m_mle, m_meq, m_neg, M_X12_isEnough_B15]
    | succ m ih =>
      intro n i h0 h1 h2
      obtain ⟨n, rfl⟩ : ∃ r, n = r + 1 := ⟨n - 1, by omega⟩
      have ih := ih n (i + 1) (by omega) (by omega) (by omega)
      have g2 := g1 i (by omega)
      rw [if_neg (by omega)] at g2
      have le2 : zsc T' 0 11 = dle d := hR.2.1
      have ml := m99_lt (y := dv d p (8 * i + x) + dGot d p (nI f) (i - dou d p)) l2 el
      unfold sNo
      by_cases e : dv d p (8 * i + x) + dGot d p (nI f) (i - dou d p) < dle d
      · have ok : sOk d p x (dle d) (nI f) i = false := by unfold sOk; rw [decide_eq_true e]; rfl
        by_cases e3 : k < i
        · have eb : sBad (sOk d p x (dle d) (nI f)) k j i = false := by unfold sBad; rw [if_pos e3, ok, Bool.and_false]
          by_cases ej : j = 0
          · subst ej
            simp (disch := omega) only [li, lo, c_le, c_lt, c_eq, c_cl, c_sub, nI_add, pk_mul, zin_nI, zg_true, ob_some, zm_none, zm_some, if_pos, if_neg, if_true, if_false, Bool.false_eq_true, d_t, d_f, ob_eta, ob_eta1, m_ltn, m_nlt, m_nle, m_len, m_ne, m_ne', m_mlt, m_mle, m_meq, m_neg, M_X12_isEnough_B15, r_strengthOf hr h6 (show i < 6 by omega) hx, g2, le2, m99_f, ml, e, eb, M_X12_isEnough_B55, ih]
          · simp (disch := omega) only [li, lo, c_le, c_lt, c_eq, c_cl, c_sub, nI_add, pk_mul, zin_nI, zg_true, ob_some, zm_none, zm_some, if_pos, if_neg, if_true, if_false, Bool.false_eq_true, d_t, d_f, ob_eta, ob_eta1, m_ltn, m_nlt, m_nle, m_len, m_ne, m_ne', m_mlt, m_mle, m_meq, m_neg, M_X12_isEnough_B15, r_strengthOf hr h6 (show i < 6 by omega) hx, g2, le2, m99_f, ml, e, eb, M_X12_isEnough_B55, ih]
        · have eb : sBad (sOk d p x (dle d) (nI f)) k j i = true := by unfold sBad; rw [if_neg e3, ok]; rfl
          simp (disch := omega) only [li, lo, c_le, c_lt, c_eq, c_cl, c_sub, nI_add, pk_mul, zin_nI, zg_true, ob_some, zm_none, zm_some, if_pos, if_neg, if_true, if_false, Bool.false_eq_true, d_t, d_f, ob_eta, ob_eta1, m_ltn, m_nlt, m_nle, m_len, m_ne, m_ne', m_mlt, m_mle, m_meq, m_neg, M_X12_isEnough_B15, r_strengthOf hr h6 (show i < 6 by omega) hx, g2, le2, m99_f, ml, e, eb, M_X12_isEnough_B55, ih]
      · have ok : sOk d p x (dle d) (nI f) i = true := by unfold sOk; rw [decide_eq_false e]; rfl
        by_cases e3 : k < i
        · by_cases ej : j = 0
          · have eb : sBad (sOk d p x (dle d) (nI f)) k j i = false := by unfold sBad; rw [if_pos e3, decide_eq_false (by omega)]; rfl
            subst ej
            simp (disch := omega) only [li, lo, c_le, c_lt, c_eq, c_cl, c_sub, nI_add, pk_mul, zin_nI, zg_true, ob_some, zm_none, zm_some, if_pos, if_neg, if_true, if_false, Bool.false_eq_true, d_t, d_f, ob_eta, ob_eta1, m_ltn, m_nlt, m_nle, m_len, m_ne, m_ne', m_mlt, m_mle, m_meq, m_neg, M_X12_isEnough_B15, r_strengthOf hr h6 (show i < 6 by omega) hx, g2, le2, m99_f, ml, e, eb, M_X12_isEnough_B55, ih]
          · have eb : sBad (sOk d p x (dle d) (nI f)) k j i = true := by unfold sBad; rw [if_pos e3, ok, decide_eq_true (by omega)]; rfl
            simp (disch := omega) only [li, lo, c_le, c_lt, c_eq, c_cl, c_sub, nI_add, pk_mul, zin_nI, zg_true, ob_some, zm_none, zm_some, if_pos, if_neg, if_true, if_false, Bool.false_eq_true, d_t, d_f, ob_eta, ob_eta1, m_ltn, m_nlt, m_nle, m_len, m_ne, m_ne', m_mlt, m_mle, m_meq, m_neg, M_X12_isEnough_B15, r_strengthOf hr h6 (show i < 6 by omega) hx, g2, le2, m99_f, ml, e, eb, M_X12_isEnough_B55, ih]
        · have eb : sBad (sOk d p x (dle d) (nI f)) k j i = false := by unfold sBad; rw [if_neg e3, ok]; rfl
          simp (disch := omega) only [li, lo, c_le, c_lt, c_eq, c_cl, c_sub, nI_add, pk_mul, zin_nI, zg_true, ob_some, zm_none, zm_some, if_pos, if_neg, if_true, if_false, Bool.false_eq_true, d_t, d_f, ob_eta, ob_eta1, m_ltn, m_nlt, m_nle, m_len, m_ne, m_ne', m_mlt, m_mle, m_meq, m_neg, M_X12_isEnough_B15, r_strengthOf hr h6 (show i < 6 by omega) hx, g2, le2, m99_f, ml, e, eb, M_X12_isEnough_B55, ih]
  unfold M_X12_isEnough
  rw [e1]
  simp (disch := omega) only [li, lo, c_le, c_lt, c_eq, c_cl, c_sub, nI_add, pk_mul, zin_nI, zg_true, ob_some, zm_none, zm_some, if_pos, if_neg, if_true, if_false, Bool.false_eq_true, d_t, d_f, ob_eta, ob_eta1, m_ltn, m_nlt, m_nle, m_len, m_ne, m_ne', m_mlt, m_mle, m_meq, m_neg, hr.ou]
  unfold sEnP
  exact go (6 - dou d p) zF (dou d p) (Nat.le_refl _) (by omega) (by show _ < 4096; omega)
theorem r_force (K : KK d) (hp : p < dn d) (hx : x < 8) {k j : Nat} (ho : dou d p ≤ k) (hk : k < 6) (hj : j < 2) : ∀ m n i T, RR T d → i + m = 100 → m < n → ∃ T', M_X12_force_B57 n T (nI p) (nI x) (nI k) (nI j) (nI i) = some (sFst (sEnP d p x k j (dle d)) (-nI 1) i m, T') ∧ zFr (fun k => k = 16) T T' := by
  intro m
  induction m with
  | zero =>
    intro n i T h h1 h2
    obtain ⟨n, rfl⟩ : ∃ r, n = r + 1 := ⟨n - 1, by omega⟩
    obtain rfl : i = 100 := by omega
    refine ⟨T, ?_, zFr.rf⟩
    unfold sFst
    simp (disch := omega) only [li, lo, c_le, c_lt, c_eq, c_cl, c_sub, nI_add, pk_mul, zin_nI, zg_true, ob_some, zm_none, zm_some, if_pos, if_neg, if_true, if_false, Bool.false_eq_true, d_t, d_f, ob_eta, ob_eta1, m_ltn, m_nlt, m_nle, m_len, m_ne, m_ne', m_mlt, m_mle, m_meq, m_neg, M_X12_force_B57]
  | succ m ih =>
    intro n i T h h1 h2
    obtain ⟨n, rfl⟩ : ∃ r, n = r + 1 := ⟨n - 1, by omega⟩
    obtain ⟨T1, e1, f1⟩ := r_isEnough h K hp hx (f := i) ho hk hj
    have hR : RR T1 d := h.fr f1 (by rw [f1.sc (by decide)]) (by rw [f1.sc (by decide)]) (by rw [f1.sc (by decide)]) (fun k a b => by omega)
    obtain ⟨T2, e2, f2⟩ := ih n (i + 1) T1 hR (by omega) (by omega)
    unfold sFst
    by_cases e : sEnP d p x k j (dle d) i = true
    · refine ⟨T1, ?_, f1⟩
      rw [if_pos e] at e1 ⊢
      by_cases ej : j = 1
      · subst ej
        simp (disch := omega) only [li, lo, c_le, c_lt, c_eq, c_cl, c_sub, nI_add, pk_mul, zin_nI, zg_true, ob_some, zm_none, zm_some, if_pos, if_neg, if_true, if_false, Bool.false_eq_true, d_t, d_f, ob_eta, ob_eta1, m_ltn, m_nlt, m_nle, m_len, m_ne, m_ne', m_mlt, m_mle, m_meq, m_neg, M_X12_force_B57, M_X12_force_B79, e1]
      · obtain rfl : j = 0 := by omega
        simp (disch := omega) only [li, lo, c_le, c_lt, c_eq, c_cl, c_sub, nI_add, pk_mul, zin_nI, zg_true, ob_some, zm_none, zm_some, if_pos, if_neg, if_true, if_false, Bool.false_eq_true, d_t, d_f, ob_eta, ob_eta1, m_ltn, m_nlt, m_nle, m_len, m_ne, m_ne', m_mlt, m_mle, m_meq, m_neg, M_X12_force_B57, M_X12_force_B79, e1]
    · refine ⟨T2, ?_, f1.trans f2⟩
      rw [if_neg e] at e1 ⊢
      by_cases ej : j = 1
      · subst ej
        simp (disch := omega) only [li, lo, c_le, c_lt, c_eq, c_cl, c_sub, nI_add, pk_mul, zin_nI, zg_true, ob_some, zm_none, zm_some, if_pos, if_neg, if_true, if_false, Bool.false_eq_true, d_t, d_f, ob_eta, ob_eta1, m_ltn, m_nlt, m_nle, m_len, m_ne, m_ne', m_mlt, m_mle, m_meq, m_neg, M_X12_force_B57, M_X12_force_B79, e1, e2]
      · obtain rfl : j = 0 := by omega
        simp (disch := omega) only [li, lo, c_le, c_lt, c_eq, c_cl, c_sub, nI_add, pk_mul, zin_nI, zg_true, ob_some, zm_none, zm_some, if_pos, if_neg, if_true, if_false, Bool.false_eq_true, d_t, d_f, ob_eta, ob_eta1, m_ltn, m_nlt, m_nle, m_len, m_ne, m_ne', m_mlt, m_mle, m_meq, m_neg, M_X12_force_B57, M_X12_force_B79, e1, e2]
theorem s_force (h : Inv pk S d) (x1 x2 x3 x4 : Int32) : zStp pk (M_X11_force pk S x1 x2 x3 x4) (fun T => M_X12_force T x1 x2 x3 x4) := by
  unfold M_X11_force M_X12_force M_X12_force_B47 M_X11_force_B43 M_X11_force_B59
  rcases cPer h x1 with ⟨a1, b1, -⟩ | ⟨p, hp, rfl, a1, b1, h6, ok⟩
  · exact st_no10 h 1 (by decide) (by decide) (by simp (disch := omega) only [li, lo, c_le, c_lt, c_eq, c_cl, c_sub, nI_add, pk_mul, zin_nI, zg_true, ob_some, zm_none, zm_some, if_pos, if_neg, if_true, if_false, Bool.false_eq_true, d_t, d_f, ob_eta, ob_eta1, m_ltn, m_nlt, m_nle, m_len, m_ne, m_ne', m_mlt, m_mle, m_meq, m_neg, a1]) (by simp (disch := omega) only [li, lo, c_le, c_lt, c_eq, c_cl, c_sub, nI_add, pk_mul, zin_nI, zg_true, ob_some, zm_none, zm_some, if_pos, if_neg, if_true, if_false, Bool.false_eq_true, d_t, d_f, ob_eta, ob_eta1, m_ltn, m_nlt, m_nle, m_len, m_ne, m_ne', m_mlt, m_mle, m_meq, m_neg, b1 (zR1 S 1) rfl])
  · have hl := h.l.pe hp
    have hr := h.r.pe hp
    have kp := h.k.pe hp
    have ho := kp.o
    have hr6 : zar (zR1 S 6) 7 p = nI (dou d p) := by rw [r1_a (by decide)]; exact hr.ou
    rcases cN x4 2 with n | ⟨j, hj, rfl⟩
    · have n0 := n 0 (by decide)
      have n1 := n 1 (by decide)
      have w := w_2N (b := 1) (by decide) n
      exact st_no10 h 5 (by decide) (by decide) (by simp (disch := omega) only [li, lo, c_le, c_lt, c_eq, c_cl, c_sub, nI_add, pk_mul, zin_nI, zg_true, ob_some, zm_none, zm_some, if_pos, if_neg, if_true, if_false, Bool.false_eq_true, d_t, d_f, ob_eta, ob_eta1, m_ltn, m_nlt, m_nle, m_len, m_ne, m_ne', m_mlt, m_mle, m_meq, m_neg, a1, ok, n0, n1]) (by simp (disch := omega) only [li, lo, c_le, c_lt, c_eq, c_cl, c_sub, nI_add, pk_mul, zin_nI, zg_true, ob_some, zm_none, zm_some, if_pos, if_neg, if_true, if_false, Bool.false_eq_true, d_t, d_f, ob_eta, ob_eta1, m_ltn, m_nlt, m_nle, m_len, m_ne, m_ne', m_mlt, m_mle, m_meq, m_neg, b1 (zR1 S 5) rfl, w])
    · have w := fun T => w_n (a := 0) (b := 1) T (Nat.zero_le j) (by omega) (by decide)
      have ej : j = 0 ∨ j = 1 := by omega
      rcases cDeed x2 with ⟨a2, b2, -⟩ | ⟨x, hx, rfl⟩
      · refine st_no10 h 6 (by decide) (by decide) ?_ (by simp (disch := omega) only [li, lo, c_le, c_lt, c_eq, c_cl, c_sub, nI_add, pk_mul, zin_nI, zg_true, ob_some, zm_none, zm_some, if_pos, if_neg, if_true, if_false, Bool.false_eq_true, d_t, d_f, ob_eta, ob_eta1, m_ltn, m_nlt, m_nle, m_len, m_ne, m_ne', m_mlt, m_mle, m_meq, m_neg, b1 (zR1 S 6) rfl, w, b2])
        rcases ej with rfl | rfl <;> simp (disch := omega) only [li, lo, c_le, c_lt, c_eq, c_cl, c_sub, nI_add, pk_mul, zin_nI, zg_true, ob_some, zm_none, zm_some, if_pos, if_neg, if_true, if_false, Bool.false_eq_true, d_t, d_f, ob_eta, ob_eta1, m_ltn, m_nlt, m_nle, m_len, m_ne, m_ne', m_mlt, m_mle, m_meq, m_neg, a1, ok, a2]
      · rcases cCopy x3 with ⟨a3, b3, -⟩ | ⟨k, hk, rfl⟩
        · refine st_no10 h 6 (by decide) (by decide) ?_ (by simp (disch := omega) only [li, lo, c_le, c_lt, c_eq, c_cl, c_sub, nI_add, pk_mul, zin_nI, zg_true, ob_some, zm_none, zm_some, if_pos, if_neg, if_true, if_false, Bool.false_eq_true, d_t, d_f, ob_eta, ob_eta1, m_ltn, m_nlt, m_nle, m_len, m_ne, m_ne', m_mlt, m_mle, m_meq, m_neg, b1 (zR1 S 6) rfl, w, r_isDeedY hx, r_livesN (b3 (zR1 S 6))])
          rcases ej with rfl | rfl <;> simp (disch := omega) only [li, lo, c_le, c_lt, c_eq, c_cl, c_sub, nI_add, pk_mul, zin_nI, zg_true, ob_some, zm_none, zm_some, if_pos, if_neg, if_true, if_false, Bool.false_eq_true, d_t, d_f, ob_eta, ob_eta1, m_ltn, m_nlt, m_nle, m_len, m_ne, m_ne', m_mlt, m_mle, m_meq, m_neg, a1, ok, t_isDeed pk S hx, l_isLeftN hl ho (a3 pk S)]
        · by_cases e : k < dou d p
          · refine st_no10 h 6 (by decide) (by decide) ?_ (by simp (disch := omega) only [li, lo, c_le, c_lt, c_eq, c_cl, c_sub, nI_add, pk_mul, zin_nI, zg_true, ob_some, zm_none, zm_some, if_pos, if_neg, if_true, if_false, Bool.false_eq_true, d_t, d_f, ob_eta, ob_eta1, m_ltn, m_nlt, m_nle, m_len, m_ne, m_ne', m_mlt, m_mle, m_meq, m_neg, b1 (zR1 S 6) rfl, w, r_isDeedY hx, r_lives hr6 h6 ho hk])
            rcases ej with rfl | rfl <;> simp (disch := omega) only [li, lo, c_le, c_lt, c_eq, c_cl, c_sub, nI_add, pk_mul, zin_nI, zg_true, ob_some, zm_none, zm_some, if_pos, if_neg, if_true, if_false, Bool.false_eq_true, d_t, d_f, ob_eta, ob_eta1, m_ltn, m_nlt, m_nle, m_len, m_ne, m_ne', m_mlt, m_mle, m_meq, m_neg, a1, ok, t_isDeed pk S hx, l_isLeft hl ho hk]
          · have l1 := l_leastForce h hp hx (k := k) (j := j) (by omega) hk hj
            obtain ⟨T', e2, f2⟩ := r_force h.k hp hx (k := k) (j := j) (by omega) hk hj 99 zF 1 S h.r rfl (by decide)
            refine ⟨sFst (sEnP d p x k j (dle d)) (-nI 1) 1 99, S, T', ?_, ?_, d, h.mv0 f2 (fun k q => by unfold zIr; omega)⟩
            · rcases ej with rfl | rfl <;> simp (disch := omega) only [li, lo, c_le, c_lt, c_eq, c_cl, c_sub, nI_add, pk_mul, zin_nI, zg_true, ob_some, zm_none, zm_some, if_pos, if_neg, if_true, if_false, Bool.false_eq_true, d_t, d_f, ob_eta, ob_eta1, m_ltn, m_nlt, m_nle, m_len, m_ne, m_ne', m_mlt, m_mle, m_meq, m_neg, a1, ok, t_isDeed pk S hx, l_isLeft hl ho hk, M_X11_force_B84, l1]
            · simp (disch := omega) only [li, lo, c_le, c_lt, c_eq, c_cl, c_sub, nI_add, pk_mul, zin_nI, zg_true, ob_some, zm_none, zm_some, if_pos, if_neg, if_true, if_false, Bool.false_eq_true, d_t, d_f, ob_eta, ob_eta1, m_ltn, m_nlt, m_nle, m_len, m_ne, m_ne', m_mlt, m_mle, m_meq, m_neg, b1 S rfl, w, r_isDeedY hx, r_lives hr.ou h6 ho hk, e2]
end FOR
