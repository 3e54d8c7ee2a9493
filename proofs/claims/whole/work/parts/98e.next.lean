def hb (d : zD) (x y : Nat) : Bool := !decide (dv d (y / 10) (8 * (y % 10) + x) < dle d)
def wst (d : zD) (L : List Nat) (x : Nat) : Nat := if L.countP (hb d x) < L.length - L.countP (hb d x) then L.length - L.countP (hb d x) else L.countP (hb d x)
theorem wst_le (d : zD) (L : List Nat) (x : Nat) : wst d L x ≤ L.length := by
  have := List.countP_le_length (p := hb d x) (l := L)
  unfold wst
  split <;> omega
theorem bit_n : ∀ x, x < 8 → ∀ k, k < 256 → (nI k >>> (nI x &&& nI 31)) &&& nI 1 = nI (k / 2 ^ x % 2) := by decide +kernel
def bS (d : zD) (L : List Nat) (a : Int32 × Nat) (x : Nat) : Int32 × Nat := if a.2 ≤ wst d L x then a else (nI x, wst d L x)
section NEX
variable {P : Nat → Prop} {pk : Nat → Nat} {S S' T : zSt} {q s p n m c e x : Nat} {d : zD} {u : Nat → Int32}
/-- what stands in the list are copies -/
theorem sFL_mem (d : zD) (u : Nat → Int32) (n e : Nat) : ∀ y ∈ sFL d u n e, y / 10 < dn d ∧ y % 10 < 6 := by
  unfold sFL
  exact sFo_invB _ (fun L => ∀ y ∈ L, y / 10 < dn d ∧ y % 10 < 6) (dn d) (fun L p hp hL => sFo_invB _ (fun L => ∀ y ∈ L, y / 10 < dn d ∧ y % 10 < 6) 6 (fun L c hc hL => by
    unfold sFI
    split
    · intro y hy
      rcases List.mem_append.mp hy with h | h
      · exact hL y h
      · rw [List.mem_singleton] at h
        subst h
        omega
    · exact hL) _ _ _ (by omega) hL) _ _ _ (by omega) (fun y hy => absurd hy List.not_mem_nil)
theorem l_told (h : Inv pk S d) {y : Nat} (h1 : y / 10 < dn d) (h2 : y % 10 < 6) : M_X11_hasOfTold pk S (nI y) = some (sHas d (y / 10) (dle d) (y % 10)) := by
  have hn6 := h.k.1
  have pa := l_perY h.l hn6 h1
  have ok := (h.l.pe h1).ok (show 6 * 0 + y / 10 < 18 by omega)
  have q1 : y - y / 10 * 10 = y % 10 := by omega
  have hbt := l_hasBits (h.l.pe h1) h2 (zsc S 60 4)
  have le1 := h.le1
  unfold M_X11_hasOfTold
  rw [le1] at hbt
  simp (disch := omega) only [reduceIte, li, lo, k_leT, k_leF, k_ltT, k_ltF, k_eqT, k_eqF, c_cl, c_sub, nI_add, pk_mul, zin_nI, zg_true, ob_some, zm_none, zm_some, if_true, if_false, Bool.false_eq_true, d_t, d_f, ob_eta, ob_eta1, m_ltn, m_nlt, m_nle, m_len, m_ne, m_ne', k_mltT, k_mltF, k_mleT, k_mleF, k_meqT, k_meqF, m_neg, k_div, pa, ok, q1, t_isCopy pk S h2, le1, hbt]
theorem countP_take (b : Nat → Bool) (L : List Nat) {j : Nat} (hj : j < L.length) : (L.take (j + 1)).countP b = (L.take j).countP b + (if b (L.getD j 0) = true then 1 else 0) := by
  rw [List.take_add_one, List.countP_append, List.getD_eq_getElem?_getD, List.getElem?_eq_getElem hj]
  refine congrArg (HAdd.hAdd _) ?_
  show List.countP b [L[j]] = _
  rw [List.countP_singleton]
  rfl
theorem l_best (h : Inv pk S d) {L : List Nat} (hr : rw23 S L) (hL : ∀ y ∈ L, y / 10 < dn d ∧ y % 10 < 6) (hl : L.length ≤ 36) (hn : n ≤ 8) : M_X11_bestToAsk pk S (nI n) (nI L.length) = some (sFo (bS d L) n (8 - n) (-nI 1, L.length + 1)).1 := by
  unfold M_X11_bestToAsk
  rw [show nI L.length + 1 = nI (L.length + 1) from nI_1 _]
  refine lpR (fun n' (a : Int32 × Int32) z => M_X11_bestToAsk_B10 pk S n' (nI L.length) a.1 a.2 z) (bS d L) (fun z a c => a = (c.1, nI c.2) ∧ c.2 ≤ 37) (fun c o => o = some c.1) 8 (fun n' a c hR => ?_) (fun n' a c z hz hR => ?_) (8 - n) n zF (-nI 1, nI (L.length + 1)) (-nI 1, L.length + 1) ⟨rfl, by show L.length + 1 ≤ 37; omega⟩ (by omega) (by show _ < 4096; omega)
  · obtain ⟨rfl, -⟩ := hR
    simp (disch := omega) only [reduceIte, li, lo, k_leT, k_leF, k_ltT, k_ltF, k_eqT, k_eqF, c_cl, c_sub, nI_add, pk_mul, zin_nI, zg_true, ob_some, zm_none, zm_some, if_true, if_false, Bool.false_eq_true, d_t, d_f, ob_eta, ob_eta1, m_ltn, m_nlt, m_nle, m_len, m_ne, m_ne', k_mltT, k_mltF, k_mleT, k_mleF, k_meqT, k_meqF, m_neg, M_X11_bestToAsk_B10]
  · obtain ⟨rfl, c37⟩ := hR
    have wl := wst_le d L z
    have cl := List.countP_le_length (p := hb d z) (l := L)
    have inner : ∀ K' : Int32 → Int32 → Int32 → Int32 → Option Int32, M_X11_bestToAsk_B23 pk S K' zF (nI L.length) c.1 (nI c.2) (nI z) (nI 0) (nI 0) = if c.2 ≤ wst d L z then K' (nI L.length) c.1 (nI c.2) (nI (z + 1)) else K' (nI L.length) (nI z) (nI (wst d L z)) (nI (z + 1)) := by
      intro K'
      refine lpR (fun n' (b : Int32) y => M_X11_bestToAsk_B23 pk S K' n' (nI L.length) c.1 (nI c.2) (nI z) b y) (fun (j : Nat) _ => j + 1) (fun y b j => j = y ∧ b = nI ((L.take y).countP (hb d z))) (fun _ o => o = if c.2 ≤ wst d L z then K' (nI L.length) c.1 (nI c.2) (nI (z + 1)) else K' (nI L.length) (nI z) (nI (wst d L z)) (nI (z + 1))) L.length (fun n' b j hR => ?_) (fun n' b j y hy hR => ?_) L.length 0 zF (nI 0) 0 ⟨rfl, rfl⟩ (by omega) (by show _ < 4096; omega)
      · obtain ⟨-, rfl⟩ := hR
        rw [List.take_length]
        rw [M_X11_bestToAsk_B23]
        unfold M_X11_bestToAsk_B70
        have mx : (if nI (L.countP (hb d z)) < nI (L.length - L.countP (hb d z)) then nI (L.length - L.countP (hb d z)) else nI (L.countP (hb d z))) = nI (wst d L z) := by
          unfold wst
          by_cases c : L.countP (hb d z) < L.length - L.countP (hb d z)
          · rw [if_pos c, if_pos (nI_lt c (by omega))]
          · rw [if_neg c, if_neg (nI_nlt (by omega) (by omega))]
        by_cases c1 : c.2 ≤ wst d L z
        · rw [if_pos c1]
          simp (disch := omega) only [reduceIte, li, k_leT, c_sub, mx, ob_some, nI_add]
        · rw [if_neg c1]
          simp (disch := omega) only [reduceIte, li, k_leT, c_sub, mx, ob_some, k_leF, nI_add]
      · obtain ⟨hj, rfl⟩ := hR
        have ry := hr y hy
        have hm := hL (L.getD y 0) (by
          rw [List.getD_eq_getElem?_getD, List.getElem?_eq_getElem hy]
          exact List.getElem_mem hy)
        have lt := l_told h hm.1 hm.2
        obtain ⟨k, hk, e1, e2⟩ := sHas_n d (L.getD y 0 / 10) (dle d) (L.getD y 0 % 10)
        have bn := bit_n z hz k hk
        have bz := e2 z hz
        have ct := countP_take (hb d z) L hy
        have hbz : (if hb d z (L.getD y 0) = true then 1 else 0) = k / 2 ^ z % 2 := by
          rw [bz]
          unfold hb
          by_cases c : dv d (L.getD y 0 / 10) (8 * (L.getD y 0 % 10) + z) < dle d
          · rw [if_pos c, decide_eq_true c]; rfl
          · rw [if_neg c, decide_eq_false c]; rfl
        rw [hbz] at ct
        refine ⟨nI ((L.take (y + 1)).countP (hb d z)), ⟨by omega, rfl⟩, ?_⟩
        rw [M_X11_bestToAsk_B23, ct]
        rw [e1] at lt
        simp (disch := omega) only [↓ob_some, ↓zm_some, ↓zm_none, ↓zg_true, ↓zg_in, ry, ↓(ob_of lt), bn, reduceIte, li, lo, k_leT, k_leF, k_ltT, k_ltF, k_eqT, k_eqF, c_cl, c_sub, nI_add, pk_mul, zin_nI, zg_true, ob_some, zm_none, zm_some, if_true, if_false, Bool.false_eq_true, d_t, d_f, ob_eta, ob_eta1, m_ltn, m_nlt, m_nle, m_len, m_ne, m_ne', k_mltT, k_mltF, k_mleT, k_mleF, k_meqT, k_meqF, m_neg]
    refine ⟨((bS d L c z).1, nI (bS d L c z).2), ⟨rfl, ?_⟩, ?_⟩
    · unfold bS
      split
      · exact c37
      · show wst d L z ≤ 37; omega
    · show M_X11_bestToAsk_B10 pk S (n' + 1) (nI L.length) c.1 (nI c.2) (nI z) = _
      rw [M_X11_bestToAsk_B10]
      have i2 := inner (fun x2_ x3_ x4_ x5_ => M_X11_bestToAsk_B10 pk S n' x2_ x3_ x4_ x5_)
      unfold bS
      by_cases c1 : c.2 ≤ wst d L z
      · rw [if_pos c1] at i2 ⊢
        simp (disch := omega) only [↓ob_some, ↓zm_some, ↓zm_none, ↓zg_true, ↓zg_in, reduceIte, li, lo, k_leT, k_leF, k_ltT, k_ltF, k_eqT, k_eqF, c_cl, c_sub, nI_add, pk_mul, zin_nI, zg_true, ob_some, zm_none, zm_some, if_true, if_false, Bool.false_eq_true, d_t, d_f, ob_eta, ob_eta1, m_ltn, m_nlt, m_nle, m_len, m_ne, m_ne', k_mltT, k_mltF, k_mleT, k_mleF, k_meqT, k_meqF, m_neg]
        exact i2
      · rw [if_neg c1] at i2 ⊢
        simp (disch := omega) only [↓ob_some, ↓zm_some, ↓zm_none, ↓zg_true, ↓zg_in, reduceIte, li, lo, k_leT, k_leF, k_ltT, k_ltF, k_eqT, k_eqF, c_cl, c_sub, nI_add, pk_mul, zin_nI, zg_true, ob_some, zm_none, zm_some, if_true, if_false, Bool.false_eq_true, d_t, d_f, ob_eta, ob_eta1, m_ltn, m_nlt, m_nle, m_len, m_ne, m_ne', k_mltT, k_mltF, k_mleT, k_mleF, k_meqT, k_meqF, m_neg]
        exact i2
theorem r_fitting (h : RR T d) (K : KK d) (he : e < 1000) (hn : n ≤ 8) (hs : s < 8) (hu : ∀ j, j < n → uv T s j = u j) : M_X12_fitting T (nI s) (nI n) (nI e) = some (nI (sFL d u n e).length) ∧ (sFL d u n e).length ≤ 36 := by
  have hn6 := K.1
  unfold M_X12_fitting
  refine lpR (fun n' (a : Int32) z => M_X12_fitting_B6 T n' (nI s) (nI n) (nI e) a z) (fun L p => sFo (sFI d u n e p) 0 6 L) (fun z a L => a = nI L.length ∧ L.length ≤ 6 * z) (fun L o => o = some (nI L.length) ∧ L.length ≤ 36) (dn d) (fun n' a L hR => ?_) (fun n' a L z hz hR => ?_) (dn d) 0 zF (nI 0) [] ⟨rfl, Nat.le_refl _⟩ (by omega) (by show _ < 4096; omega)
  · obtain ⟨rfl, l⟩ := hR
    exact ⟨by simp (disch := omega) only [reduceIte, li, lo, k_leT, k_leF, k_ltT, k_ltF, k_eqT, k_eqF, c_cl, c_sub, nI_add, pk_mul, zin_nI, zg_true, ob_some, zm_none, zm_some, if_true, if_false, Bool.false_eq_true, d_t, d_f, ob_eta, ob_eta1, m_ltn, m_nlt, m_nle, m_len, m_ne, m_ne', k_mltT, k_mltF, k_mleT, k_mleF, k_meqT, k_meqF, m_neg, M_X12_fitting_B6, h.1], by omega⟩
  · obtain ⟨rfl, l⟩ := hR
    have inner : ∀ K' : Int32 → Int32 → Int32 → Int32 → Int32 → Option Int32, M_X12_fitting_B18 T K' zF (nI s) (nI n) (nI e) (nI L.length) (nI z) (nI 0) = K' (nI s) (nI n) (nI e) (nI (sFo (sFI d u n e z) 0 6 L).length) (nI (z + 1)) ∧ (sFo (sFI d u n e z) 0 6 L).length ≤ 6 * z + 6 := by
      intro K'
      refine lpR (fun n' (b : Int32) y => M_X12_fitting_B18 T K' n' (nI s) (nI n) (nI e) b (nI z) y) (sFI d u n e z) (fun y b M => b = nI M.length ∧ M.length ≤ 6 * z + y) (fun M o => o = K' (nI s) (nI n) (nI e) (nI M.length) (nI (z + 1)) ∧ M.length ≤ 6 * z + 6) 6 (fun n' b M hR => ?_) (fun n' b M y hy hR => ?_) 6 0 zF (nI L.length) L ⟨rfl, l⟩ rfl (by decide)
      · obtain ⟨rfl, l1⟩ := hR
        exact ⟨by simp (disch := omega) only [reduceIte, li, lo, k_leT, k_leF, k_ltT, k_ltF, k_eqT, k_eqF, c_cl, c_sub, nI_add, pk_mul, zin_nI, zg_true, ob_some, zm_none, zm_some, if_true, if_false, Bool.false_eq_true, d_t, d_f, ob_eta, ob_eta1, m_ltn, m_nlt, m_nle, m_len, m_ne, m_ne', k_mltT, k_mltF, k_mleT, k_mleF, k_meqT, k_meqF, m_neg, M_X12_fitting_B18], l1⟩
      · obtain ⟨rfl, l1⟩ := hR
        have fi := r_fits (h.pe hz) (K.pe hz) (show z < 6 by omega) hy he hn hs hu
        unfold sFI
        cases sf : sFit d u n e z y with
        | false =>
          rw [sf] at fi
          have fi : M_X12_fits T (nI s) (nI n) (nI e) (nI z) (nI y) = some (nI 0) := fi
          refine ⟨nI M.length, ⟨rfl, by show M.length ≤ _; omega⟩, ?_⟩
          rw [M_X12_fitting_B18]
          simp (disch := omega) only [↓ob_some, ↓zm_some, ↓zm_none, ↓zg_true, ↓zg_in, ↓(ob_of fi), reduceIte, li, lo, k_leT, k_leF, k_ltT, k_ltF, k_eqT, k_eqF, c_cl, c_sub, nI_add, pk_mul, zin_nI, zg_true, ob_some, zm_none, zm_some, if_true, if_false, Bool.false_eq_true, d_t, d_f, ob_eta, ob_eta1, m_ltn, m_nlt, m_nle, m_len, m_ne, m_ne', k_mltT, k_mltF, k_mleT, k_mleF, k_meqT, k_meqF, m_neg]
        | true =>
          rw [sf] at fi
          have fi : M_X12_fits T (nI s) (nI n) (nI e) (nI z) (nI y) = some (nI 1) := fi
          refine ⟨nI (M.length + 1), ⟨?_, ?_⟩, ?_⟩
          · rw [if_pos rfl, List.length_append, List.length_singleton]
          · rw [if_pos rfl, List.length_append, List.length_singleton]; omega
          · rw [M_X12_fitting_B18]
            simp (disch := omega) only [↓ob_some, ↓zm_some, ↓zm_none, ↓zg_true, ↓zg_in, ↓(ob_of fi), reduceIte, li, lo, k_leT, k_leF, k_ltT, k_ltF, k_eqT, k_eqF, c_cl, c_sub, nI_add, pk_mul, zin_nI, zg_true, ob_some, zm_none, zm_some, if_true, if_false, Bool.false_eq_true, d_t, d_f, ob_eta, ob_eta1, m_ltn, m_nlt, m_nle, m_len, m_ne, m_ne', k_mltT, k_mltF, k_mleT, k_mleF, k_meqT, k_meqF, m_neg]
    obtain ⟨-, i2⟩ := inner (fun _ _ _ _ _ => none)
    refine ⟨nI (sFo (sFI d u n e z) 0 6 L).length, ⟨rfl, by omega⟩, ?_⟩
    rw [M_X12_fitting_B6]
    simp (disch := omega) only [↓ob_some, ↓zm_some, ↓zm_none, ↓zg_true, ↓zg_in, h.1, reduceIte, li, lo, k_leT, k_leF, k_ltT, k_ltF, k_eqT, k_eqF, c_cl, c_sub, nI_add, pk_mul, zin_nI, zg_true, ob_some, zm_none, zm_some, if_true, if_false, Bool.false_eq_true, d_t, d_f, ob_eta, ob_eta1, m_ltn, m_nlt, m_nle, m_len, m_ne, m_ne', k_mltT, k_mltF, k_mleT, k_mleF, k_meqT, k_meqF, m_neg]
    exact (inner _).1
theorem r_worst (h : RR T d) (K : KK d) (he : e < 1000) (hn : n ≤ 8) (hs : s < 8) (hu : ∀ j, j < n → uv T s j = u j) (hx : x < 8) : M_X12_worst T (nI s) (nI n) (nI e) (nI x) = some (nI (wst d (sFL d u n e) x)) := by
  have hn6 := K.1
  unfold M_X12_worst
  refine lpR (fun n' (a : Int32 × Int32) z => M_X12_worst_B9 T n' (nI s) (nI n) (nI e) (nI x) a.1 a.2 z) (fun L p => sFo (sFI d u n e p) 0 6 L) (fun z a L => a = (nI (L.countP (hb d x)), nI (L.length - L.countP (hb d x))) ∧ L.length ≤ 6 * z) (fun L o => o = some (nI (wst d L x))) (dn d) (fun n' a L hR => ?_) (fun n' a L z hz hR => ?_) (dn d) 0 zF (nI 0, nI 0) [] ⟨rfl, Nat.le_refl _⟩ (by omega) (by show _ < 4096; omega)
  · obtain ⟨rfl, l⟩ := hR
    have cl := List.countP_le_length (p := hb d x) (l := L)
    have mx : (if nI (L.countP (hb d x)) < nI (L.length - L.countP (hb d x)) then nI (L.length - L.countP (hb d x)) else nI (L.countP (hb d x))) = nI (wst d L x) := by
      unfold wst
      by_cases c : L.countP (hb d x) < L.length - L.countP (hb d x)
      · rw [if_pos c, if_pos (nI_lt c (by omega))]
      · rw [if_neg c, if_neg (nI_nlt (by omega) (by omega))]
    show M_X12_worst_B9 T (n' + 1) (nI s) (nI n) (nI e) (nI x) (nI (L.countP (hb d x))) (nI (L.length - L.countP (hb d x))) (nI (dn d)) = _
    rw [M_X12_worst_B9]
    simp (disch := omega) only [reduceIte, li, h.1, k_leT, mx]
  · obtain ⟨rfl, l⟩ := hR
    have inner : ∀ K' : Int32 → Int32 → Int32 → Int32 → Int32 → Int32 → Int32 → Option Int32, M_X12_worst_B21 T K' zF (nI s) (nI n) (nI e) (nI x) (nI (L.countP (hb d x))) (nI (L.length - L.countP (hb d x))) (nI z) (nI 0) = K' (nI s) (nI n) (nI e) (nI x) (nI ((sFo (sFI d u n e z) 0 6 L).countP (hb d x))) (nI ((sFo (sFI d u n e z) 0 6 L).length - (sFo (sFI d u n e z) 0 6 L).countP (hb d x))) (nI (z + 1)) ∧ (sFo (sFI d u n e z) 0 6 L).length ≤ 6 * z + 6 := by
      intro K'
      refine lpR (fun n' (b : Int32 × Int32) y => M_X12_worst_B21 T K' n' (nI s) (nI n) (nI e) (nI x) b.1 b.2 (nI z) y) (sFI d u n e z) (fun y b M => b = (nI (M.countP (hb d x)), nI (M.length - M.countP (hb d x))) ∧ M.length ≤ 6 * z + y) (fun M o => o = K' (nI s) (nI n) (nI e) (nI x) (nI (M.countP (hb d x))) (nI (M.length - M.countP (hb d x))) (nI (z + 1)) ∧ M.length ≤ 6 * z + 6) 6 (fun n' b M hR => ?_) (fun n' b M y hy hR => ?_) 6 0 zF (nI (L.countP (hb d x)), nI (L.length - L.countP (hb d x))) L ⟨rfl, l⟩ rfl (by decide)
      · obtain ⟨rfl, l1⟩ := hR
        exact ⟨by simp (disch := omega) only [reduceIte, li, lo, k_leT, k_leF, k_ltT, k_ltF, k_eqT, k_eqF, c_cl, c_sub, nI_add, pk_mul, zin_nI, zg_true, ob_some, zm_none, zm_some, if_true, if_false, Bool.false_eq_true, d_t, d_f, ob_eta, ob_eta1, m_ltn, m_nlt, m_nle, m_len, m_ne, m_ne', k_mltT, k_mltF, k_mleT, k_mleF, k_meqT, k_meqF, m_neg, M_X12_worst_B21], l1⟩
      · obtain ⟨rfl, l1⟩ := hR
        have cl := List.countP_le_length (p := hb d x) (l := M)
        have fi := r_fits (h.pe hz) (K.pe hz) (show z < 6 by omega) hy he hn hs hu
        have hd := r_hasDeed (h.pe hz) (show z < 6 by omega) hy hx
        have le2 : zsc T 0 11 = dle d := h.2.1
        rw [le2] at hd
        show ∃ a' : Int32 × Int32, _ ∧ M_X12_worst_B21 T K' (n' + 1) (nI s) (nI n) (nI e) (nI x) (nI (M.countP (hb d x))) (nI (M.length - M.countP (hb d x))) (nI z) (nI y) = _
        unfold sFI
        cases sf : sFit d u n e z y with
        | false =>
          rw [sf] at fi
          have fi : M_X12_fits T (nI s) (nI n) (nI e) (nI z) (nI y) = some (nI 0) := fi
          refine ⟨(nI (M.countP (hb d x)), nI (M.length - M.countP (hb d x))), ⟨rfl, by show M.length ≤ _; omega⟩, ?_⟩
          rw [M_X12_worst_B21]
          simp (disch := omega) only [↓ob_some, ↓zm_some, ↓zm_none, ↓zg_true, ↓zg_in, ↓(ob_of fi), reduceIte, li, lo, k_leT, k_leF, k_ltT, k_ltF, k_eqT, k_eqF, c_cl, c_sub, nI_add, pk_mul, zin_nI, zg_true, ob_some, zm_none, zm_some, if_true, if_false, Bool.false_eq_true, d_t, d_f, ob_eta, ob_eta1, m_ltn, m_nlt, m_nle, m_len, m_ne, m_ne', k_mltT, k_mltF, k_mleT, k_mleF, k_meqT, k_meqF, m_neg]
        | true =>
          rw [sf] at fi
          have fi : M_X12_fits T (nI s) (nI n) (nI e) (nI z) (nI y) = some (nI 1) := fi
          have ca : (M ++ [10 * z + y]).countP (hb d x) = M.countP (hb d x) + (if dv d z (8 * y + x) < dle d then 0 else 1) := by
            rw [List.countP_append, List.countP_singleton]
            congr 1
            unfold hb
            rw [show (10 * z + y) / 10 = z by omega, show (10 * z + y) % 10 = y by omega]
            by_cases c : dv d z (8 * y + x) < dle d
            · rw [if_pos c, decide_eq_true c]; rfl
            · rw [if_neg c, decide_eq_false c]; rfl
          have la : (M ++ [10 * z + y]).length = M.length + 1 := by rw [List.length_append, List.length_singleton]
          refine ⟨(nI ((M ++ [10 * z + y]).countP (hb d x)), nI ((M ++ [10 * z + y]).length - (M ++ [10 * z + y]).countP (hb d x))), ⟨?_, ?_⟩, ?_⟩
          · rw [if_pos rfl]
          · rw [if_pos rfl, la]; omega
          · rw [M_X12_worst_B21]
            dsimp only
            rw [la, ca]
            by_cases c : dv d z (8 * y + x) < dle d
            · rw [if_pos c] at hd
              have e2 : M.length + 1 - (M.countP (hb d x) + (if dv d z (8 * y + x) < dle d then 0 else 1)) = M.length - M.countP (hb d x) + 1 := by rw [if_pos c]; omega
              have e3 : M.countP (hb d x) + (if dv d z (8 * y + x) < dle d then 0 else 1) = M.countP (hb d x) := by rw [if_pos c]; rfl
              rw [e2, e3]
              simp (disch := omega) only [↓ob_some, ↓zm_some, ↓zm_none, ↓zg_true, ↓zg_in, ↓(ob_of fi), ↓(ob_of hd), reduceIte, li, lo, k_leT, k_leF, k_ltT, k_ltF, k_eqT, k_eqF, c_cl, c_sub, nI_add, pk_mul, zin_nI, zg_true, ob_some, zm_none, zm_some, if_true, if_false, Bool.false_eq_true, d_t, d_f, ob_eta, ob_eta1, m_ltn, m_nlt, m_nle, m_len, m_ne, m_ne', k_mltT, k_mltF, k_mleT, k_mleF, k_meqT, k_meqF, m_neg]
            · rw [if_neg c] at hd
              have e3 : M.countP (hb d x) + (if dv d z (8 * y + x) < dle d then 0 else 1) = M.countP (hb d x) + 1 := by rw [if_neg c]
              rw [e3, show M.length + 1 - (M.countP (hb d x) + 1) = M.length - M.countP (hb d x) by omega]
              simp (disch := omega) only [↓ob_some, ↓zm_some, ↓zm_none, ↓zg_true, ↓zg_in, ↓(ob_of fi), ↓(ob_of hd), reduceIte, li, lo, k_leT, k_leF, k_ltT, k_ltF, k_eqT, k_eqF, c_cl, c_sub, nI_add, pk_mul, zin_nI, zg_true, ob_some, zm_none, zm_some, if_true, if_false, Bool.false_eq_true, d_t, d_f, ob_eta, ob_eta1, m_ltn, m_nlt, m_nle, m_len, m_ne, m_ne', k_mltT, k_mltF, k_mleT, k_mleF, k_meqT, k_meqF, m_neg]
    obtain ⟨-, i2⟩ := inner (fun _ _ _ _ _ _ _ => none)
    refine ⟨(nI ((sFo (sFI d u n e z) 0 6 L).countP (hb d x)), nI ((sFo (sFI d u n e z) 0 6 L).length - (sFo (sFI d u n e z) 0 6 L).countP (hb d x))), ⟨rfl, by omega⟩, ?_⟩
    show M_X12_worst_B9 T (n' + 1) (nI s) (nI n) (nI e) (nI x) (nI (L.countP (hb d x))) (nI (L.length - L.countP (hb d x))) (nI z) = _
    rw [M_X12_worst_B9]
    simp (disch := omega) only [↓ob_some, ↓zm_some, ↓zm_none, ↓zg_true, ↓zg_in, h.1, reduceIte, li, lo, k_leT, k_leF, k_ltT, k_ltF, k_eqT, k_eqF, c_cl, c_sub, nI_add, pk_mul, zin_nI, zg_true, ob_some, zm_none, zm_some, if_true, if_false, Bool.false_eq_true, d_t, d_f, ob_eta, ob_eta1, m_ltn, m_nlt, m_nle, m_len, m_ne, m_ne', k_mltT, k_mltF, k_mleT, k_mleF, k_meqT, k_meqF, m_neg]
    exact (inner _).1
theorem r_next (h : RR T d) (K : KK d) (he : e < 1000) (hn : n < 8) (hs : s < 8) (hu : ∀ j, j < n → uv T s j = u j) (hl : (sFL d u n e).length ≤ 36) : M_X12_next_B69 zF T (nI s) (nI n) (nI e) (nI n) (nI (n + 1)) = some ((sFo (bS d (sFL d u n e)) (n + 1) (7 - n) (nI n, wst d (sFL d u n e) n)).1, T) := by
  refine lpR (fun n' (a : Int32) z => M_X12_next_B69 n' T (nI s) (nI n) (nI e) a z) (bS d (sFL d u n e)) (fun z a c => ∃ f, f < 8 ∧ a = nI f ∧ c = (nI f, wst d (sFL d u n e) f)) (fun c o => o = some (c.1, T)) 8 (fun n' a c hR => ?_) (fun n' a c z hz hR => ?_) (7 - n) (n + 1) zF (nI n) (nI n, wst d (sFL d u n e) n) ⟨n, hn, rfl, rfl⟩ (by omega) (by show _ < 4096; omega)
  · obtain ⟨f, hf, rfl, rfl⟩ := hR
    simp (disch := omega) only [reduceIte, li, lo, k_leT, k_leF, k_ltT, k_ltF, k_eqT, k_eqF, c_cl, c_sub, nI_add, pk_mul, zin_nI, zg_true, ob_some, zm_none, zm_some, if_true, if_false, Bool.false_eq_true, d_t, d_f, ob_eta, ob_eta1, m_ltn, m_nlt, m_nle, m_len, m_ne, m_ne', k_mltT, k_mltF, k_mleT, k_mleF, k_meqT, k_meqF, m_neg, M_X12_next_B69]
  · obtain ⟨f, hf, rfl, rfl⟩ := hR
    have w1 := r_worst h K he (show n ≤ 8 by omega) hs hu hz
    have w2 := r_worst h K he (show n ≤ 8 by omega) hs hu hf
    have l1 := wst_le d (sFL d u n e) z
    have l2 := wst_le d (sFL d u n e) f
    by_cases c1 : wst d (sFL d u n e) f ≤ wst d (sFL d u n e) z
    · refine ⟨nI f, ⟨f, hf, rfl, ?_⟩, ?_⟩
      · unfold bS; rw [if_pos c1]
      · rw [M_X12_next_B69]
        simp (disch := omega) only [↓ob_some, ↓zm_some, ↓zm_none, ↓zg_true, ↓zg_in, ↓(ob_of w1), ↓(ob_of w2), reduceIte, li, lo, k_leT, k_leF, k_ltT, k_ltF, k_eqT, k_eqF, c_cl, c_sub, nI_add, pk_mul, zin_nI, zg_true, ob_some, zm_none, zm_some, if_true, if_false, Bool.false_eq_true, d_t, d_f, ob_eta, ob_eta1, m_ltn, m_nlt, m_nle, m_len, m_ne, m_ne', k_mltT, k_mltF, k_mleT, k_mleF, k_meqT, k_meqF, m_neg]
    · refine ⟨nI z, ⟨z, hz, rfl, ?_⟩, ?_⟩
      · unfold bS; rw [if_neg c1]
      · rw [M_X12_next_B69]
        simp (disch := omega) only [↓ob_some, ↓zm_some, ↓zm_none, ↓zg_true, ↓zg_in, ↓(ob_of w1), ↓(ob_of w2), reduceIte, li, lo, k_leT, k_leF, k_ltT, k_ltF, k_eqT, k_eqF, c_cl, c_sub, nI_add, pk_mul, zin_nI, zg_true, ob_some, zm_none, zm_some, if_true, if_false, Bool.false_eq_true, d_t, d_f, ob_eta, ob_eta1, m_ltn, m_nlt, m_nle, m_len, m_ne, m_ne', k_mltT, k_mltF, k_mleT, k_mleF, k_meqT, k_meqF, m_neg]
theorem cTel (h : Inv pk S d) (x1 x2 x3 : Int32) : (∃ c, 1 ≤ c ∧ c ≤ 6 ∧ ((M_X11_shelfAt pk S x1 = some none ∧ M_X11_refusalOfTold pk S none x2 x3 = some (-nI c)) ∨ ∃ s, M_X11_shelfAt pk S x1 = some (some s) ∧ decide (s < 8) = true ∧ M_X11_refusalOfTold pk S (some s) x2 x3 = some (-nI c)) ∧ ∀ T, zar T 1 = zar S 1 → zar T 2 = zar S 2 → M_X12_noTold T x1 x2 (nI 1) (nI 8) = some (-nI c) ∨ (c = 6 ∧ M_X12_noTold T x1 x2 (nI 1) (nI 8) = some (nI 0) ∧ M_X12_within T x3 (nI 0) (nI 20) = some (nI 0))) ∨ ∃ s m n e, s < 8 ∧ m ≤ 160 ∧ n ≤ m ∧ 1 ≤ n ∧ n ≤ 8 ∧ e ≤ 20 ∧ x1 = nI s ∧ x2 = nI n ∧ x3 = nI e ∧ M_X11_shelfAt pk S x1 = some (some s) ∧ decide (s < 8) = true ∧ M_X11_refusalOfTold pk S (some s) x2 x3 = some (nI 0) ∧ (∀ T, zar T 1 = zar S 1 → zar T 2 = zar S 2 → M_X12_noTold T x1 x2 (nI 1) (nI 8) = some (nI 0)) ∧ (∀ T, M_X12_within T x3 (nI 0) (nI 20) = some (nI 1)) ∧ (∀ S', zsc S' (40 + 2 * s) = zsc S (40 + 2 * s) → zlo S' (40 + 2 * s + 1) = zlo S (40 + 2 * s + 1) → ∀ j, j < m → M_X7_intAt pk S' s (nI j) = some (uv S s j)) := by
  rcases cRow h x1 with ⟨a1, b1⟩ | ⟨s, c, hs, hc, rfl, a1, c1, r0, l0, b1⟩ | ⟨s, m, t, hs, hm, ht, rfl, a1, c1, r0, b1, e1, e2, e3, e4, e5⟩
  · refine Or.inl ⟨1, by decide, by decide, Or.inl ⟨a1, rfl⟩, fun T h1 h2 => Or.inl ?_⟩
    unfold M_X12_noTold
    simp (disch := omega) only [↓ob_some, ↓zm_some, ↓zm_none, ↓zg_true, ↓zg_in, ↓(ob_of (b1 T h1)), reduceIte, li, lo, k_leT, k_leF, k_ltT, k_ltF, k_eqT, k_eqF, c_cl, c_sub, nI_add, pk_mul, zin_nI, zg_true, ob_some, zm_none, zm_some, if_true, if_false, Bool.false_eq_true, d_t, d_f, ob_eta, ob_eta1, m_ltn, m_nlt, m_nle, m_len, m_ne, m_ne', k_mltT, k_mltF, k_mleT, k_mleF, k_meqT, k_meqF, m_neg]
  · refine Or.inl ⟨c, by omega, by omega, Or.inr ⟨s, a1, c1, ?_⟩, fun T h1 h2 => Or.inl ?_⟩
    · unfold M_X11_refusalOfTold M_X11_refusalOfTold_B11
      simp (disch := omega) only [↓ob_some, ↓zm_some, ↓zm_none, ↓zg_true, ↓zg_in, ↓(ob_of r0), ↓(zg_of c1), ↓(ob_of l0), reduceIte, li, lo, k_leT, k_leF, k_ltT, k_ltF, k_eqT, k_eqF, c_cl, c_sub, nI_add, pk_mul, zin_nI, zg_true, ob_some, zm_none, zm_some, if_true, if_false, Bool.false_eq_true, d_t, d_f, ob_eta, ob_eta1, m_ltn, m_nlt, m_nle, m_len, m_ne, m_ne', k_mltT, k_mltF, k_mleT, k_mleF, k_meqT, k_meqF, m_neg]
    · unfold M_X12_noTold
      simp (disch := omega) only [↓ob_some, ↓zm_some, ↓zm_none, ↓zg_true, ↓zg_in, ↓(ob_of (b1 T h1)), reduceIte, li, lo, k_leT, k_leF, k_ltT, k_ltF, k_eqT, k_eqF, c_cl, c_sub, nI_add, pk_mul, zin_nI, zg_true, ob_some, zm_none, zm_some, if_true, if_false, Bool.false_eq_true, d_t, d_f, ob_eta, ob_eta1, m_ltn, m_nlt, m_nle, m_len, m_ne, m_ne', k_mltT, k_mltF, k_mleT, k_mleF, k_meqT, k_meqF, m_neg]
  · by_cases n0 : x2 < nI 0
    · have n1 : ¬ nI 0 ≤ x2 := Int32.not_le.mpr n0
      refine Or.inl ⟨4, by decide, by decide, Or.inr ⟨s, a1, c1, ?_⟩, fun T h1 h2 => Or.inl ?_⟩
      · unfold M_X11_refusalOfTold
        simp (disch := omega) only [↓ob_some, ↓zm_some, ↓zm_none, ↓zg_true, ↓zg_in, ↓(ob_of r0), n1, reduceIte, li, lo, k_leT, k_leF, k_ltT, k_ltF, k_eqT, k_eqF, c_cl, c_sub, nI_add, pk_mul, zin_nI, zg_true, ob_some, zm_none, zm_some, if_true, if_false, Bool.false_eq_true, d_t, d_f, ob_eta, ob_eta1, m_ltn, m_nlt, m_nle, m_len, m_ne, m_ne', k_mltT, k_mltF, k_mleT, k_mleF, k_meqT, k_meqF, m_neg]
      · unfold M_X12_noTold
        simp (disch := omega) only [↓ob_some, ↓zm_some, ↓zm_none, ↓zg_true, ↓zg_in, ↓(ob_of (b1 T h1)), n1, reduceIte, li, lo, k_leT, k_leF, k_ltT, k_ltF, k_eqT, k_eqF, c_cl, c_sub, nI_add, pk_mul, zin_nI, zg_true, ob_some, zm_none, zm_some, if_true, if_false, Bool.false_eq_true, d_t, d_f, ob_eta, ob_eta1, m_ltn, m_nlt, m_nle, m_len, m_ne, m_ne', k_mltT, k_mltF, k_mleT, k_mleF, k_meqT, k_meqF, m_neg]
    · obtain ⟨n, hn, rfl⟩ := nI_of n0
      by_cases hnm : n ≤ m
      · by_cases n18 : 1 ≤ n ∧ n ≤ 8
        · have nt : ∀ T, zar T 1 = zar S 1 → zar T 2 = zar S 2 → M_X12_noTold T (nI s) (nI n) (nI 1) (nI 8) = some (nI 0) := by
            intro T h1 h2
            have e4' : zar T 2 s = nI m := by rw [h2]; exact e4
            unfold M_X12_noTold
            simp (disch := omega) only [↓ob_some, ↓zm_some, ↓zm_none, ↓zg_true, ↓zg_in, ↓(ob_of (b1 T h1)), e4', ↓(ob_of (w_n (a := 1) (b := 8) T n18.1 n18.2 (by decide))), reduceIte, li, lo, k_leT, k_leF, k_ltT, k_ltF, k_eqT, k_eqF, c_cl, c_sub, nI_add, pk_mul, zin_nI, zg_true, ob_some, zm_none, zm_some, if_true, if_false, Bool.false_eq_true, d_t, d_f, ob_eta, ob_eta1, m_ltn, m_nlt, m_nle, m_len, m_ne, m_ne', k_mltT, k_mltF, k_mleT, k_mleF, k_meqT, k_meqF, m_neg]
          rcases cR x3 0 20 (by decide) (by decide) with q | ⟨q1, q2, q3⟩ | ⟨e, j1, j2, rfl⟩
          · refine Or.inl ⟨6, by decide, by decide, Or.inr ⟨s, a1, c1, ?_⟩, fun T h1 h2 => Or.inr ⟨rfl, nt T h1 h2, w_lo T q⟩⟩
            unfold M_X11_refusalOfTold
            simp (disch := omega) only [↓ob_some, ↓zm_some, ↓zm_none, ↓zg_true, ↓zg_in, ↓(ob_of r0), e3, q, reduceIte, li, lo, k_leT, k_leF, k_ltT, k_ltF, k_eqT, k_eqF, c_cl, c_sub, nI_add, pk_mul, zin_nI, zg_true, ob_some, zm_none, zm_some, if_true, if_false, Bool.false_eq_true, d_t, d_f, ob_eta, ob_eta1, m_ltn, m_nlt, m_nle, m_len, m_ne, m_ne', k_mltT, k_mltF, k_mleT, k_mleF, k_meqT, k_meqF, m_neg]
          · refine Or.inl ⟨6, by decide, by decide, Or.inr ⟨s, a1, c1, ?_⟩, fun T h1 h2 => Or.inr ⟨rfl, nt T h1 h2, w_hi T q2⟩⟩
            unfold M_X11_refusalOfTold
            simp (disch := omega) only [↓ob_some, ↓zm_some, ↓zm_none, ↓zg_true, ↓zg_in, ↓(ob_of r0), e3, q1, q3, reduceIte, li, lo, k_leT, k_leF, k_ltT, k_ltF, k_eqT, k_eqF, c_cl, c_sub, nI_add, pk_mul, zin_nI, zg_true, ob_some, zm_none, zm_some, if_true, if_false, Bool.false_eq_true, d_t, d_f, ob_eta, ob_eta1, m_ltn, m_nlt, m_nle, m_len, m_ne, m_ne', k_mltT, k_mltF, k_mleT, k_mleF, k_meqT, k_meqF, m_neg]
          · refine Or.inr ⟨s, m, n, e, hs, hm, hnm, n18.1, n18.2, j2, rfl, rfl, rfl, a1, c1, ?_, nt, fun T => w_n (a := 0) (b := 20) T j1 j2 (by decide), fun S' q1 q2 j hj => ?_⟩
            · unfold M_X11_refusalOfTold
              simp (disch := omega) only [↓ob_some, ↓zm_some, ↓zm_none, ↓zg_true, ↓zg_in, ↓(ob_of r0), e3, reduceIte, li, lo, k_leT, k_leF, k_ltT, k_ltF, k_eqT, k_eqF, c_cl, c_sub, nI_add, pk_mul, zin_nI, zg_true, ob_some, zm_none, zm_some, if_true, if_false, Bool.false_eq_true, d_t, d_f, ob_eta, ob_eta1, m_ltn, m_nlt, m_nle, m_len, m_ne, m_ne', k_mltT, k_mltF, k_mleT, k_mleF, k_meqT, k_meqF, m_neg]
            · have e4 : zsc S' (40 + 2 * s) 1 = nI (100 + t) := by rw [q1]; exact e1
              have e5' : zsc S' (40 + 2 * s) 2 = nI m := by rw [q1]; exact e3
              have e6 : zlo S' (40 + 2 * s + 1) j = zlo S 3 (160 * s + j) := by rw [q2]; exact e5 j (by omega)
              unfold M_X7_intAt M_X7_elementAt M_X7_hasElement M_X7_hasRow uv
              simp (disch := omega) only [reduceIte, li, lo, k_leT, k_leF, k_ltT, k_ltF, k_eqT, k_eqF, c_cl, c_sub, nI_add, pk_mul, zin_nI, zg_true, ob_some, zm_none, zm_some, if_true, if_false, Bool.false_eq_true, d_t, d_f, ob_eta, ob_eta1, m_ltn, m_nlt, m_nle, m_len, m_ne, m_ne', k_mltT, k_mltF, k_mleT, k_mleF, k_meqT, k_meqF, m_neg, e4, e5', e6]
        · refine Or.inl ⟨6, by decide, by decide, Or.inr ⟨s, a1, c1, ?_⟩, fun T h1 h2 => Or.inl ?_⟩
          · unfold M_X11_refusalOfTold
            by_cases c : n < 1
            · simp (disch := omega) only [↓ob_some, ↓zm_some, ↓zm_none, ↓zg_true, ↓zg_in, ↓(ob_of r0), e3, reduceIte, li, lo, k_leT, k_leF, k_ltT, k_ltF, k_eqT, k_eqF, c_cl, c_sub, nI_add, pk_mul, zin_nI, zg_true, ob_some, zm_none, zm_some, if_true, if_false, Bool.false_eq_true, d_t, d_f, ob_eta, ob_eta1, m_ltn, m_nlt, m_nle, m_len, m_ne, m_ne', k_mltT, k_mltF, k_mleT, k_mleF, k_meqT, k_meqF, m_neg]
            · simp (disch := omega) only [↓ob_some, ↓zm_some, ↓zm_none, ↓zg_true, ↓zg_in, ↓(ob_of r0), e3, reduceIte, li, lo, k_leT, k_leF, k_ltT, k_ltF, k_eqT, k_eqF, c_cl, c_sub, nI_add, pk_mul, zin_nI, zg_true, ob_some, zm_none, zm_some, if_true, if_false, Bool.false_eq_true, d_t, d_f, ob_eta, ob_eta1, m_ltn, m_nlt, m_nle, m_len, m_ne, m_ne', k_mltT, k_mltF, k_mleT, k_mleF, k_meqT, k_meqF, m_neg]
          · have e4' : zar T 2 s = nI m := by rw [h2]; exact e4
            unfold M_X12_noTold
            by_cases c : n < 1
            · simp (disch := omega) only [↓ob_some, ↓zm_some, ↓zm_none, ↓zg_true, ↓zg_in, ↓(ob_of (b1 T h1)), e4', ↓(ob_of (w_lo (b := nI 8) T (show nI n < nI 1 from nI_lt c (by decide)))), reduceIte, li, lo, k_leT, k_leF, k_ltT, k_ltF, k_eqT, k_eqF, c_cl, c_sub, nI_add, pk_mul, zin_nI, zg_true, ob_some, zm_none, zm_some, if_true, if_false, Bool.false_eq_true, d_t, d_f, ob_eta, ob_eta1, m_ltn, m_nlt, m_nle, m_len, m_ne, m_ne', k_mltT, k_mltF, k_mleT, k_mleF, k_meqT, k_meqF, m_neg]
            · simp (disch := omega) only [↓ob_some, ↓zm_some, ↓zm_none, ↓zg_true, ↓zg_in, ↓(ob_of (b1 T h1)), e4', ↓(ob_of (w_hi (a := nI 1) T (show nI 8 < nI n from nI_lt (by omega) (by omega)))), reduceIte, li, lo, k_leT, k_leF, k_ltT, k_ltF, k_eqT, k_eqF, c_cl, c_sub, nI_add, pk_mul, zin_nI, zg_true, ob_some, zm_none, zm_some, if_true, if_false, Bool.false_eq_true, d_t, d_f, ob_eta, ob_eta1, m_ltn, m_nlt, m_nle, m_len, m_ne, m_ne', k_mltT, k_mltF, k_mleT, k_mleF, k_meqT, k_meqF, m_neg]
      · refine Or.inl ⟨5, by decide, by decide, Or.inr ⟨s, a1, c1, ?_⟩, fun T h1 h2 => Or.inl ?_⟩
        · unfold M_X11_refusalOfTold
          simp (disch := omega) only [↓ob_some, ↓zm_some, ↓zm_none, ↓zg_true, ↓zg_in, ↓(ob_of r0), e3, reduceIte, li, lo, k_leT, k_leF, k_ltT, k_ltF, k_eqT, k_eqF, c_cl, c_sub, nI_add, pk_mul, zin_nI, zg_true, ob_some, zm_none, zm_some, if_true, if_false, Bool.false_eq_true, d_t, d_f, ob_eta, ob_eta1, m_ltn, m_nlt, m_nle, m_len, m_ne, m_ne', k_mltT, k_mltF, k_mleT, k_mleF, k_meqT, k_meqF, m_neg]
        · have e4' : zar T 2 s = nI m := by rw [h2]; exact e4
          unfold M_X12_noTold
          simp (disch := omega) only [↓ob_some, ↓zm_some, ↓zm_none, ↓zg_true, ↓zg_in, ↓(ob_of (b1 T h1)), e4', reduceIte, li, lo, k_leT, k_leF, k_ltT, k_ltF, k_eqT, k_eqF, c_cl, c_sub, nI_add, pk_mul, zin_nI, zg_true, ob_some, zm_none, zm_some, if_true, if_false, Bool.false_eq_true, d_t, d_f, ob_eta, ob_eta1, m_ltn, m_nlt, m_nle, m_len, m_ne, m_ne', k_mltT, k_mltF, k_mleT, k_mleF, k_meqT, k_meqF, m_neg]
theorem s_which (h : Inv pk S d) (x1 x2 x3 x4 : Int32) : zStp pk (M_X11_which pk S x1 x2 x3 x4) (fun T => M_X12_which T x1 x2 x3 x4) := by
  unfold M_X11_which M_X11_which_B26 M_X11_which_B81
  rcases cTel h x1 x2 x3 with ⟨c, c1, c2, hc, b⟩ | ⟨s, m, n, e, hs, hm, hnm, n1, n8, e20, rfl, rfl, rfl, a1, z1, r0, nt, we, ia⟩
  · refine st_no h c c1 (by omega) ?_ ?_
    · rcases hc with ⟨a1, r0⟩ | ⟨s, a1, z1, r0⟩
      · simp (disch := omega) only [↓ob_some, ↓zm_some, ↓zm_none, ↓zg_true, ↓zg_in, ↓(ob_of a1), ↓(ob_of r0), reduceIte, li, lo, k_leT, k_leF, k_ltT, k_ltF, k_eqT, k_eqF, c_cl, c_sub, nI_add, pk_mul, zin_nI, zg_true, ob_some, zm_none, zm_some, if_true, if_false, Bool.false_eq_true, d_t, d_f, ob_eta, ob_eta1, m_ltn, m_nlt, m_nle, m_len, m_ne, m_ne', k_mltT, k_mltF, k_mleT, k_mleF, k_meqT, k_meqF, m_neg]
      · simp (disch := omega) only [↓ob_some, ↓zm_some, ↓zm_none, ↓zg_true, ↓zg_in, ↓(ob_of a1), ↓(zg_of z1), ↓(ob_of r0), reduceIte, li, lo, k_leT, k_leF, k_ltT, k_ltF, k_eqT, k_eqF, c_cl, c_sub, nI_add, pk_mul, zin_nI, zg_true, ob_some, zm_none, zm_some, if_true, if_false, Bool.false_eq_true, d_t, d_f, ob_eta, ob_eta1, m_ltn, m_nlt, m_nle, m_len, m_ne, m_ne', k_mltT, k_mltF, k_mleT, k_mleF, k_meqT, k_meqF, m_neg]
    · unfold M_X12_which
      rcases b (zR1 S c) (r1_a (by decide)) (r1_a (by decide)) with b | ⟨rfl, b, bw⟩
      · simp (disch := omega) only [↓ob_some, ↓zm_some, ↓zm_none, ↓zg_true, ↓zg_in, ↓(ob_of b), M_X12_which_B30, reduceIte, li, lo, k_leT, k_leF, k_ltT, k_ltF, k_eqT, k_eqF, c_cl, c_sub, nI_add, pk_mul, zin_nI, zg_true, ob_some, zm_none, zm_some, if_true, if_false, Bool.false_eq_true, d_t, d_f, ob_eta, ob_eta1, m_ltn, m_nlt, m_nle, m_len, m_ne, m_ne', k_mltT, k_mltF, k_mleT, k_mleF, k_meqT, k_meqF, m_neg]
      · simp (disch := omega) only [↓ob_some, ↓zm_some, ↓zm_none, ↓zg_true, ↓zg_in, ↓(ob_of b), ↓(ob_of bw), M_X12_which_B30, reduceIte, li, lo, k_leT, k_leF, k_ltT, k_ltF, k_eqT, k_eqF, c_cl, c_sub, nI_add, pk_mul, zin_nI, zg_true, ob_some, zm_none, zm_some, if_true, if_false, Bool.false_eq_true, d_t, d_f, ob_eta, ob_eta1, m_ltn, m_nlt, m_nle, m_len, m_ne, m_ne', k_mltT, k_mltF, k_mleT, k_mleF, k_meqT, k_meqF, m_neg]
  · obtain ⟨S1, f1, f2, f3, f4⟩ := l_findFits (pk := pk) (s := s) (u := uv S s) (n := n) (e := e) h.l h.k (by omega) n8 (fun S' f j hj => ia S' (f.sc (by omega)) (f.lo (by omega)) j (by omega))
    have i1 : Inv pk S1 d := h.mv0 f2 (fun k q => by unfold zIr; omega)
    have wr : ∀ T, RR T d → zar T 1 = zar S 1 → zar T 2 = zar S 2 → zlo T 3 = zlo S 3 → M_X12_which T (nI s) (nI n) (nI e) x4 = if x4 = -nI 1 then some (nI (sFL d (uv S s) n e).length, T) else if fnd (sFL d (uv S s) n e) x4 = -nI 1 then M_X12_no T (-nI 5) else some (fnd (sFL d (uv S s) n e) x4, T) := by
      intro T hT t1 t2 t3
      have rw_ := r_which hT h.k (e := e) (n := n) (s := s) (u := uv S s) (by omega) n8 hs (fun j hj => by unfold uv; rw [t3]) x4
      have nt := nt T t1 t2
      have we := we T
      rw [← rw_]
      unfold M_X12_which
      simp (disch := omega) only [↓ob_some, ↓zm_some, ↓zm_none, ↓zg_true, ↓zg_in, ↓(ob_of nt), ↓(ob_of we), M_X12_which_B30, reduceIte, li, lo, k_leT, k_leF, k_ltT, k_ltF, k_eqT, k_eqF, c_cl, c_sub, nI_add, pk_mul, zin_nI, zg_true, ob_some, zm_none, zm_some, if_true, if_false, Bool.false_eq_true, d_t, d_f, ob_eta, ob_eta1, m_ltn, m_nlt, m_nle, m_len, m_ne, m_ne', k_mltT, k_mltF, k_mleT, k_mleF, k_meqT, k_meqF, m_neg]
    have t1 : zar S1 1 = zar S 1 := f2.ar (by omega)
    have t2 : zar S1 2 = zar S 2 := f2.ar (by omega)
    have t3 : zlo S1 3 = zlo S 3 := f2.lo (by omega)
    have hz : RR (zR1 S1 5) d := i1.r.fr0 (zFr_As (P := fun k => k = 22) rfl) (fun k a => by omega)
    have wz := wr (zR1 S1 5) hz ((r1_a (by decide)).trans t1) ((r1_a (by decide)).trans t2) t3
    have ws := wr S1 i1.r t1 t2 t3
    rcases pk_ix x4 (n := (sFL d (uv S s) n e).length) (by omega) with q | q | ⟨k, hk, rfl⟩
    · have q : x4 < nI 0 := q
      by_cases c1 : x4 = -nI 1
      · subst c1
        rw [if_pos rfl] at ws
        exact ⟨nI (sFL d (uv S s) n e).length, S1, S1, by simp (disch := omega) only [↓ob_some, ↓zm_some, ↓zm_none, ↓zg_true, ↓zg_in, ↓(ob_of a1), ↓(zg_of z1), ↓(ob_of r0), ↓(ob_of f1), reduceIte, li, lo, k_leT, k_leF, k_ltT, k_ltF, k_eqT, k_eqF, c_cl, c_sub, nI_add, pk_mul, zin_nI, zg_true, ob_some, zm_none, zm_some, if_true, if_false, Bool.false_eq_true, d_t, d_f, ob_eta, ob_eta1, m_ltn, m_nlt, m_nle, m_len, m_ne, m_ne', k_mltT, k_mltF, k_mleT, k_mleF, k_meqT, k_meqF, m_neg], ws, d, i1⟩
      · have fn : fnd (sFL d (uv S s) n e) x4 = -nI 1 := if_neg (fun z => z.1 q)
        rw [if_neg c1, if_pos fn] at wz
        exact st_no i1 5 (by decide) (by decide) (by simp (disch := omega) only [↓ob_some, ↓zm_some, ↓zm_none, ↓zg_true, ↓zg_in, ↓(ob_of a1), ↓(zg_of z1), ↓(ob_of r0), ↓(ob_of f1), c1, q, reduceIte, li, lo, k_leT, k_leF, k_ltT, k_ltF, k_eqT, k_eqF, c_cl, c_sub, nI_add, pk_mul, zin_nI, zg_true, ob_some, zm_none, zm_some, if_true, if_false, Bool.false_eq_true, d_t, d_f, ob_eta, ob_eta1, m_ltn, m_nlt, m_nle, m_len, m_ne, m_ne', k_mltT, k_mltF, k_mleT, k_mleF, k_meqT, k_meqF, m_neg]) wz
    · have q0 : ¬ x4 < nI 0 := fun z => by
        have := Int32.lt_of_le_of_lt q z
        rw [c_lt (by omega) (by decide)] at this
        omega
      have c1 : ¬ x4 = -nI 1 := fun z => by subst z; exact q0 (m_lt0 (by decide) (by decide))
      have fn : fnd (sFL d (uv S s) n e) x4 = -nI 1 := if_neg (fun z => Int32.not_lt.mpr q z.2)
      rw [if_neg c1, if_pos fn] at wz
      exact st_no i1 5 (by decide) (by decide) (by simp (disch := omega) only [↓ob_some, ↓zm_some, ↓zm_none, ↓zg_true, ↓zg_in, ↓(ob_of a1), ↓(zg_of z1), ↓(ob_of r0), ↓(ob_of f1), c1, q0, q, reduceIte, li, lo, k_leT, k_leF, k_ltT, k_ltF, k_eqT, k_eqF, c_cl, c_sub, nI_add, pk_mul, zin_nI, zg_true, ob_some, zm_none, zm_some, if_true, if_false, Bool.false_eq_true, d_t, d_f, ob_eta, ob_eta1, m_ltn, m_nlt, m_nle, m_len, m_ne, m_ne', k_mltT, k_mltF, k_mleT, k_mleF, k_meqT, k_meqF, m_neg]) wz
    · have fn : fnd (sFL d (uv S s) n e) (nI k) = nI ((sFL d (uv S s) n e).getD k 0) := by
        unfold fnd
        rw [if_pos ⟨not_lt0 (by omega), nI_lt hk (by omega)⟩, c_cl (by omega)]
      have hm := sFL_mem d (uv S s) n e ((sFL d (uv S s) n e).getD k 0) (by
        rw [List.getD_eq_getElem?_getD, List.getElem?_eq_getElem hk]
        exact List.getElem_mem hk)
      have hn6 := h.k.1
      have ry := f3 k hk
      have ng : ¬ nI ((sFL d (uv S s) n e).getD k 0) = -nI 1 := by rw [m_ne (by decide) (by decide) (by omega)]; exact id
      have nk : ¬ nI k = -nI 1 := by rw [m_ne (by decide) (by decide) (by omega)]; exact id
      rw [if_neg nk, fn, if_neg ng] at ws
      exact ⟨nI ((sFL d (uv S s) n e).getD k 0), S1, S1, by simp (disch := omega) only [↓ob_some, ↓zm_some, ↓zm_none, ↓zg_true, ↓zg_in, ↓(ob_of a1), ↓(zg_of z1), ↓(ob_of r0), ↓(ob_of f1), ry, reduceIte, li, lo, k_leT, k_leF, k_ltT, k_ltF, k_eqT, k_eqF, c_cl, c_sub, nI_add, pk_mul, zin_nI, zg_true, ob_some, zm_none, zm_some, if_true, if_false, Bool.false_eq_true, d_t, d_f, ob_eta, ob_eta1, m_ltn, m_nlt, m_nle, m_len, m_ne, m_ne', k_mltT, k_mltF, k_mleT, k_mleF, k_meqT, k_meqF, m_neg], ws, d, i1⟩
theorem s_next (h : Inv pk S d) (x1 x2 x3 : Int32) : zStp pk (M_X11_next pk S x1 x2 x3) (fun T => M_X12_next T x1 x2 x3) := by
  unfold M_X11_next M_X11_next_B26
  rcases cTel h x1 x2 x3 with ⟨c, c1, c2, hc, b⟩ | ⟨s, m, n, e, hs, hm, hnm, n1, n8, e20, rfl, rfl, rfl, a1, z1, r0, nt, we, ia⟩
  · refine st_no10 h c c1 (by omega) ?_ ?_
    · rcases hc with ⟨a1, r0⟩ | ⟨s, a1, z1, r0⟩
      · simp (disch := omega) only [↓ob_some, ↓zm_some, ↓zm_none, ↓zg_true, ↓zg_in, ↓(ob_of a1), ↓(ob_of r0), reduceIte, li, lo, k_leT, k_leF, k_ltT, k_ltF, k_eqT, k_eqF, c_cl, c_sub, nI_add, pk_mul, zin_nI, zg_true, ob_some, zm_none, zm_some, if_true, if_false, Bool.false_eq_true, d_t, d_f, ob_eta, ob_eta1, m_ltn, m_nlt, m_nle, m_len, m_ne, m_ne', k_mltT, k_mltF, k_mleT, k_mleF, k_meqT, k_meqF, m_neg]
      · simp (disch := omega) only [↓ob_some, ↓zm_some, ↓zm_none, ↓zg_true, ↓zg_in, ↓(ob_of a1), ↓(zg_of z1), ↓(ob_of r0), reduceIte, li, lo, k_leT, k_leF, k_ltT, k_ltF, k_eqT, k_eqF, c_cl, c_sub, nI_add, pk_mul, zin_nI, zg_true, ob_some, zm_none, zm_some, if_true, if_false, Bool.false_eq_true, d_t, d_f, ob_eta, ob_eta1, m_ltn, m_nlt, m_nle, m_len, m_ne, m_ne', k_mltT, k_mltF, k_mleT, k_mleF, k_meqT, k_meqF, m_neg]
    · unfold M_X12_next
      rcases b (zR1 S c) (r1_a (by decide)) (r1_a (by decide)) with b | ⟨rfl, b, bw⟩
      · simp (disch := omega) only [↓ob_some, ↓zm_some, ↓zm_none, ↓zg_true, ↓zg_in, ↓(ob_of b), M_X12_next_B30, reduceIte, li, lo, k_leT, k_leF, k_ltT, k_ltF, k_eqT, k_eqF, c_cl, c_sub, nI_add, pk_mul, zin_nI, zg_true, ob_some, zm_none, zm_some, if_true, if_false, Bool.false_eq_true, d_t, d_f, ob_eta, ob_eta1, m_ltn, m_nlt, m_nle, m_len, m_ne, m_ne', k_mltT, k_mltF, k_mleT, k_mleF, k_meqT, k_meqF, m_neg]
      · simp (disch := omega) only [↓ob_some, ↓zm_some, ↓zm_none, ↓zg_true, ↓zg_in, ↓(ob_of b), ↓(ob_of bw), M_X12_next_B30, reduceIte, li, lo, k_leT, k_leF, k_ltT, k_ltF, k_eqT, k_eqF, c_cl, c_sub, nI_add, pk_mul, zin_nI, zg_true, ob_some, zm_none, zm_some, if_true, if_false, Bool.false_eq_true, d_t, d_f, ob_eta, ob_eta1, m_ltn, m_nlt, m_nle, m_len, m_ne, m_ne', k_mltT, k_mltF, k_mleT, k_mleF, k_meqT, k_meqF, m_neg]
  · obtain ⟨S1, f1, f2, f3, f4⟩ := l_findFits (pk := pk) (s := s) (u := uv S s) (n := n) (e := e) h.l h.k (by omega) n8 (fun S' f j hj => ia S' (f.sc (by omega)) (f.lo (by omega)) j (by omega))
    have i1 : Inv pk S1 d := h.mv0 f2 (fun k q => by unfold zIr; omega)
    have t1 : zar S1 1 = zar S 1 := f2.ar (by omega)
    have t2 : zar S1 2 = zar S 2 := f2.ar (by omega)
    have t3 : zlo S1 3 = zlo S 3 := f2.lo (by omega)
    have nt := nt S1 t1 t2
    have we := we S1
    have hu : ∀ j, j < n → uv S1 s j = uv S s j := fun j hj => by unfold uv; rw [t3]
    obtain ⟨ft, -⟩ := r_fitting i1.r h.k (e := e) (n := n) (s := s) (u := uv S s) (by omega) n8 hs hu
    have hb_ := l_best i1 f3 (sFL_mem d (uv S s) n e) f4 n8
    by_cases two : (sFL d (uv S s) n e).length < 2
    · refine ⟨-nI 1, S1, S1, by simp (disch := omega) only [↓ob_some, ↓zm_some, ↓zm_none, ↓zg_true, ↓zg_in, ↓(ob_of a1), ↓(zg_of z1), ↓(ob_of r0), ↓(ob_of f1), reduceIte, li, lo, k_leT, k_leF, k_ltT, k_ltF, k_eqT, k_eqF, c_cl, c_sub, nI_add, pk_mul, zin_nI, zg_true, ob_some, zm_none, zm_some, if_true, if_false, Bool.false_eq_true, d_t, d_f, ob_eta, ob_eta1, m_ltn, m_nlt, m_nle, m_len, m_ne, m_ne', k_mltT, k_mltF, k_mleT, k_mleF, k_meqT, k_meqF, m_neg], ?_, d, i1⟩
      unfold M_X12_next
      by_cases n88 : n = 8
      · subst n88
        simp (disch := omega) only [↓ob_some, ↓zm_some, ↓zm_none, ↓zg_true, ↓zg_in, ↓(ob_of nt), ↓(ob_of we), M_X12_next_B30, reduceIte, li, lo, k_leT, k_leF, k_ltT, k_ltF, k_eqT, k_eqF, c_cl, c_sub, nI_add, pk_mul, zin_nI, zg_true, ob_some, zm_none, zm_some, if_true, if_false, Bool.false_eq_true, d_t, d_f, ob_eta, ob_eta1, m_ltn, m_nlt, m_nle, m_len, m_ne, m_ne', k_mltT, k_mltF, k_mleT, k_mleF, k_meqT, k_meqF, m_neg]
      · simp (disch := omega) only [↓ob_some, ↓zm_some, ↓zm_none, ↓zg_true, ↓zg_in, ↓(ob_of nt), ↓(ob_of we), M_X12_next_B30, ↓(ob_of ft), reduceIte, li, lo, k_leT, k_leF, k_ltT, k_ltF, k_eqT, k_eqF, c_cl, c_sub, nI_add, pk_mul, zin_nI, zg_true, ob_some, zm_none, zm_some, if_true, if_false, Bool.false_eq_true, d_t, d_f, ob_eta, ob_eta1, m_ltn, m_nlt, m_nle, m_len, m_ne, m_ne', k_mltT, k_mltF, k_mleT, k_mleF, k_meqT, k_meqF, m_neg]
    · by_cases n88 : n = 8
      · subst n88
        refine ⟨-nI 1, S1, S1, by simp (disch := omega) only [↓ob_some, ↓zm_some, ↓zm_none, ↓zg_true, ↓zg_in, ↓(ob_of a1), ↓(zg_of z1), ↓(ob_of r0), ↓(ob_of f1), ↓(ob_of hb_), reduceIte, li, lo, k_leT, k_leF, k_ltT, k_ltF, k_eqT, k_eqF, c_cl, c_sub, nI_add, pk_mul, zin_nI, zg_true, ob_some, zm_none, zm_some, if_true, if_false, Bool.false_eq_true, d_t, d_f, ob_eta, ob_eta1, m_ltn, m_nlt, m_nle, m_len, m_ne, m_ne', k_mltT, k_mltF, k_mleT, k_mleF, k_meqT, k_meqF, m_neg]; rfl, ?_, d, i1⟩
        unfold M_X12_next
        simp (disch := omega) only [↓ob_some, ↓zm_some, ↓zm_none, ↓zg_true, ↓zg_in, ↓(ob_of nt), ↓(ob_of we), M_X12_next_B30, reduceIte, li, lo, k_leT, k_leF, k_ltT, k_ltF, k_eqT, k_eqF, c_cl, c_sub, nI_add, pk_mul, zin_nI, zg_true, ob_some, zm_none, zm_some, if_true, if_false, Bool.false_eq_true, d_t, d_f, ob_eta, ob_eta1, m_ltn, m_nlt, m_nle, m_len, m_ne, m_ne', k_mltT, k_mltF, k_mleT, k_mleF, k_meqT, k_meqF, m_neg]
      · have rn := r_next i1.r h.k (e := e) (n := n) (s := s) (u := uv S s) (by omega) (by omega) hs hu f4
        have eq : sFo (bS d (sFL d (uv S s) n e)) n (8 - n) (-nI 1, (sFL d (uv S s) n e).length + 1) = sFo (bS d (sFL d (uv S s) n e)) (n + 1) (7 - n) (nI n, wst d (sFL d (uv S s) n e) n) := by
          rw [show 8 - n = (7 - n) + 1 by omega]
          show sFo _ (n + 1) (7 - n) (bS d (sFL d (uv S s) n e) (-nI 1, (sFL d (uv S s) n e).length + 1) n) = _
          have := wst_le d (sFL d (uv S s) n e) n
          unfold bS
          rw [if_neg (by dsimp only; omega)]
        rw [eq] at hb_
        refine ⟨(sFo (bS d (sFL d (uv S s) n e)) (n + 1) (7 - n) (nI n, wst d (sFL d (uv S s) n e) n)).1, S1, S1, by simp (disch := omega) only [↓ob_some, ↓zm_some, ↓zm_none, ↓zg_true, ↓zg_in, ↓(ob_of a1), ↓(zg_of z1), ↓(ob_of r0), ↓(ob_of f1), ↓(ob_of hb_), reduceIte, li, lo, k_leT, k_leF, k_ltT, k_ltF, k_eqT, k_eqF, c_cl, c_sub, nI_add, pk_mul, zin_nI, zg_true, ob_some, zm_none, zm_some, if_true, if_false, Bool.false_eq_true, d_t, d_f, ob_eta, ob_eta1, m_ltn, m_nlt, m_nle, m_len, m_ne, m_ne', k_mltT, k_mltF, k_mleT, k_mleF, k_meqT, k_meqF, m_neg], ?_, d, i1⟩
        unfold M_X12_next
        simp (disch := omega) only [↓ob_some, ↓zm_some, ↓zm_none, ↓zg_true, ↓zg_in, ↓(ob_of nt), ↓(ob_of we), M_X12_next_B30, ↓(ob_of ft), reduceIte, li, lo, k_leT, k_leF, k_ltT, k_ltF, k_eqT, k_eqF, c_cl, c_sub, nI_add, pk_mul, zin_nI, zg_true, ob_some, zm_none, zm_some, if_true, if_false, Bool.false_eq_true, d_t, d_f, ob_eta, ob_eta1, m_ltn, m_nlt, m_nle, m_len, m_ne, m_ne', k_mltT, k_mltF, k_mleT, k_mleF, k_meqT, k_meqF, m_neg]
        exact rn
end NEX
