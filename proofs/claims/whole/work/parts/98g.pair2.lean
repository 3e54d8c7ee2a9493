theorem or0 : ∀ g, g < 64 → nI g ||| nI 0 = nI g := by decide +kernel
theorem pb_s (W : Nat → Nat → Nat) (o r g : Nat) : pb W o (r + 1) g = sFo (pbS (fun e => W (5 - r) e + (pb W o r (g ||| 2 ^ e)).1) (skp o g)) 0 6 ((pb W o r g).1, -nI 1) := rfl
theorem mq_hi {m k : Nat} (hm : m ≤ 6) (hk : k < 2147483648) (h : m ≤ k) : mq m < nI k := by
  cases m with
  | zero =>
    show -nI 1 < nI k
    rw [m_ltn (by decide) (by decide) hk]; trivial
  | succ m =>
    rw [← mq_s, c_lt (by omega) hk]; omega
theorem pb_opt (W : Nat → Nat → Nat) (o : Nat) (r g : Nat) : (pb W o r g).2 = -nI 1 ∨ ∃ e, e < 6 ∧ (pb W o r g).2 = nI e := by
  cases r with
  | zero => exact Or.inl rfl
  | succ r =>
    rw [pb_s]
    exact sFo_invB _ (fun (a : Nat × Int32) => a.2 = -nI 1 ∨ ∃ e, e < 6 ∧ a.2 = nI e) 6 (fun a i hi h => by
      unfold pbS
      split
      · exact h
      · split
        · exact Or.inr ⟨i, hi, rfl⟩
        · exact h) 6 0 _ (by decide) (Or.inl rfl)
def zBF (k : Nat) : Prop := 24 ≤ k ∧ k ≤ 34
section PA2
variable {P : Nat → Prop} {pk : Nat → Nat} {S S' T T' u : zSt} {p q c g e : Nat} {d : zD}
def hasR (d : zD) (p q : Nat) (S : zSt) : Prop := ∀ c, c < 6 → zar S 24 c = sHas d p (dle d) c ∧ zar S 25 c = sHas d q (dle d) c
def rowB (d : zD) (p q : Nat) (S : zSt) (c : Nat) : Prop := ∀ g, g < 64 → zar S (28 + c) g = nI (pb (WW d p q) (dou d q) (6 - c) g).1
theorem WW_le (d : zD) (p q c e : Nat) : WW d p q c e ≤ 63 := (bcN_e _).2
theorem l_bestWith (pk : Nat → Nat) (hh : hasR d p q S) (hr : rowB d p q S (c + 1)) (hc : c < 6) (hg : g < 64) (he : e < 6) : M_X11_bestWith pk S (nI c) (nI g) (nI e) = some (nI (WW d p q c e + (pb (WW d p q) (dou d q) (5 - c) (g ||| 2 ^ e)).1)) := by
  have h1 := (hh c hc).1
  have h2 := (hh e he).2
  have g6 := or_64 g hg e he
  have h3 := hr _ g6
  rw [show 6 - (c + 1) = 5 - c by omega] at h3
  have eb : bc (sHas d p (dle d) c &&& sHas d q (dle d) e) = nI (WW d p q c e) := (bcN_e _).1
  have ho := orI g hg e he
  unfold M_X11_bestWith
  simp (disch := omega) only [reduceIte, li, lo, k_leT, k_leF, k_ltT, k_ltF, k_eqT, k_eqF, c_cl, c_sub, nI_add, pk_mul, zin_nI, zg_true, ob_some, zm_none, zm_some, if_true, if_false, Bool.false_eq_true, d_t, d_f, ob_eta, ob_eta1, m_ltn, m_nlt, m_nle, m_len, m_ne, m_ne', k_mltT, k_mltF, k_mleT, k_mleF, k_meqT, k_meqF, m_neg, h1, h2, t_bc, eb, ho, h3]
theorem l_bestFrom (h : Lp pk S (6 * 0 + q) d q) (K : Kp d q) (hh : hasR d p q S) (hr : rowB d p q S (c + 1)) (hc : c < 6) (hg : g < 64) : M_X11_bestFrom pk S (6 * 0 + q) (nI c) (nI g) = some (nI (pb (WW d p q) (dou d q) (6 - c) g).1) := by
  have ho := K.o
  have h0 := hr g hg
  rw [show 6 - (c + 1) = 5 - c by omega] at h0
  have hb := fun e => pb_le (WW_le d p q) (dou d q) (5 - c) (g ||| 2 ^ e)
  have hb0 := pb_le (WW_le d p q) (dou d q) (5 - c) g
  have key := lpR (fun n (a : Int32) z => M_X11_bestFrom_B15 pk S (6 * 0 + q) n (nI c) (nI g) a z) (pbS (fun e => WW d p q c e + (pb (WW d p q) (dou d q) (5 - c) (g ||| 2 ^ e)).1) (skp (dou d q) g)) (fun z a b => a = nI b.1 ∧ b.1 ≤ 1000) (fun b o => o = some (nI b.1)) 6 (fun n a b hR => ?_) (fun n a b z hz hR => ?_) 6 0 zF (nI (pb (WW d p q) (dou d q) (5 - c) g).1) ((pb (WW d p q) (dou d q) (5 - c) g).1, -nI 1) ⟨rfl, by dsimp only; omega⟩ rfl (by decide)
  · have es : sFo (pbS (fun e => WW d p q c e + (pb (WW d p q) (dou d q) (5 - c) (g ||| 2 ^ e)).1) (skp (dou d q) g)) 0 6 ((pb (WW d p q) (dou d q) (5 - c) g).1, -nI 1) = pb (WW d p q) (dou d q) (6 - c) g := by
      rw [show 6 - c = (5 - c) + 1 by omega, pb_s, show 5 - (5 - c) = c by omega]
    rw [es] at key
    unfold M_X11_bestFrom
    simp (disch := omega) only [reduceIte, li, lo, k_leT, k_leF, k_ltT, k_ltF, k_eqT, k_eqF, c_cl, c_sub, nI_add, pk_mul, zin_nI, zg_true, ob_some, zm_none, zm_some, if_true, if_false, Bool.false_eq_true, d_t, d_f, ob_eta, ob_eta1, m_ltn, m_nlt, m_nle, m_len, m_ne, m_ne', k_mltT, k_mltF, k_mleT, k_mleF, k_meqT, k_meqF, m_neg, h0]
    exact key
  · obtain ⟨rfl, -⟩ := hR
    simp (disch := omega) only [reduceIte, li, lo, k_leT, k_leF, k_ltT, k_ltF, k_eqT, k_eqF, c_cl, c_sub, nI_add, pk_mul, zin_nI, zg_true, ob_some, zm_none, zm_some, if_true, if_false, Bool.false_eq_true, d_t, d_f, ob_eta, ob_eta1, m_ltn, m_nlt, m_nle, m_len, m_ne, m_ne', k_mltT, k_mltF, k_mleT, k_mleF, k_meqT, k_meqF, m_neg, M_X11_bestFrom_B15]
  · obtain ⟨rfl, b1⟩ := hR
    have il := l_isLeft h ho hz
    have sh := shI g hg z hz
    have bw := l_bestWith pk hh hr hc hg hz
    have w1 := WW_le d p q c z
    have w2 := hb z
    unfold pbS
    by_cases o : z < dou d q
    · rw [if_pos o] at il
      rw [if_pos (show skp (dou d q) g z = true by unfold skp; rw [decide_eq_true o]; rfl)]
      exact ⟨nI b.1, ⟨rfl, b1⟩, by rw [M_X11_bestFrom_B15]; simp (disch := omega) only [↓ob_some, ↓zm_some, ↓zm_none, ↓zg_true, ↓zg_in, ↓(ob_of il), reduceIte, li, lo, k_leT, k_leF, k_ltT, k_ltF, k_eqT, k_eqF, c_cl, c_sub, nI_add, pk_mul, zin_nI, zg_true, ob_some, zm_none, zm_some, if_true, if_false, Bool.false_eq_true, d_t, d_f, ob_eta, ob_eta1, m_ltn, m_nlt, m_nle, m_len, m_ne, m_ne', k_mltT, k_mltF, k_mleT, k_mleF, k_meqT, k_meqF, m_neg]⟩
    · rw [if_neg o] at il
      by_cases bt : g / 2 ^ z % 2 = 1
      · rw [if_pos (show skp (dou d q) g z = true by unfold skp; rw [decide_eq_true bt, Bool.or_true])]
        rw [bt] at sh
        exact ⟨nI b.1, ⟨rfl, b1⟩, by rw [M_X11_bestFrom_B15]; simp (disch := omega) only [↓ob_some, ↓zm_some, ↓zm_none, ↓zg_true, ↓zg_in, ↓(ob_of il), sh, reduceIte, li, lo, k_leT, k_leF, k_ltT, k_ltF, k_eqT, k_eqF, c_cl, c_sub, nI_add, pk_mul, zin_nI, zg_true, ob_some, zm_none, zm_some, if_true, if_false, Bool.false_eq_true, d_t, d_f, ob_eta, ob_eta1, m_ltn, m_nlt, m_nle, m_len, m_ne, m_ne', k_mltT, k_mltF, k_mleT, k_mleF, k_meqT, k_meqF, m_neg]⟩
      · have b0 : g / 2 ^ z % 2 = 0 := by omega
        rw [b0] at sh
        rw [if_neg (show ¬ skp (dou d q) g z = true by unfold skp; rw [decide_eq_false bt, decide_eq_false o]; exact Bool.false_ne_true)]
        obtain ⟨v, hv⟩ : ∃ v, v = WW d p q c z + (pb (WW d p q) (dou d q) (5 - c) (g ||| 2 ^ z)).1 := ⟨_, rfl⟩
        show ∃ a', (a' = nI (if b.1 < WW d p q c z + (pb (WW d p q) (dou d q) (5 - c) (g ||| 2 ^ z)).1 then (WW d p q c z + (pb (WW d p q) (dou d q) (5 - c) (g ||| 2 ^ z)).1, nI z) else b).1 ∧ (if b.1 < WW d p q c z + (pb (WW d p q) (dou d q) (5 - c) (g ||| 2 ^ z)).1 then (WW d p q c z + (pb (WW d p q) (dou d q) (5 - c) (g ||| 2 ^ z)).1, nI z) else b).1 ≤ 1000) ∧ _
        have w3 : v ≤ 900 := by omega
        rw [← hv] at bw
        simp only [← hv]
        clear hv
        by_cases lt : b.1 < v
        · rw [if_pos lt]
          refine ⟨nI v, ⟨rfl, by dsimp only; omega⟩, ?_⟩
          rw [M_X11_bestFrom_B15]
          simp (disch := omega) only [↓ob_some, ↓zm_some, ↓zm_none, ↓zg_true, ↓zg_in, ↓(ob_of il), sh, ↓(ob_of bw), reduceIte, li, lo, k_leT, k_leF, k_ltT, k_ltF, k_eqT, k_eqF, c_cl, c_sub, nI_add, pk_mul, zin_nI, zg_true, ob_some, zm_none, zm_some, if_true, if_false, Bool.false_eq_true, d_t, d_f, ob_eta, ob_eta1, m_ltn, m_nlt, m_nle, m_len, m_ne, m_ne', k_mltT, k_mltF, k_mleT, k_mleF, k_meqT, k_meqF, m_neg]
        · rw [if_neg lt]
          refine ⟨nI b.1, ⟨rfl, b1⟩, ?_⟩
          rw [M_X11_bestFrom_B15]
          simp (disch := omega) only [↓ob_some, ↓zm_some, ↓zm_none, ↓zg_true, ↓zg_in, ↓(ob_of il), sh, ↓(ob_of bw), reduceIte, li, lo, k_leT, k_leF, k_ltT, k_ltF, k_eqT, k_eqF, c_cl, c_sub, nI_add, pk_mul, zin_nI, zg_true, ob_some, zm_none, zm_some, if_true, if_false, Bool.false_eq_true, d_t, d_f, ob_eta, ob_eta1, m_ltn, m_nlt, m_nle, m_len, m_ne, m_ne', k_mltT, k_mltF, k_mleT, k_mleF, k_meqT, k_meqF, m_neg]
theorem l_firstBest (h : Lp pk S (6 * 0 + q) d q) (K : Kp d q) (hh : hasR d p q S) (hr0 : rowB d p q S c) (hr : rowB d p q S (c + 1)) (hc : c < 6) (hg : g < 64) : M_X11_firstBest pk S (6 * 0 + q) (nI c) (nI g) = some (pb (WW d p q) (dou d q) (6 - c) g).2 := by
  have ho := K.o
  have h0 := hr g hg
  rw [show 6 - (c + 1) = 5 - c by omega] at h0
  have h1 := hr0 g hg
  have l0 := pb_le (WW_le d p q) (dou d q) (5 - c) g
  have l1 := pb_le (WW_le d p q) (dou d q) (6 - c) g
  have hb := fun e => pb_le (WW_le d p q) (dou d q) (5 - c) (g ||| 2 ^ e)
  have pf := (pbS_first (fun e => WW d p q c e + (pb (WW d p q) (dou d q) (5 - c) (g ||| 2 ^ e)).1) (skp (dou d q) g) 6 0 ((pb (WW d p q) (dou d q) (5 - c) g).1, -nI 1)).2
  have es : sFo (pbS (fun e => WW d p q c e + (pb (WW d p q) (dou d q) (5 - c) (g ||| 2 ^ e)).1) (skp (dou d q) g)) 0 6 ((pb (WW d p q) (dou d q) (5 - c) g).1, -nI 1) = pb (WW d p q) (dou d q) (6 - c) g := by
    rw [show 6 - c = (5 - c) + 1 by omega, pb_s, show 5 - (5 - c) = c by omega]
  rw [es] at pf
  dsimp only at pf
  rw [pf]
  generalize hM : (pb (WW d p q) (dou d q) (6 - c) g).1 = M at *
  have go : ∀ m n i, i + m = 6 → m < n → M_X11_firstBest_B30 pk S (6 * 0 + q) n (nI c) (nI g) (nI M) (nI i) = some (fst1 (fun e => WW d p q c e + (pb (WW d p q) (dou d q) (5 - c) (g ||| 2 ^ e)).1) (skp (dou d q) g) M i m) := by
    intro m
    induction m with
    | zero =>
      intro n i h1 h2
      obtain ⟨n, rfl⟩ : ∃ r, n = r + 1 := ⟨n - 1, by omega⟩
      obtain rfl : i = 6 := by omega
      unfold fst1
      simp (disch := omega) only [reduceIte, li, lo, k_leT, k_leF, k_ltT, k_ltF, k_eqT, k_eqF, c_cl, c_sub, nI_add, pk_mul, zin_nI, zg_true, ob_some, zm_none, zm_some, if_true, if_false, Bool.false_eq_true, d_t, d_f, ob_eta, ob_eta1, m_ltn, m_nlt, m_nle, m_len, m_ne, m_ne', k_mltT, k_mltF, k_mleT, k_mleF, k_meqT, k_meqF, m_neg, M_X11_firstBest_B30]
    | succ m ih =>
      intro n i h1 h2
      obtain ⟨n, rfl⟩ : ∃ r, n = r + 1 := ⟨n - 1, by omega⟩
      have ih := ih n (i + 1) (by omega) (by omega)
      have hz : i < 6 := by omega
      have il := l_isLeft h ho hz
      have sh := shI g hg i hz
      have bw := l_bestWith pk hh hr hc hg hz
      have w1 := WW_le d p q c i
      have w2 := hb i
      unfold fst1
      by_cases o : i < dou d q
      · rw [if_pos o] at il
        rw [if_pos (show skp (dou d q) g i = true by unfold skp; rw [decide_eq_true o]; rfl), M_X11_firstBest_B30]
        simp (disch := omega) only [↓ob_some, ↓zm_some, ↓zm_none, ↓zg_true, ↓zg_in, ↓(ob_of il), reduceIte, li, lo, k_leT, k_leF, k_ltT, k_ltF, k_eqT, k_eqF, c_cl, c_sub, nI_add, pk_mul, zin_nI, zg_true, ob_some, zm_none, zm_some, if_true, if_false, Bool.false_eq_true, d_t, d_f, ob_eta, ob_eta1, m_ltn, m_nlt, m_nle, m_len, m_ne, m_ne', k_mltT, k_mltF, k_mleT, k_mleF, k_meqT, k_meqF, m_neg]
        exact ih
      · rw [if_neg o] at il
        by_cases bt : g / 2 ^ i % 2 = 1
        · rw [if_pos (show skp (dou d q) g i = true by unfold skp; rw [decide_eq_true bt, Bool.or_true]), M_X11_firstBest_B30]
          rw [bt] at sh
          simp (disch := omega) only [↓ob_some, ↓zm_some, ↓zm_none, ↓zg_true, ↓zg_in, ↓(ob_of il), sh, reduceIte, li, lo, k_leT, k_leF, k_ltT, k_ltF, k_eqT, k_eqF, c_cl, c_sub, nI_add, pk_mul, zin_nI, zg_true, ob_some, zm_none, zm_some, if_true, if_false, Bool.false_eq_true, d_t, d_f, ob_eta, ob_eta1, m_ltn, m_nlt, m_nle, m_len, m_ne, m_ne', k_mltT, k_mltF, k_mleT, k_mleF, k_meqT, k_meqF, m_neg]
          exact ih
        · have b0 : g / 2 ^ i % 2 = 0 := by omega
          rw [b0] at sh
          rw [if_neg (show ¬ skp (dou d q) g i = true by unfold skp; rw [decide_eq_false bt, decide_eq_false o]; exact Bool.false_ne_true)]
          obtain ⟨v, hv⟩ : ∃ v, WW d p q c i + (pb (WW d p q) (dou d q) (5 - c) (g ||| 2 ^ i)).1 = v := ⟨_, rfl⟩
          rw [hv] at bw ⊢
          by_cases eq : v = M
          · rw [if_pos eq, M_X11_firstBest_B30]
            simp (disch := omega) only [↓ob_some, ↓zm_some, ↓zm_none, ↓zg_true, ↓zg_in, ↓(ob_of il), sh, ↓(ob_of bw), reduceIte, li, lo, k_leT, k_leF, k_ltT, k_ltF, k_eqT, k_eqF, c_cl, c_sub, nI_add, pk_mul, zin_nI, zg_true, ob_some, zm_none, zm_some, if_true, if_false, Bool.false_eq_true, d_t, d_f, ob_eta, ob_eta1, m_ltn, m_nlt, m_nle, m_len, m_ne, m_ne', k_mltT, k_mltF, k_mleT, k_mleF, k_meqT, k_meqF, m_neg]
          · rw [if_neg eq, M_X11_firstBest_B30]
            simp (disch := omega) only [↓ob_some, ↓zm_some, ↓zm_none, ↓zg_true, ↓zg_in, ↓(ob_of il), sh, ↓(ob_of bw), reduceIte, li, lo, k_leT, k_leF, k_ltT, k_ltF, k_eqT, k_eqF, c_cl, c_sub, nI_add, pk_mul, zin_nI, zg_true, ob_some, zm_none, zm_some, if_true, if_false, Bool.false_eq_true, d_t, d_f, ob_eta, ob_eta1, m_ltn, m_nlt, m_nle, m_len, m_ne, m_ne', k_mltT, k_mltF, k_mleT, k_mleF, k_meqT, k_meqF, m_neg]
            exact ih
  have go := go 6 zF 0 rfl (by decide)
  unfold M_X11_firstBest
  by_cases eq : M = (pb (WW d p q) (dou d q) (5 - c) g).1
  · rw [if_pos eq]
    have eq' : (pb (WW d p q) (dou d q) (5 - c) g).1 = M := eq.symm
    simp (disch := omega) only [reduceIte, li, lo, k_leT, k_leF, k_ltT, k_ltF, k_eqT, k_eqF, c_cl, c_sub, nI_add, pk_mul, zin_nI, zg_true, ob_some, zm_none, zm_some, if_true, if_false, Bool.false_eq_true, d_t, d_f, ob_eta, ob_eta1, m_ltn, m_nlt, m_nle, m_len, m_ne, m_ne', k_mltT, k_mltF, k_mleT, k_mleF, k_meqT, k_meqF, m_neg, h0, h1]
  · rw [if_neg eq]
    have eq' : ¬ (pb (WW d p q) (dou d q) (5 - c) g).1 = M := fun z => eq z.symm
    simp (disch := omega) only [reduceIte, li, lo, k_leT, k_leF, k_ltT, k_ltF, k_eqT, k_eqF, c_cl, c_sub, nI_add, pk_mul, zin_nI, zg_true, ob_some, zm_none, zm_some, if_true, if_false, Bool.false_eq_true, d_t, d_f, ob_eta, ob_eta1, m_ltn, m_nlt, m_nle, m_len, m_ne, m_ne', k_mltT, k_mltF, k_mleT, k_mleF, k_meqT, k_meqF, m_neg, h0, h1]
    exact go
theorem l_table (h : LL 0 pk S d) (K : KK d) (hp : p < dn d) (hq : q < dn d) : ∀ (k n : Nat) (u : zSt), k ≤ 6 → dou d p ≤ k → k < n → zFr zBF S u → hasR d p q u → (∀ c, k ≤ c → c ≤ 6 → rowB d p q u c) → ∃ S', M_X11_pairBest_B66 pk (6 * 0 + p) (6 * 0 + q) n u (nI (pb (WW d p q) (dou d q) (6 - k) 0).1) (mq k) = M_X11_pairBest_B131 pk (6 * 0 + p) (6 * 0 + q) S' (nI (pb (WW d p q) (dou d q) (6 - dou d p) 0).1) ∧ zFr zBF S S' ∧ hasR d p q S' ∧ ∀ c, dou d p ≤ c → c ≤ 6 → rowB d p q S' c := by
  have hn6 := K.1
  intro k
  induction k with
  | zero =>
    intro n u _ hk hn f hh hr
    obtain ⟨n, rfl⟩ : ∃ r, n = r + 1 := ⟨n - 1, by omega⟩
    have o0 : dou d p = 0 := by omega
    refine ⟨u, ?_, f, hh, fun c a b => hr c (by omega) b⟩
    rw [M_X11_pairBest_B66, if_pos (show mq 0 < 0 by decide), o0]
  | succ k ih =>
    intro n u hk6 hk hn f hh hr
    obtain ⟨n, rfl⟩ : ∃ r, n = r + 1 := ⟨n - 1, by omega⟩
    have hL : LL 0 pk u d := h.fr hn6 f (by unfold zBF; omega) (fun k a b => by unfold zBF; omega)
    have il := l_isLeft (hL.pe hp) (K.pe hp).o (show k < 6 by omega)
    rw [← mq_s]
    by_cases o : k < dou d p
    · rw [if_pos o] at il
      have ok : dou d p = k + 1 := by omega
      refine ⟨u, ?_, f, hh, fun c a b => hr c (by omega) b⟩
      rw [M_X11_pairBest_B66, ok]
      simp (disch := omega) only [↓ob_some, ↓zm_some, ↓zm_none, ↓zg_true, ↓zg_in, ↓(ob_of il), reduceIte, li, lo, k_leT, k_leF, k_ltT, k_ltF, k_eqT, k_eqF, c_cl, c_sub, nI_add, pk_mul, zin_nI, zg_true, ob_some, zm_none, zm_some, if_true, if_false, Bool.false_eq_true, d_t, d_f, ob_eta, ob_eta1, m_ltn, m_nlt, m_nle, m_len, m_ne, m_ne', k_mltT, k_mltF, k_mleT, k_mleF, k_meqT, k_meqF, m_neg]
    · rw [if_neg o] at il
      have rk1 := hr (k + 1) (Nat.le_refl _) (by omega)
      have inner : ∀ K' : zSt → Int32 → Int32 → Option (Int32 × zSt), ∃ S', M_X11_pairBest_B83 pk (6 * 0 + p) (6 * 0 + q) K' zF u (nI k) (nI 0) = K' S' (nI (pb (WW d p q) (dou d q) (6 - k) 0).1) (mq k) ∧ zFr (fun y => y = 28 + k) u S' ∧ rowB d p q S' k := by
        intro K'
        refine lpR (fun n (v : zSt) y => M_X11_pairBest_B83 pk (6 * 0 + p) (6 * 0 + q) K' n v (nI k) y) (fun (w : Unit) _ => w) (fun y v _ => zFr (fun y => y = 28 + k) u v ∧ ∀ g, g < y → zar v (28 + k) g = nI (pb (WW d p q) (dou d q) (6 - k) g).1) (fun _ o => ∃ S', o = K' S' (nI (pb (WW d p q) (dou d q) (6 - k) 0).1) (mq k) ∧ zFr (fun y => y = 28 + k) u S' ∧ rowB d p q S' k) 64 (fun n v _ hR => ?_) (fun n v _ y hy hR => ?_) 64 0 zF u () ⟨zFr.rf, fun g hg => absurd hg (Nat.not_lt_zero _)⟩ rfl (by decide)
        · refine ⟨v, ?_, hR.1, hR.2⟩
          have e0 := hR.2 0 (by decide)
          have em : nI k + -nI 1 = mq k := (Int32.sub_eq_add_neg _ _).symm
          simp (disch := omega) only [reduceIte, li, lo, k_leT, k_leF, k_ltT, k_ltF, k_eqT, k_eqF, c_cl, c_sub, nI_add, pk_mul, zin_nI, zg_true, ob_some, zm_none, zm_some, if_true, if_false, Bool.false_eq_true, d_t, d_f, ob_eta, ob_eta1, m_ltn, m_nlt, m_nle, m_len, m_ne, m_ne', k_mltT, k_mltF, k_mleT, k_mleF, k_meqT, k_meqF, m_neg, M_X11_pairBest_B83, e0, em]
        · have fv : zFr zBF S v := f.trans (hR.1.mono (fun z e => by unfold zBF; omega))
          have hLv : LL 0 pk v d := h.fr hn6 fv (by unfold zBF; omega) (fun k a b => by unfold zBF; omega)
          have hhv : hasR d p q v := fun c hc => by
            rw [hR.1.ar (by omega), hR.1.ar (by omega)]; exact hh c hc
          have hrv : rowB d p q v (k + 1) := fun g hg => by rw [hR.1.ar (by omega)]; exact rk1 g hg
          have bf := l_bestFrom (hLv.pe hq) (K.pe hq) hhv hrv (show k < 6 by omega) hy
          refine ⟨zAs v (28 + k) y (nI (pb (WW d p q) (dou d q) (6 - k) y).1), ⟨hR.1.trans (zFr_As rfl), fun g hg => ?_⟩, ?_⟩
          · rw [as_y, upd_a]
            by_cases e : g = y
            · rw [if_pos e, e]
            · rw [if_neg e]; exact hR.2 g (by omega)
          · simp (disch := omega) only [reduceIte, li, lo, k_leT, k_leF, k_ltT, k_ltF, k_eqT, k_eqF, c_cl, c_sub, nI_add, pk_mul, zin_nI, zg_true, ob_some, zm_none, zm_some, if_true, if_false, Bool.false_eq_true, d_t, d_f, ob_eta, ob_eta1, m_ltn, m_nlt, m_nle, m_len, m_ne, m_ne', k_mltT, k_mltF, k_mleT, k_mleF, k_meqT, k_meqF, m_neg, M_X11_pairBest_B83, bf]
      obtain ⟨S1, e1, f1, r1⟩ := inner (fun S_ x3_ x4_ => M_X11_pairBest_B66 pk (6 * 0 + p) (6 * 0 + q) n S_ x3_ x4_)
      obtain ⟨S2, e2, f2, g2, r2⟩ := ih n S1 (by omega) (by omega) (by omega) (f.trans (f1.mono (fun z e => by unfold zBF; omega))) (fun c hc => by
        rw [f1.ar (by omega), f1.ar (by omega)]; exact hh c hc) (fun c a b => by
        by_cases e : c = k
        · subst e; exact r1
        · intro g hg
          rw [f1.ar (by omega)]; exact hr c (by omega) b g hg)
      refine ⟨S2, ?_, f2, g2, r2⟩
      rw [← e2, M_X11_pairBest_B66]
      simp (disch := omega) only [↓ob_some, ↓zm_some, ↓zm_none, ↓zg_true, ↓zg_in, ↓(ob_of il), reduceIte, li, lo, k_leT, k_leF, k_ltT, k_ltF, k_eqT, k_eqF, c_cl, c_sub, nI_add, pk_mul, zin_nI, zg_true, ob_some, zm_none, zm_some, if_true, if_false, Bool.false_eq_true, d_t, d_f, ob_eta, ob_eta1, m_ltn, m_nlt, m_nle, m_len, m_ne, m_ne', k_mltT, k_mltF, k_mleT, k_mleF, k_meqT, k_meqF, m_neg]
      exact e1
theorem l_pairBest (h : LL 0 pk S d) (K : KK d) (hp : p < dn d) (hq : q < dn d) (hle : zsc S 60 4 = dle d) : ∃ S', M_X11_pairBest pk S (6 * 0 + p) (6 * 0 + q) = some (nI (pb (WW d p q) (dou d q) (6 - dou d p) 0).1, S') ∧ zFr zBF S S' ∧ ∀ j, j < 6 → zar S' 26 j = if j < dou d p then -nI 1 else grd (WW d p q) (dou d q) (6 - dou d p) 0 j := by
  have hn6 := K.1
  have ho := (K.pe hp).o
  have last : ∀ u, zFr zBF S u → hasR d p q u → (∀ c, dou d p ≤ c → c ≤ 6 → rowB d p q u c) → ∃ S', M_X11_pairBest_B131 pk (6 * 0 + p) (6 * 0 + q) u (nI (pb (WW d p q) (dou d q) (6 - dou d p) 0).1) = some (nI (pb (WW d p q) (dou d q) (6 - dou d p) 0).1, S') ∧ zFr zBF S S' ∧ ∀ j, j < 6 → zar S' 26 j = if j < dou d p then -nI 1 else grd (WW d p q) (dou d q) (6 - dou d p) 0 j := by
    intro u f hh hr
    unfold M_X11_pairBest_B131
    refine lpR (fun n (a : zSt × Int32) z => M_X11_pairBest_B137 pk (6 * 0 + p) (6 * 0 + q) n a.1 (nI (pb (WW d p q) (dou d q) (6 - dou d p) 0).1) a.2 z) (fun (w : Unit) _ => w) (fun z a _ => zFr (fun k => k = 26) u a.1 ∧ (∀ j, j < z → zar a.1 26 j = if j < dou d p then -nI 1 else grd (WW d p q) (dou d q) (6 - dou d p) 0 j) ∧ ∃ g, g < 64 ∧ a.2 = nI g ∧ (z ≤ dou d p → g = 0) ∧ (dou d p ≤ z → ∀ j, z ≤ j → j < 6 → grd (WW d p q) (dou d q) (6 - dou d p) 0 j = grd (WW d p q) (dou d q) (6 - z) g j)) (fun _ o => ∃ S', o = some (nI (pb (WW d p q) (dou d q) (6 - dou d p) 0).1, S') ∧ zFr zBF S S' ∧ ∀ j, j < 6 → zar S' 26 j = if j < dou d p then -nI 1 else grd (WW d p q) (dou d q) (6 - dou d p) 0 j) 6 (fun n a _ hR => ?_) (fun n a _ z hz hR => ?_) 6 0 zF (u, nI 0) () ⟨zFr.rf, fun j hj => absurd hj (Nat.not_lt_zero _), 0, by decide, rfl, fun _ => rfl, fun hz j a b => ?_⟩ rfl (by decide)
    · obtain ⟨f1, g1, -⟩ := hR
      exact ⟨a.1, by simp (disch := omega) only [reduceIte, li, lo, k_leT, k_leF, k_ltT, k_ltF, k_eqT, k_eqF, c_cl, c_sub, nI_add, pk_mul, zin_nI, zg_true, ob_some, zm_none, zm_some, if_true, if_false, Bool.false_eq_true, d_t, d_f, ob_eta, ob_eta1, m_ltn, m_nlt, m_nle, m_len, m_ne, m_ne', k_mltT, k_mltF, k_mleT, k_mleF, k_meqT, k_meqF, m_neg, M_X11_pairBest_B137], f.trans (f1.mono (fun z e => by unfold zBF; omega)), g1⟩
    · obtain ⟨f1, g1, g, hg, e2, z0, z1⟩ := hR
      have fa : zFr zBF S a.1 := f.trans (f1.mono (fun z e => by unfold zBF; omega))
      have hLa : LL 0 pk a.1 d := h.fr hn6 fa (by unfold zBF; omega) (fun k a b => by unfold zBF; omega)
      have il := l_isLeft (hLa.pe hp) ho hz
      show ∃ a' : zSt × Int32, _ ∧ M_X11_pairBest_B137 pk (6 * 0 + p) (6 * 0 + q) (n + 1) a.1 (nI (pb (WW d p q) (dou d q) (6 - dou d p) 0).1) a.2 (nI z) = M_X11_pairBest_B137 pk (6 * 0 + p) (6 * 0 + q) n a'.1 (nI (pb (WW d p q) (dou d q) (6 - dou d p) 0).1) a'.2 (nI (z + 1))
      by_cases o : z < dou d p
      · rw [if_pos o] at il
        have g0 := z0 (by omega)
        subst g0
        refine ⟨(zAs a.1 26 z (-nI 1), nI 0), ⟨f1.trans (zFr_As rfl), fun j hj => ?_, 0, by decide, rfl, fun _ => rfl, fun x j y1 y2 => ?_⟩, ?_⟩
        · rw [as_y, upd_a]
          by_cases e : j = z
          · rw [if_pos e, if_pos (by omega)]
          · rw [if_neg e]; exact g1 j (by omega)
        · rw [show 6 - (z + 1) = 6 - dou d p by omega]
        · have o0 := or0 0 (by decide)
          rw [M_X11_pairBest_B137, e2]
          simp (disch := omega) only [↓ob_some, ↓zm_some, ↓zm_none, ↓zg_true, ↓zg_in, ↓(ob_of il), M_X11_pairBest_B166, M_X11_pairBest_B193, o0, reduceIte, li, lo, k_leT, k_leF, k_ltT, k_ltF, k_eqT, k_eqF, c_cl, c_sub, nI_add, pk_mul, zin_nI, zg_true, ob_some, zm_none, zm_some, if_true, if_false, Bool.false_eq_true, d_t, d_f, ob_eta, ob_eta1, m_ltn, m_nlt, m_nle, m_len, m_ne, m_ne', k_mltT, k_mltF, k_mleT, k_mleF, k_meqT, k_meqF, m_neg]
      · rw [if_neg o] at il
        have hha : hasR d p q a.1 := fun c hc => by
          rw [f1.ar (by omega), f1.ar (by omega)]; exact hh c hc
        have hra : ∀ c, dou d p ≤ c → c ≤ 6 → rowB d p q a.1 c := fun c x y g hg => by
          rw [f1.ar (by omega)]; exact hr c x y g hg
        have fb := l_firstBest (hLa.pe hq) (K.pe hq) hha (hra z (by omega) (by omega)) (hra (z + 1) (by omega) (by omega)) hz hg
        have gz := z1 (by omega)
        have k1 : 6 - z = (5 - z) + 1 := by omega
        have gr0 : grd (WW d p q) (dou d q) (6 - dou d p) 0 z = (pb (WW d p q) (dou d q) (6 - z) g).2 := by
          rw [gz z (Nat.le_refl _) hz, k1]
          show (if z = 5 - (5 - z) then _ else _) = _
          rw [if_pos (by omega)]
        have gr1 : ∀ j, z + 1 ≤ j → j < 6 → grd (WW d p q) (dou d q) (6 - dou d p) 0 j = grd (WW d p q) (dou d q) (6 - (z + 1)) (nxg g (pb (WW d p q) (dou d q) (6 - z) g).2) j := fun j y1 y2 => by
          rw [gz j (by omega) y2, k1, show 6 - (z + 1) = 5 - z by omega]
          show (if j = 5 - (5 - z) then _ else _) = _
          rw [if_neg (by omega)]
        rcases pb_opt (WW d p q) (dou d q) (6 - z) g with eo | ⟨e, he, eo⟩
        · rw [eo] at fb gr0 gr1
          refine ⟨(zAs a.1 26 z (-nI 1), nI g), ⟨f1.trans (zFr_As rfl), fun j hj => ?_, g, hg, rfl, fun x => by omega, fun x j y1 y2 => ?_⟩, ?_⟩
          · rw [as_y, upd_a]
            by_cases e : j = z
            · rw [if_pos e, if_neg (by omega), e, gr0]
            · rw [if_neg e]; exact g1 j (by omega)
          · rw [gr1 j y1 y2]; unfold nxg; rw [if_pos rfl]
          · have o0 := or0 g hg
            rw [M_X11_pairBest_B137, e2]
            simp (disch := omega) only [↓ob_some, ↓zm_some, ↓zm_none, ↓zg_true, ↓zg_in, ↓(ob_of il), ↓(ob_of fb), M_X11_pairBest_B166, M_X11_pairBest_B193, o0, reduceIte, li, lo, k_leT, k_leF, k_ltT, k_ltF, k_eqT, k_eqF, c_cl, c_sub, nI_add, pk_mul, zin_nI, zg_true, ob_some, zm_none, zm_some, if_true, if_false, Bool.false_eq_true, d_t, d_f, ob_eta, ob_eta1, m_ltn, m_nlt, m_nle, m_len, m_ne, m_ne', k_mltT, k_mltF, k_mleT, k_mleF, k_meqT, k_meqF, m_neg]
        · rw [eo] at fb gr0 gr1
          have g6 := or_64 g hg e he
          refine ⟨(zAs a.1 26 z (nI e), nI (g ||| 2 ^ e)), ⟨f1.trans (zFr_As rfl), fun j hj => ?_, g ||| 2 ^ e, g6, rfl, fun x => by omega, fun x j y1 y2 => ?_⟩, ?_⟩
          · rw [as_y, upd_a]
            by_cases e3 : j = z
            · rw [if_pos e3, if_neg (by omega), e3, gr0]
            · rw [if_neg e3]; exact g1 j (by omega)
          · rw [gr1 j y1 y2]; unfold nxg
            rw [if_neg (by rw [m_ne (by decide) (by decide) (by omega)]; exact id), c_cl (by omega)]
          · have o1 := orI g hg e he
            rw [M_X11_pairBest_B137, e2]
            simp (disch := omega) only [↓ob_some, ↓zm_some, ↓zm_none, ↓zg_true, ↓zg_in, ↓(ob_of il), ↓(ob_of fb), M_X11_pairBest_B166, M_X11_pairBest_B193, o1, reduceIte, li, lo, k_leT, k_leF, k_ltT, k_ltF, k_eqT, k_eqF, c_cl, c_sub, nI_add, pk_mul, zin_nI, zg_true, ob_some, zm_none, zm_some, if_true, if_false, Bool.false_eq_true, d_t, d_f, ob_eta, ob_eta1, m_ltn, m_nlt, m_nle, m_len, m_ne, m_ne', k_mltT, k_mltF, k_mleT, k_mleF, k_meqT, k_meqF, m_neg]
    · rw [show dou d p = 0 by omega]
  have key := lpR (fun n (u : zSt) z => M_X11_pairBest_B2 pk (6 * 0 + p) (6 * 0 + q) n u z) (fun (w : Unit) _ => w) (fun z u _ => zFr zBF S u ∧ ∀ c, c < z → zar u 24 c = sHas d p (dle d) c ∧ zar u 25 c = sHas d q (dle d) c) (fun _ o => ∃ S', o = some (nI (pb (WW d p q) (dou d q) (6 - dou d p) 0).1, S') ∧ zFr zBF S S' ∧ ∀ j, j < 6 → zar S' 26 j = if j < dou d p then -nI 1 else grd (WW d p q) (dou d q) (6 - dou d p) 0 j) 6 (fun n u _ hR => ?_) (fun n u _ z hz hR => ?_) 6 0 zF S () ⟨zFr.rf, fun c hc => absurd hc (Nat.not_lt_zero _)⟩ rfl (by decide)
  · exact key
  · obtain ⟨S1, e1, f1, r1⟩ := l_fillI (28 + 6) 64 (nI 0) (by decide) u
    obtain ⟨S2, e2, f2, h2, r2⟩ := l_table h K hp hq 6 zF S1 (Nat.le_refl _) ho (by show _ < 4096; omega) (hR.1.trans (f1.mono (fun z e => by unfold zBF; omega))) (fun c hc => by
      rw [f1.ar (by omega), f1.ar (by omega)]; exact hR.2 c hc) (fun c a b g hg => by
      obtain rfl : c = 6 := by omega
      exact r1 g hg)
    obtain ⟨S3, e3, f3, r3⟩ := last S2 f2 h2 r2
    refine ⟨S3, ?_, f3, r3⟩
    rw [M_X11_pairBest_B2, ← e3, ← e2]
    have m6 : mq 6 = nI 5 := (mq_s 5).symm
    have p0 : (pb (WW d p q) (dou d q) (6 - 6) 0).1 = 0 := rfl
    rw [m6, p0]
    simp (disch := omega) only [↓ob_some, ↓zm_some, ↓zm_none, ↓zg_true, ↓zg_in, ↓(ob_of e1), reduceIte, li, lo, k_leT, k_leF, k_ltT, k_ltF, k_eqT, k_eqF, c_cl, c_sub, nI_add, pk_mul, zin_nI, zg_true, ob_some, zm_none, zm_some, if_true, if_false, Bool.false_eq_true, d_t, d_f, ob_eta, ob_eta1, m_ltn, m_nlt, m_nle, m_len, m_ne, m_ne', k_mltT, k_mltF, k_mleT, k_mleF, k_meqT, k_meqF, m_neg]
  · have hL : LL 0 pk u d := h.fr hn6 hR.1 (by unfold zBF; omega) (fun k a b => by unfold zBF; omega)
    have le1 : zsc u 60 4 = dle d := by rw [hR.1.sc (by unfold zBF; omega)]; exact hle
    have h1 := l_hasBits (hL.pe hp) hz (dle d)
    have fz : zFr zBF u (zAs u 24 z (sHas d p (dle d) z)) := zFr_As (by unfold zBF; omega)
    have hL2 : LL 0 pk (zAs u 24 z (sHas d p (dle d) z)) d := hL.fr hn6 fz (by unfold zBF; omega) (fun k a b => by unfold zBF; omega)
    have h2 := l_hasBits (hL2.pe hq) hz (dle d)
    refine ⟨zAs (zAs u 24 z (sHas d p (dle d) z)) 25 z (sHas d q (dle d) z), ⟨(hR.1.trans fz).trans (zFr_As (by unfold zBF; omega)), fun c hc => ?_⟩, ?_⟩
    · rw [as_n (by decide), as_y, as_y, as_n (by decide), upd_a, upd_a]
      by_cases e : c = z
      · rw [if_pos e, if_pos e, e]; exact ⟨rfl, rfl⟩
      · rw [if_neg e, if_neg e]; exact hR.2 c (by omega)
    · simp (disch := omega) only [reduceIte, li, lo, k_leT, k_leF, k_ltT, k_ltF, k_eqT, k_eqF, c_cl, c_sub, nI_add, pk_mul, zin_nI, zg_true, ob_some, zm_none, zm_some, if_true, if_false, Bool.false_eq_true, d_t, d_f, ob_eta, ob_eta1, m_ltn, m_nlt, m_nle, m_len, m_ne, m_ne', k_mltT, k_mltF, k_mleT, k_mleF, k_meqT, k_meqF, m_neg, M_X11_pairBest_B2, le1, h1, as_s, h2]
theorem s_paired (h : Inv pk S d) (x1 x2 x3 : Int32) : zStp pk (M_X11_paired pk S x1 x2 x3) (fun T => M_X12_paired T x1 x2 x3) := by
  unfold M_X11_paired M_X12_paired M_X11_paired_B35 M_X12_paired_B21 M_X11_paired_B64
  have hn6 := h.k.1
  rcases cPer h x1 with ⟨a1, b1, -⟩ | ⟨p, hp, rfl, a1, b1, h6, ok⟩
  · have b1 := b1 (zR1 S 1) rfl
    rcases cPer h x2 with ⟨a2, b2, -⟩ | ⟨q, hq, rfl, a2, b2, h62, ok2⟩
    · exact st_no10 h 1 (by decide) (by decide) (by simp (disch := omega) only [↓ob_some, ↓zm_some, ↓zm_none, ↓zg_true, ↓zg_in, ↓(ob_of a1), ↓(ob_of a2), reduceIte, li, lo, k_leT, k_leF, k_ltT, k_ltF, k_eqT, k_eqF, c_cl, c_sub, nI_add, pk_mul, zin_nI, zg_true, ob_some, zm_none, zm_some, if_true, if_false, Bool.false_eq_true, d_t, d_f, ob_eta, ob_eta1, m_ltn, m_nlt, m_nle, m_len, m_ne, m_ne', k_mltT, k_mltF, k_mleT, k_mleF, k_meqT, k_meqF, m_neg]) (by simp (disch := omega) only [↓ob_some, ↓zm_some, ↓zm_none, ↓zg_true, ↓zg_in, ↓(ob_of b1), reduceIte, li, lo, k_leT, k_leF, k_ltT, k_ltF, k_eqT, k_eqF, c_cl, c_sub, nI_add, pk_mul, zin_nI, zg_true, ob_some, zm_none, zm_some, if_true, if_false, Bool.false_eq_true, d_t, d_f, ob_eta, ob_eta1, m_ltn, m_nlt, m_nle, m_len, m_ne, m_ne', k_mltT, k_mltF, k_mleT, k_mleF, k_meqT, k_meqF, m_neg])
    · exact st_no10 h 1 (by decide) (by decide) (by simp (disch := omega) only [↓ob_some, ↓zm_some, ↓zm_none, ↓zg_true, ↓zg_in, ↓(ob_of a1), ↓(ob_of a2), ↓(zg_of ok2), reduceIte, li, lo, k_leT, k_leF, k_ltT, k_ltF, k_eqT, k_eqF, c_cl, c_sub, nI_add, pk_mul, zin_nI, zg_true, ob_some, zm_none, zm_some, if_true, if_false, Bool.false_eq_true, d_t, d_f, ob_eta, ob_eta1, m_ltn, m_nlt, m_nle, m_len, m_ne, m_ne', k_mltT, k_mltF, k_mleT, k_mleF, k_meqT, k_meqF, m_neg]) (by simp (disch := omega) only [↓ob_some, ↓zm_some, ↓zm_none, ↓zg_true, ↓zg_in, ↓(ob_of b1), reduceIte, li, lo, k_leT, k_leF, k_ltT, k_ltF, k_eqT, k_eqF, c_cl, c_sub, nI_add, pk_mul, zin_nI, zg_true, ob_some, zm_none, zm_some, if_true, if_false, Bool.false_eq_true, d_t, d_f, ob_eta, ob_eta1, m_ltn, m_nlt, m_nle, m_len, m_ne, m_ne', k_mltT, k_mltF, k_mleT, k_mleF, k_meqT, k_meqF, m_neg])
  · rcases cPer h x2 with ⟨a2, b2, -⟩ | ⟨q, hq, rfl, a2, b2, h62, ok2⟩
    · have b1 := b1 (zR1 S 1) rfl
      have b2 := b2 (zR1 S 1) rfl
      exact st_no10 h 1 (by decide) (by decide) (by simp (disch := omega) only [↓ob_some, ↓zm_some, ↓zm_none, ↓zg_true, ↓zg_in, ↓(ob_of a1), ↓(zg_of ok), ↓(ob_of a2), reduceIte, li, lo, k_leT, k_leF, k_ltT, k_ltF, k_eqT, k_eqF, c_cl, c_sub, nI_add, pk_mul, zin_nI, zg_true, ob_some, zm_none, zm_some, if_true, if_false, Bool.false_eq_true, d_t, d_f, ob_eta, ob_eta1, m_ltn, m_nlt, m_nle, m_len, m_ne, m_ne', k_mltT, k_mltF, k_mleT, k_mleF, k_meqT, k_meqF, m_neg]) (by simp (disch := omega) only [↓ob_some, ↓zm_some, ↓zm_none, ↓zg_true, ↓zg_in, ↓(ob_of b1), ↓(ob_of b2), reduceIte, li, lo, k_leT, k_leF, k_ltT, k_ltF, k_eqT, k_eqF, c_cl, c_sub, nI_add, pk_mul, zin_nI, zg_true, ob_some, zm_none, zm_some, if_true, if_false, Bool.false_eq_true, d_t, d_f, ob_eta, ob_eta1, m_ltn, m_nlt, m_nle, m_len, m_ne, m_ne', k_mltT, k_mltF, k_mleT, k_mleF, k_meqT, k_meqF, m_neg])
    · by_cases epq : p = q
      · subst epq
        have b1 := b1 (zR1 S 1) rfl
        have b2 := b2 (zR1 S 1) rfl
        exact st_no10 h 1 (by decide) (by decide) (by simp (disch := omega) only [↓ob_some, ↓zm_some, ↓zm_none, ↓zg_true, ↓zg_in, ↓(ob_of a1), ↓(zg_of ok), ↓(ob_of a2), reduceIte, li, lo, k_leT, k_leF, k_ltT, k_ltF, k_eqT, k_eqF, c_cl, c_sub, nI_add, pk_mul, zin_nI, zg_true, ob_some, zm_none, zm_some, if_true, if_false, Bool.false_eq_true, d_t, d_f, ob_eta, ob_eta1, m_ltn, m_nlt, m_nle, m_len, m_ne, m_ne', k_mltT, k_mltF, k_mleT, k_mleF, k_meqT, k_meqF, m_neg]) (by simp (disch := omega) only [↓ob_some, ↓zm_some, ↓zm_none, ↓zg_true, ↓zg_in, ↓(ob_of b1), ↓(ob_of b2), reduceIte, li, lo, k_leT, k_leF, k_ltT, k_ltF, k_eqT, k_eqF, c_cl, c_sub, nI_add, pk_mul, zin_nI, zg_true, ob_some, zm_none, zm_some, if_true, if_false, Bool.false_eq_true, d_t, d_f, ob_eta, ob_eta1, m_ltn, m_nlt, m_nle, m_len, m_ne, m_ne', k_mltT, k_mltF, k_mleT, k_mleF, k_meqT, k_meqF, m_neg])
      · have hl := h.l.pe hp
        have hr := h.r.pe hp
        have ho := (h.k.pe hp).o
        have hou := hl.ou
        have ro : ∀ T, zar T 7 = zar S 7 → zar T 7 p = nI (dou d p) := fun T hT => by rw [hT]; exact hr.ou
        have hi : nI 6 - nI (dou d p) - nI 1 = mq (6 - dou d p) := by rw [pk_sub ho]; rfl
        have no : (M_X12_within (zR1 S 5) x3 (-nI 1) (mq (6 - dou d p)) = some (nI 0)) → zStp pk (M_X11_refuseLess pk S (-nI 5) (nI 10)) (fun T => Option.bind (M_X12_isPerson T (nI p)) (fun w1 => (if w1 = nI 0 then Option.bind (M_X12_no10 T (-nI 1)) (fun w3 => some (w3.1, w3.2)) else Option.bind (M_X12_isPerson T (nI q)) (fun w4 => (if w4 = nI 0 then Option.bind (M_X12_no10 T (-nI 1)) (fun w3 => some (w3.1, w3.2)) else (if nI p = nI q then Option.bind (M_X12_no10 T (-nI 1)) (fun w3 => some (w3.1, w3.2)) else zg (zin (nI p) 6) (Option.bind (M_X12_within T x3 (-nI 1) (((nI 6 - (zar T 7 (Int32.toNatClampNeg (nI p)))) - nI 1))) (fun w8 => (if w8 = nI 0 then Option.bind (M_X12_no10 T (-nI 5)) (fun w15 => some (w15.1, w15.2)) else zg (zin (nI p) 6) (Option.bind (M_X12_pairs ((zP T 0 26 (-nI 1))) (nI p) (nI q) ((zar ((zP T 0 26 (-nI 1))) 7 (Int32.toNatClampNeg (nI p)))) (nI 0) (nI 0)) (fun w11 => (if x3 = (-nI 1) then some ((zsc w11 0 26), w11) else zg (zin (nI p) 6) (zg (zin (((zar w11 7 (Int32.toNatClampNeg (nI p))) + x3)) 6) (some ((zar w11 18 (Int32.toNatClampNeg (((zar w11 7 (Int32.toNatClampNeg (nI p))) + x3)))), w11))))))))))))))) := by
          intro w
          refine st_no10 h 5 (by decide) (by decide) rfl ?_
          have b1 := b1 (zR1 S 5) rfl
          have b2 := b2 (zR1 S 5) rfl
          have r7 := ro (zR1 S 5) (r1_a (by decide))
          rw [b1, ob_some, if_neg (by decide), b2, ob_some, if_neg (by decide), if_neg (fun z => epq ((nI_eq (by omega) (by omega)).mp z)), zg_in h6 (by decide), c_cl (by omega), r7, hi, w, ob_some, if_pos rfl, ob_eta]
        have cls : (x3 < -nI 1 ∨ (¬ x3 < -nI 1 ∧ ¬ x3 < nI (6 - dou d p))) → (Option.bind (M_X4_personAt pk S 0 (nI p)) (fun w1 => (zm w1 (Option.bind (M_X4_personAt pk S 0 (nI q)) (fun w3 => (zm w3 (Option.bind (M_X11_refuseLess pk S (-nI 1) (nI 10)) (fun w5 => some (w5.1, w5.2))) (fun q4 => zg (zOKb pk q4) (Option.bind (M_X11_refuseLess pk S (-nI 1) (nI 10)) (fun w5 => some (w5.1, w5.2))))))) (fun q2 => zg (zOKb pk q2) (Option.bind (M_X4_personAt pk S 0 (nI q)) (fun w6 => (zm w6 (Option.bind (M_X11_refuseLess pk S (-nI 1) (nI 10)) (fun w5 => some (w5.1, w5.2))) (fun q7 => zg (zOKb pk q7) ((if nI p = nI q then Option.bind (M_X11_refuseLess pk S (-nI 1) (nI 10)) (fun w5 => some (w5.1, w5.2)) else Option.bind (some ((nI 6 - (zsc S (100 + 4 * q2) 8)))) (fun v9 => (if x3 < -nI 1 then Option.bind (M_X11_refuseLess pk S (-nI 5) (nI 10)) (fun w11 => some (w11.1, w11.2)) else (if x3 < v9 then Option.bind (M_X11_pairBest pk S q2 q7) (fun w13 => Option.bind (some (((zsc w13.2 (100 + 4 * q2) 8) + x3))) (fun v14 => (if x3 = -nI 1 then some (w13.1, w13.2) else Option.bind (M_X11_isCopy pk w13.2 v14) (fun w16 => (if w16 = nI 0 then some (w13.1, w13.2) else zg (zin v14 6) (some ((zar w13.2 26 (Int32.toNatClampNeg v14)), w13.2))))))) else Option.bind (M_X11_refuseLess pk S (-nI 5) (nI 10)) (fun w11 => some (w11.1, w11.2))))))))))))))) = M_X11_refuseLess pk S (-nI 5) (nI 10) := by
          intro hx
          rcases hx with q1 | ⟨q1, q2⟩
          · simp (disch := omega) only [↓ob_some, ↓zm_some, ↓zm_none, ↓zg_true, ↓zg_in, ↓(ob_of a1), ↓(zg_of ok), ↓(ob_of a2), ↓(zg_of ok2), hou, q1, reduceIte, li, lo, k_leT, k_leF, k_ltT, k_ltF, k_eqT, k_eqF, c_cl, c_sub, nI_add, pk_mul, zin_nI, zg_true, ob_some, zm_none, zm_some, if_true, if_false, Bool.false_eq_true, d_t, d_f, ob_eta, ob_eta1, m_ltn, m_nlt, m_nle, m_len, m_ne, m_ne', k_mltT, k_mltF, k_mleT, k_mleF, k_meqT, k_meqF, m_neg]
          · simp (disch := omega) only [↓ob_some, ↓zm_some, ↓zm_none, ↓zg_true, ↓zg_in, ↓(ob_of a1), ↓(zg_of ok), ↓(ob_of a2), ↓(zg_of ok2), hou, q1, q2, reduceIte, li, lo, k_leT, k_leF, k_ltT, k_ltF, k_eqT, k_eqF, c_cl, c_sub, nI_add, pk_mul, zin_nI, zg_true, ob_some, zm_none, zm_some, if_true, if_false, Bool.false_eq_true, d_t, d_f, ob_eta, ob_eta1, m_ltn, m_nlt, m_nle, m_len, m_ne, m_ne', k_mltT, k_mltF, k_mleT, k_mleF, k_meqT, k_meqF, m_neg]
        simp only [li]
        by_cases c0 : x3 < -nI 1
        · have := no (w_lo _ c0)
          rw [← cls (Or.inl c0)] at this
          exact this
        · have run : ∀ T, RR T d → zar T 7 = zar S 7 → ∃ T', M_X12_pairs (zP T 0 26 (-nI 1)) (nI p) (nI q) (nI (dou d p)) (nI 0) (nI 0) = some T' ∧ zFr zPq T T' ∧ (∀ f, f ≠ 26 → zsc T' 0 f = zsc T 0 f) ∧ zsc T' 0 26 = nI (pb (WW d p q) (dou d q) (6 - dou d p) 0).1 ∧ ∀ j, j < 6 → dou d p ≤ j → zar T' 18 j = grd (WW d p q) (dou d q) (6 - dou d p) 0 j := by
            intro T hR hT
            have f0 : zFr zPq T (zP T 0 26 (-nI 1)) := zFr_P (Or.inl rfl)
            have g0 : ∀ f, f ≠ 26 → zsc (zP T 0 26 (-nI 1)) 0 f = zsc T 0 f := fun f hf => by rw [p_y, if_neg hf]
            have e26 : zsc (zP T 0 26 (-nI 1)) 0 26 = mq 0 := by rw [p_y, if_pos rfl]; rfl
            obtain ⟨T', e, y1, y2, y3, y4⟩ := r_pairs h.k hp hq (zP T 0 26 (-nI 1)) (dou d p) 0 0 0 (hR.pf f0 g0) ho (by omega) (by decide) (by omega) (by decide) e26
            refine ⟨T', e, f0.trans y1, fun f hf => (y2 f hf).trans (g0 f hf), ?_, fun j hj hoj => ?_⟩
            · rcases y4 with ⟨-, z2, -⟩ | ⟨z1, -⟩
              · rw [z2, ← mq_s, Nat.zero_add]
              · omega
            · rcases y4 with ⟨-, -, z3⟩ | ⟨z1, -⟩
              · rw [z3 j hj, if_neg (by omega)]
              · omega
          obtain ⟨S1, e1, f1, r1⟩ := l_pairBest h.l h.k hp hq h.le1
          have i1 : Inv pk S1 d := h.mv0 f1 (fun k z => by unfold zBF at z; unfold zIr; omega)
          obtain ⟨T1, e2, f2, g2, m2, r2⟩ := run S1 i1.r (f1.ar (by unfold zBF; omega))
          have b1 := b1 S1 (by rw [f1.sc (by unfold zBF; omega)])
          have b2 := b2 S1 (by rw [f1.sc (by unfold zBF; omega)])
          have r7 := ro S1 (f1.ar (by unfold zBF; omega))
          have r71 : zar T1 7 p = nI (dou d p) := by rw [f2.ar (by unfold zPq; omega)]; exact r7
          have i2 : Inv pk T1 d := i1.mv f2 (fun k z => by unfold zPq at z; unfold zIr; omega) (g2 3 (by decide)) (g2 11 (by decide)) (g2 12 (by decide)) (g2 15 (by decide)) (g2 17 (by decide)) (g2 20 (by decide)) (i1.pe.fr f2 (fun q _ => by unfold zPq; omega))
          have ou1 : zsc S1 (100 + 4 * (6 * 0 + p)) 8 = nI (dou d p) := (i1.l.pe hp).ou
          have npq : ¬ nI p = nI q := fun z => epq ((nI_eq (by omega) (by omega)).mp z)
          by_cases c1 : x3 = -nI 1
          · subst c1
            have lt : -nI 1 < nI (6 - dou d p) := by rw [m_ltn (by decide) (by decide) (by omega)]; trivial
            have w : M_X12_within S1 (-nI 1) (-nI 1) (mq (6 - dou d p)) = some (nI 1) := w_in S1 Int32.lt_irrefl (by
              rw [← hi]
              intro z
              have hj : dou d p = 0 ∨ dou d p = 1 ∨ dou d p = 2 ∨ dou d p = 3 ∨ dou d p = 4 ∨ dou d p = 5 ∨ dou d p = 6 := by omega
              rcases hj with y | y | y | y | y | y | y <;> rw [y] at z <;> exact absurd z (by decide))
            refine ⟨nI (pb (WW d p q) (dou d q) (6 - dou d p) 0).1, S1, T1, ?_, ?_, d, i2⟩
            · simp (disch := omega) only [↓ob_some, ↓zm_some, ↓zm_none, ↓zg_true, ↓zg_in, ↓(ob_of a1), ↓(zg_of ok), ↓(ob_of a2), ↓(zg_of ok2), hou, lt, ↓(ob_of e1), ou1, reduceIte, li, lo, k_leT, k_leF, k_ltT, k_ltF, k_eqT, k_eqF, c_cl, c_sub, nI_add, pk_mul, zin_nI, zg_true, ob_some, zm_none, zm_some, if_true, if_false, Bool.false_eq_true, d_t, d_f, ob_eta, ob_eta1, m_ltn, m_nlt, m_nle, m_len, m_ne, m_ne', k_mltT, k_mltF, k_mleT, k_mleF, k_meqT, k_meqF, m_neg]
            · dsimp only
              rw [b1, ob_some, if_neg (by decide), b2, ob_some, if_neg (by decide), if_neg npq, zg_in h6 (by decide), c_cl (by omega), r7, hi, w, ob_some, if_neg (by decide), zg_in h6 (by decide), p_a, r7, e2, ob_some, if_pos rfl, m2]
          · have x0 : ¬ x3 < nI 0 := by
              intro z
              rw [Int32.lt_iff_toInt_lt] at z c0
              have e3 : (-nI 1).toInt = -1 := by decide
              have e4 : (nI 0).toInt = 0 := by decide
              have : x3.toInt ≠ (-nI 1).toInt := fun y => c1 (Int32.toInt_inj.mp y)
              omega
            obtain ⟨k, hk, rfl⟩ := nI_of x0
            by_cases c2 : k < 6 - dou d p
            · have w : M_X12_within S1 (nI k) (-nI 1) (mq (6 - dou d p)) = some (nI 1) := w_in S1 c0 (by rw [mq_lt (by omega) (by omega)]; omega)
              have rr := r1 (dou d p + k) (by omega)
              rw [if_neg (by omega)] at rr
              have rr2 := r2 (dou d p + k) (by omega) (by omega)
              refine ⟨grd (WW d p q) (dou d q) (6 - dou d p) 0 (dou d p + k), S1, T1, ?_, ?_, d, i2⟩
              · have ic := t_isCopy pk S1 (c := dou d p + k) (by omega)
                simp (disch := omega) only [↓ob_some, ↓zm_some, ↓zm_none, ↓zg_true, ↓zg_in, ↓(ob_of a1), ↓(zg_of ok), ↓(ob_of a2), ↓(zg_of ok2), hou, ↓(ob_of e1), ou1, ic, rr, reduceIte, li, lo, k_leT, k_leF, k_ltT, k_ltF, k_eqT, k_eqF, c_cl, c_sub, nI_add, pk_mul, zin_nI, zg_true, ob_some, zm_none, zm_some, if_true, if_false, Bool.false_eq_true, d_t, d_f, ob_eta, ob_eta1, m_ltn, m_nlt, m_nle, m_len, m_ne, m_ne', k_mltT, k_mltF, k_mleT, k_mleF, k_meqT, k_meqF, m_neg]
              · dsimp only
                rw [b1, ob_some, if_neg (by decide), b2, ob_some, if_neg (by decide), if_neg npq, zg_in h6 (by decide), c_cl (by omega), r7, hi, w, ob_some, if_neg (by decide), zg_in h6 (by decide), p_a, r7, e2, ob_some, if_neg c1, zg_in h6 (by decide), r71, nI_add, zg_in (by omega) (by decide), c_cl (by omega), rr2]
            · have := no (w_hi _ (mq_hi (by omega) (by omega) (by omega)))
              rw [← cls (Or.inr ⟨c0, by rw [c_lt (by omega) (by omega)]; exact c2⟩)] at this
              exact this
end PA2
