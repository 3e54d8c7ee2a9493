/-! HOW TWO PERSONS' COPIES ARE BEST PAIRED -/
def bcN (x : Int32) : Nat := (bc x).toNatClampNeg
theorem bcN_e (x : Int32) : bc x = nI (bcN x) ∧ bcN x ≤ 63 := by
  obtain ⟨j, hj, e⟩ := bc_n x
  unfold bcN
  rw [e, c_cl (by omega)]
  exact ⟨rfl, by omega⟩
def WW (d : zD) (p q c e : Nat) : Nat := bcN (sHas d p (dle d) c &&& sHas d q (dle d) e)
def skp (o g e : Nat) : Bool := decide (e < o) || decide (g / 2 ^ e % 2 = 1)
def pbS (v : Nat → Nat) (sk : Nat → Bool) (a : Nat × Int32) (e : Nat) : Nat × Int32 := if sk e = true then a else if a.1 < v e then (v e, nI e) else a
/-- the best of the last r copies, what is given away being g; whom the first of them gets -/
def pb (W : Nat → Nat → Nat) (o : Nat) : Nat → Nat → Nat × Int32
  | 0, _ => (0, -nI 1)
  | r + 1, g => sFo (pbS (fun e => W (5 - r) e + (pb W o r (g ||| 2 ^ e)).1) (skp o g)) 0 6 ((pb W o r g).1, -nI 1)
def nxg (g : Nat) (v : Int32) : Nat := if v = -nI 1 then g else g ||| 2 ^ v.toNatClampNeg
def grd (W : Nat → Nat → Nat) (o : Nat) : Nat → Nat → Nat → Int32
  | 0, _, _ => -nI 1
  | r + 1, g, j => if j = 5 - r then (pb W o (r + 1) g).2 else grd W o r (nxg g (pb W o (r + 1) g).2) j
theorem or_64 : ∀ g, g < 64 → ∀ e, e < 6 → g ||| 2 ^ e < 64 := by decide +kernel
theorem orI : ∀ g, g < 64 → ∀ e, e < 6 → nI g ||| (nI 1 <<< (nI e &&& nI 31)) = nI (g ||| 2 ^ e) := by decide +kernel
theorem shI : ∀ g, g < 64 → ∀ e, e < 6 → (nI g >>> (nI e &&& nI 31)) &&& nI 1 = nI (g / 2 ^ e % 2) := by decide +kernel
theorem pbS_le (v : Nat → Nat) (sk : Nat → Bool) (N : Nat) (hv : ∀ e, v e ≤ N) : ∀ (m i : Nat) (a : Nat × Int32), a.1 ≤ N → (sFo (pbS v sk) i m a).1 ≤ N :=
  sFo_inv (pbS v sk) (fun a => a.1 ≤ N) (fun a i h => by
    unfold pbS
    split
    · exact h
    · split
      · exact hv i
      · exact h)
theorem pb_le {W : Nat → Nat → Nat} (hW : ∀ c e, W c e ≤ 63) (o : Nat) : ∀ (r g : Nat), (pb W o r g).1 ≤ 63 * r := by
  intro r
  induction r with
  | zero => intro g; exact Nat.le_refl _
  | succ r ih =>
    intro g
    unfold pb
    exact pbS_le _ _ (63 * (r + 1)) (fun e => by have := hW (5 - r) e; have := ih (g ||| 2 ^ e); omega) 6 0 _ (by have := ih g; show (pb W o r g).1 ≤ _; omega)
/-- the first that is as good as the best -/
def fst1 (v : Nat → Nat) (sk : Nat → Bool) (M : Nat) : Nat → Nat → Int32
  | _, 0 => -nI 1
  | i, m + 1 => if sk i = true then fst1 v sk M (i + 1) m else if v i = M then nI i else fst1 v sk M (i + 1) m
theorem pbS_first (v : Nat → Nat) (sk : Nat → Bool) : ∀ (m i : Nat) (a : Nat × Int32), a.1 ≤ (sFo (pbS v sk) i m a).1 ∧ (sFo (pbS v sk) i m a).2 = if (sFo (pbS v sk) i m a).1 = a.1 then a.2 else fst1 v sk (sFo (pbS v sk) i m a).1 i m := by
  intro m
  induction m with
  | zero => intro i a; exact ⟨Nat.le_refl _, (if_pos rfl).symm⟩
  | succ m ih =>
    intro i a
    show a.1 ≤ (sFo (pbS v sk) (i + 1) m (pbS v sk a i)).1 ∧ (sFo (pbS v sk) (i + 1) m (pbS v sk a i)).2 = if (sFo (pbS v sk) (i + 1) m (pbS v sk a i)).1 = a.1 then a.2 else fst1 v sk (sFo (pbS v sk) (i + 1) m (pbS v sk a i)).1 i (m + 1)
    obtain ⟨h1, h2⟩ := ih (i + 1) (pbS v sk a i)
    generalize hF : sFo (pbS v sk) (i + 1) m (pbS v sk a i) = F at *
    unfold fst1
    unfold pbS at h1 h2
    by_cases c1 : sk i = true
    · rw [if_pos c1] at h1 h2 ⊢
      exact ⟨h1, h2⟩
    · rw [if_neg c1] at h1 h2 ⊢
      by_cases c2 : a.1 < v i
      · rw [if_pos c2] at h1 h2
        dsimp only at h1 h2
        refine ⟨by omega, ?_⟩
        rw [if_neg (show ¬ F.1 = a.1 by omega), h2]
        by_cases c3 : F.1 = v i
        · rw [if_pos c3, if_pos c3.symm]
        · rw [if_neg c3, if_neg (fun z => c3 z.symm)]
      · rw [if_neg c2] at h1 h2
        refine ⟨h1, ?_⟩
        rw [h2]
        by_cases c3 : F.1 = a.1
        · rw [if_pos c3, if_pos c3]
        · rw [if_neg c3, if_neg c3, if_neg (show ¬ v i = F.1 by omega)]
theorem pbS_skip (v : Nat → Nat) (g o : Nat) (ho : o ≤ 6) (a : Nat × Int32) : sFo (pbS v (skp o g)) 0 6 a = sFo (pbS v (skp o g)) o (6 - o) a := by
  rw [show 6 = o + (6 - o) by omega, sFo_add, Nat.zero_add, show o + (6 - o) - o = 6 - o by omega]
  congr 1
  have : ∀ m i, i + m ≤ o → sFo (pbS v (skp o g)) i m a = a := by
    intro m
    induction m with
    | zero => intro i _; rfl
    | succ m ih =>
      intro i hi
      show sFo _ (i + 1) m (pbS v (skp o g) a i) = a
      have : pbS v (skp o g) a i = a := by
        unfold pbS skp
        rw [if_pos (by rw [decide_eq_true (show i < o by omega)]; rfl)]
      rw [this]
      exact ih (i + 1) (by omega)
  exact this o 0 (by omega)
/-- the most of the reference: one less than m -/
def mq (m : Nat) : Int32 := nI m - nI 1
theorem mq_s (s : Nat) : nI s = mq (s + 1) := (nI_pred s).symm
theorem mq_lt {m s : Nat} (hm : m < 100000) (hs : s < 100000) : (mq m < nI s) = (m ≤ s) := by
  apply propext
  rcases m with _ | m
  · have h : mq 0 < nI 0 := by decide
    constructor
    · intro _; omega
    · intro _; exact Int32.lt_of_lt_of_le h (nI_le (Nat.zero_le _) (by omega))
  · rw [← mq_s, c_lt (by omega) (by omega)]
    omega
def zPq (k : Nat) : Prop := k = 0 ∨ k = 17 ∨ k = 18
section PAI
variable {P : Nat → Prop} {pk : Nat → Nat} {S S' T T' : zSt} {p q : Nat} {d : zD}
def PO (d : zD) (p q : Nat) (T T' : zSt) (c g s m1 : Nat) : Prop := zFr zPq T T' ∧ (∀ f, f ≠ 26 → zsc T' 0 f = zsc T 0 f) ∧ (∀ j, j < c → zar T' 17 j = zar T 17 j) ∧ ((m1 ≤ s + (pb (WW d p q) (dou d q) (6 - c) g).1 ∧ zsc T' 0 26 = mq (s + (pb (WW d p q) (dou d q) (6 - c) g).1 + 1) ∧ ∀ j, j < 6 → zar T' 18 j = if j < c then zar T 17 j else grd (WW d p q) (dou d q) (6 - c) g j) ∨ (¬ m1 ≤ s + (pb (WW d p q) (dou d q) (6 - c) g).1 ∧ zsc T' 0 26 = mq m1 ∧ zar T' 18 = zar T 18))
def PE (d : zD) (p q : Nat) (G : zSt → Int32 → Int32 → Int32 → Int32 → Int32 → Option zSt) (r : Nat) : Prop := ∀ (T : zSt) (c g s m1 : Nat), RR T d → c ≤ 6 → 6 ≤ c + r → g < 64 → s ≤ 63 * c → m1 ≤ 1000 → zsc T 0 26 = mq m1 → ∃ T', G T (nI p) (nI q) (nI c) (nI g) (nI s) = some T' ∧ PO d p q T T' c g s m1
theorem RR.pf (h : RR T d) (f : zFr zPq T T') (h0 : ∀ g, g ≠ 26 → zsc T' 0 g = zsc T 0 g) : RR T' d := h.fr f (h0 3 (by decide)) (h0 11 (by decide)) (h0 12 (by decide)) (fun k a b => by unfold zPq; omega)
theorem pr_base {F25 : Nat → zSt → Int32 → Option zSt} (h25 : ∀ n S x6, F25 (n + 1) S x6 = (if 6 ≤ x6 then some S else zg (zin x6 6) (zg (zin x6 6) (F25 n (zAs S 18 (Int32.toNatClampNeg x6) (zar S 17 (Int32.toNatClampNeg x6))) (x6 + 1))))) (T : zSt) : ∃ T', F25 zF T (nI 0) = some T' ∧ zFr (fun k => k = 18) T T' ∧ ∀ j, j < 6 → zar T' 18 j = zar T 17 j := by
  have key := lpR (fun n (u : zSt) z => F25 n u z) (fun (u : Unit) _ => u) (fun z u _ => zFr (fun k => k = 18) T u ∧ ∀ j, j < z → zar u 18 j = zar T 17 j) (fun _ o => ∃ T', o = some T' ∧ zFr (fun k => k = 18) T T' ∧ ∀ j, j < 6 → zar T' 18 j = zar T 17 j) 6 (fun n u _ hR => ⟨u, by simp (disch := omega) only [reduceIte, li, lo, k_leT, k_leF, k_ltT, k_ltF, k_eqT, k_eqF, c_cl, c_sub, nI_add, pk_mul, zin_nI, zg_true, ob_some, zm_none, zm_some, if_true, if_false, Bool.false_eq_true, d_t, d_f, ob_eta, ob_eta1, m_ltn, m_nlt, m_nle, m_len, m_ne, m_ne', k_mltT, k_mltF, k_mleT, k_mleF, k_meqT, k_meqF, m_neg, h25], hR⟩) (fun n u _ z hz hR => by
      refine ⟨zAs u 18 z (zar T 17 z), ⟨hR.1.trans (zFr_As rfl), fun j hj => ?_⟩, ?_⟩
      · rw [as_y, upd_a]
        by_cases e : j = z
        · rw [if_pos e, e]
        · rw [if_neg e]; exact hR.2 j (by omega)
      · have e17 : zar u 17 = zar T 17 := hR.1.ar (by omega)
        simp (disch := omega) only [reduceIte, li, lo, k_leT, k_leF, k_ltT, k_ltF, k_eqT, k_eqF, c_cl, c_sub, nI_add, pk_mul, zin_nI, zg_true, ob_some, zm_none, zm_some, if_true, if_false, Bool.false_eq_true, d_t, d_f, ob_eta, ob_eta1, m_ltn, m_nlt, m_nle, m_len, m_ne, m_ne', k_mltT, k_mltF, k_mleT, k_mleF, k_meqT, k_meqF, m_neg, h25, e17]) 6 0 zF T () ⟨zFr.rf, fun j hj => absurd hj (Nat.not_lt_zero _)⟩ rfl (by decide)
  exact key
theorem pr_six {F25 : Nat → zSt → Int32 → Option zSt} (h25 : ∀ n S x6, F25 (n + 1) S x6 = (if 6 ≤ x6 then some S else zg (zin x6 6) (zg (zin x6 6) (F25 n (zAs S 18 (Int32.toNatClampNeg x6) (zar S 17 (Int32.toNatClampNeg x6))) (x6 + 1))))) (T : zSt) {g s m1 : Nat} (hs : s ≤ 378) (hm : m1 ≤ 1000) (e26 : zsc T 0 26 = mq m1) : ∃ T', (if zsc T 0 26 < nI s then F25 zF (zP T 0 26 (nI s)) (nI 0) else some T) = some T' ∧ PO d p q T T' 6 g s m1 := by
  rw [e26]
  by_cases c : m1 ≤ s
  · rw [if_pos (by rw [mq_lt (by omega) (by omega)]; exact c)]
    obtain ⟨T', e, f, r⟩ := pr_base h25 (zP T 0 26 (nI s))
    refine ⟨T', e, (zFr_P (Or.inl rfl)).trans (f.mono (fun k z => Or.inr (Or.inr z))), fun g hg => ?_, fun j hj => ?_, Or.inl ⟨c, ?_, fun j hj => ?_⟩⟩
    · rw [f.sc (by decide), p_y, if_neg hg]
    · rw [f.ar (by decide)]; rfl
    · rw [f.sc (by decide), p_y, if_pos rfl]; exact mq_s s
    · rw [r j hj, if_pos hj]; rfl
  · rw [if_neg (by rw [mq_lt (by omega) (by omega)]; exact c)]
    exact ⟨T, rfl, zFr.rf, fun _ _ => rfl, fun _ _ => rfl, Or.inr ⟨c, e26, rfl⟩⟩
theorem pr_zero {F25 : Nat → zSt → Int32 → Option zSt} {F : zSt → Int32 → Int32 → Int32 → Int32 → Int32 → Option zSt} {X : zSt → Int32 → Int32 → Int32 → Int32 → Int32 → Option zSt} (h25 : ∀ n S x6, F25 (n + 1) S x6 = (if 6 ≤ x6 then some S else zg (zin x6 6) (zg (zin x6 6) (F25 n (zAs S 18 (Int32.toNatClampNeg x6) (zar S 17 (Int32.toNatClampNeg x6))) (x6 + 1))))) (hF : ∀ S x1 x2 x3 x4 x5, F S x1 x2 x3 x4 x5 = (if x3 = 6 then (if (zsc S 0 26) < x5 then F25 zF (zP S 0 26 x5) 0 else some S) else X S x1 x2 x3 x4 x5)) : PE d p q F 0 := by
  intro T c g s m1 hR hc hr hg hs hm e26
  obtain rfl : c = 6 := by omega
  rw [hF, if_pos (show nI 6 = 6 from rfl)]
  exact pr_six h25 T (by omega) hm e26
theorem pr_step {F25 : Nat → zSt → Int32 → Option zSt} {F81 : Nat → zSt → Int32 → Int32 → Int32 → Int32 → Int32 → Int32 → Option zSt} {F G : zSt → Int32 → Int32 → Int32 → Int32 → Int32 → Option zSt} (h25 : ∀ n S x6, F25 (n + 1) S x6 = (if 6 ≤ x6 then some S else zg (zin x6 6) (zg (zin x6 6) (F25 n (zAs S 18 (Int32.toNatClampNeg x6) (zar S 17 (Int32.toNatClampNeg x6))) (x6 + 1)))))
    (h81 : ∀ n S x1 x2 x3 x4 x5 x6, F81 (n + 1) S x1 x2 x3 x4 x5 x6 = (if 6 ≤ x6 then some S else Option.bind (M_X12_has S x4 x6) (fun w7 => (if w7 = 0 then zg (zin x3 6) (Option.bind (M_X12_hasAll ((zAs S 17 (Int32.toNatClampNeg x3) x6)) x1 x3) (fun w10 => Option.bind (M_X12_hasAll ((zAs S 17 (Int32.toNatClampNeg x3) x6)) x2 x6) (fun w11 => Option.bind (M_J6_bitCount_0f7a4 ((zAs S 17 (Int32.toNatClampNeg x3) x6)) ((w10 &&& w11))) (fun w12 => Option.bind (G ((zAs S 17 (Int32.toNatClampNeg x3) x6)) x1 x2 ((x3 + 1)) ((x4 ||| ((1 : Int32) <<< (x6 &&& 31)))) ((x5 + w12))) (fun w13 => F81 n w13 x1 x2 x3 x4 x5 ((x6 + 1))))))) else F81 n S x1 x2 x3 x4 x5 ((x6 + 1))))))
    (hF : ∀ S x1 x2 x3 x4 x5, F S x1 x2 x3 x4 x5 = (if x3 = 6 then (if (zsc S 0 26) < x5 then F25 zF (zP S 0 26 x5) 0 else some S) else zg (zin x3 6) (Option.bind (G ((zAs S 17 (Int32.toNatClampNeg x3) (-1))) x1 x2 ((x3 + 1)) x4 x5) (fun w3 => zg (zin x2 6) (Option.bind (some ((zar w3 7 (Int32.toNatClampNeg x2)))) (fun v5 => F81 zF w3 x1 x2 x3 x4 x5 v5))))))
    (K : KK d) (hp : p < dn d) (hq : q < dn d) {r : Nat} (hG : PE d p q G r) : PE d p q F (r + 1) := by
  intro T c g s m1 hR hc hr hg hs hm e26
  have hn6 := K.1
  by_cases c6 : c = 6
  · subst c6
    rw [hF, if_pos (show nI 6 = 6 from rfl)]
    exact pr_six h25 T (by omega) hm e26
  · have ho := (K.pe hq).o
    have hW : ∀ c e, WW d p q c e ≤ 63 := fun c e => (bcN_e _).2
    obtain ⟨k, hk⟩ : ∃ k, 6 - c = k + 1 := ⟨5 - c, by omega⟩
    have hk1 : 6 - (c + 1) = k := by omega
    have hk5 : 5 - k = c := by omega
    have f0 : zFr zPq T (zAs T 17 c (-nI 1)) := zFr_As (Or.inr (Or.inl rfl))
    obtain ⟨T0, e0, p1, p2, p3, p4⟩ := hG (zAs T 17 c (-nI 1)) (c + 1) g s m1 (hR.pf f0 (fun _ _ => rfl)) (by omega) (by omega) hg (by omega) hm e26
    rw [hk1] at p4
    have R0 : RR T0 d := (hR.pf f0 (fun _ _ => rfl)).pf p1 p2
    -- the loop over those that may be given
    have loop := lpR (fun n (u : zSt) z => F81 n u (nI p) (nI q) (nI c) (nI g) (nI s) z) (pbS (fun e => WW d p q (5 - k) e + (pb (WW d p q) (dou d q) k (g ||| 2 ^ e)).1) (skp (dou d q) g)) (fun z u a => zFr zPq T u ∧ (∀ f, f ≠ 26 → zsc u 0 f = zsc T 0 f) ∧ (∀ j, j < c → zar u 17 j = zar T 17 j) ∧ dou d q ≤ z ∧ a.1 ≤ 63 * (k + 1) ∧ ((m1 ≤ s + a.1 ∧ zsc u 0 26 = mq (s + a.1 + 1) ∧ ∀ j, j < 6 → zar u 18 j = if j < c then zar T 17 j else if j = c then a.2 else grd (WW d p q) (dou d q) k (nxg g a.2) j) ∨ (¬ m1 ≤ s + a.1 ∧ zsc u 0 26 = mq m1 ∧ zar u 18 = zar T 18))) (fun a o => ∃ T', o = some T' ∧ zFr zPq T T' ∧ (∀ f, f ≠ 26 → zsc T' 0 f = zsc T 0 f) ∧ (∀ j, j < c → zar T' 17 j = zar T 17 j) ∧ ((m1 ≤ s + a.1 ∧ zsc T' 0 26 = mq (s + a.1 + 1) ∧ ∀ j, j < 6 → zar T' 18 j = if j < c then zar T 17 j else if j = c then a.2 else grd (WW d p q) (dou d q) k (nxg g a.2) j) ∨ (¬ m1 ≤ s + a.1 ∧ zsc T' 0 26 = mq m1 ∧ zar T' 18 = zar T 18))) 6 (fun n u a hJ => ?_) (fun n u a z hz hJ => ?_) (6 - dou d q) (dou d q) zF T0 ((pb (WW d p q) (dou d q) k g).1, -nI 1) ?_ (by omega) (by show _ < 4096; omega)
    · obtain ⟨T', l1, l2, l3, l4, l5⟩ := loop
      have es : sFo (pbS (fun e => WW d p q (5 - k) e + (pb (WW d p q) (dou d q) k (g ||| 2 ^ e)).1) (skp (dou d q) g)) (dou d q) (6 - dou d q) ((pb (WW d p q) (dou d q) k g).1, -nI 1) = pb (WW d p q) (dou d q) (k + 1) g := by
        rw [← pbS_skip _ _ _ ho]; rfl
      rw [es] at l5
      refine ⟨T', ?_, l2, l3, l4, ?_⟩
      · rw [hF]
        have k7 : zar T0 7 q = nI (dou d q) := (R0.pe hq).ou
        rw [if_neg (show ¬ nI c = 6 from fun z => c6 ((nI_eq (b := 6) (by omega) (by decide)).mp z)), zg_in (by omega) (by decide), c_cl (by omega)]
        show Option.bind (G (zAs T 17 c (-nI 1)) (nI p) (nI q) (nI c + 1) (nI g) (nI s)) _ = _
        rw [nI_1, e0, ob_some, zg_in (by omega) (by decide), c_cl (by omega), k7, ob_some]
        exact l1
      · rw [hk]
        rcases l5 with ⟨a1, a2, a3⟩ | l5
        · refine Or.inl ⟨a1, a2, fun j hj => ?_⟩
          rw [a3 j hj]
          by_cases j1 : j < c
          · rw [if_pos j1, if_pos j1]
          · rw [if_neg j1, if_neg j1]
            show _ = if j = 5 - k then _ else _
            rw [hk5]
        · exact Or.inr l5
    · obtain ⟨j1, j2, j3, -, -, j6⟩ := hJ
      exact ⟨u, by simp (disch := omega) only [reduceIte, li, lo, k_leT, k_leF, k_ltT, k_ltF, k_eqT, k_eqF, c_cl, c_sub, nI_add, pk_mul, zin_nI, zg_true, ob_some, zm_none, zm_some, if_true, if_false, Bool.false_eq_true, d_t, d_f, ob_eta, ob_eta1, m_ltn, m_nlt, m_nle, m_len, m_ne, m_ne', k_mltT, k_mltF, k_mleT, k_mleF, k_meqT, k_meqF, m_neg, h81], j1, j2, j3, j6⟩
    · obtain ⟨j1, j2, j3, j4, j5, j6⟩ := hJ
      have Ru : RR u d := hR.pf j1 j2
      have hs_ : M_X12_has u (nI g) (nI z) = some (nI (g / 2 ^ z % 2)) := by
        have := shI g hg z hz
        unfold M_X12_has
        simp only [li]
        rw [this]
        have : g / 2 ^ z % 2 = 0 ∨ g / 2 ^ z % 2 = 1 := by omega
        rcases this with e | e <;> rw [e]
        · exact if_neg (by decide)
        · exact if_pos rfl
      by_cases bt : g / 2 ^ z % 2 = 1
      · have sk : skp (dou d q) g z = true := by unfold skp; rw [decide_eq_true bt, Bool.or_true]
        refine ⟨u, ⟨j1, j2, j3, by omega, ?_, ?_⟩, ?_⟩
        · unfold pbS; rw [if_pos sk]; exact j5
        · unfold pbS; rw [if_pos sk]; exact j6
        · rw [bt] at hs_
          show F81 (n + 1) u (nI p) (nI q) (nI c) (nI g) (nI s) (nI z) = _
          rw [h81]
          simp (disch := omega) only [↓ob_some, ↓zm_some, ↓zm_none, ↓zg_true, ↓zg_in, ↓(ob_of hs_), reduceIte, li, lo, k_leT, k_leF, k_ltT, k_ltF, k_eqT, k_eqF, c_cl, c_sub, nI_add, pk_mul, zin_nI, zg_true, ob_some, zm_none, zm_some, if_true, if_false, Bool.false_eq_true, d_t, d_f, ob_eta, ob_eta1, m_ltn, m_nlt, m_nle, m_len, m_ne, m_ne', k_mltT, k_mltF, k_mleT, k_mleF, k_meqT, k_meqF, m_neg]
      · have b0 : g / 2 ^ z % 2 = 0 := by omega
        have sk : skp (dou d q) g z = false := by unfold skp; rw [decide_eq_false bt, decide_eq_false (show ¬ z < dou d q by omega)]; rfl
        rw [b0] at hs_
        have g6 := or_64 g hg z hz
        have fz : zFr zPq u (zAs u 17 c (nI z)) := zFr_As (Or.inr (Or.inl rfl))
        have Rz : RR (zAs u 17 c (nI z)) d := Ru.pf fz (fun _ _ => rfl)
        have h1 := r_hasAll (Rz.pe hp) (show p < 6 by omega) (show c < 6 by omega)
        have h2 := r_hasAll (Rz.pe hq) (show q < 6 by omega) hz
        have le2 : zsc (zAs u 17 c (nI z)) 0 11 = dle d := Rz.2.1
        rw [le2] at h1 h2
        have hb := bcN_e (sHas d p (dle d) c &&& sHas d q (dle d) z)
        have hw := hW c z
        have hpl := pb_le hW (dou d q) k (g ||| 2 ^ z)
        have hor := orI g hg z hz
        -- the most so far
        have m1' : ∃ m2, m2 ≤ 1000 ∧ zsc u 0 26 = mq m2 ∧ ((m1 ≤ s + a.1 ∧ m2 = s + a.1 + 1) ∨ (¬ m1 ≤ s + a.1 ∧ m2 = m1)) := by
          rcases j6 with ⟨x1, x2, x3⟩ | ⟨x1, x2, x3⟩
          · exact ⟨_, by omega, x2, Or.inl ⟨x1, rfl⟩⟩
          · exact ⟨_, hm, x2, Or.inr ⟨x1, rfl⟩⟩
        obtain ⟨m2, mm1, mm2, mm3⟩ := m1'
        obtain ⟨T1, e1, q1, q2, q3, q4⟩ := hG (zAs u 17 c (nI z)) (c + 1) (g ||| 2 ^ z) (s + WW d p q c z) m2 Rz (by omega) (by omega) g6 (by omega) mm1 mm2
        rw [hk1] at q4
        have er : F81 (n + 1) u (nI p) (nI q) (nI c) (nI g) (nI s) (nI z) = F81 n T1 (nI p) (nI q) (nI c) (nI g) (nI s) (nI (z + 1)) := by
          have eb : bc (sHas d p (dle d) c &&& sHas d q (dle d) z) = nI (WW d p q c z) := hb.1
          rw [h81]
          simp (disch := omega) only [↓ob_some, ↓zm_some, ↓zm_none, ↓zg_true, ↓zg_in, ↓(ob_of hs_), ↓(ob_of h1), ↓(ob_of h2), ↓(ob_of (t_bc (zAs u 17 c (nI z)) (sHas d p (dle d) c &&& sHas d q (dle d) z))), eb, hor, ↓(ob_of e1), reduceIte, li, lo, k_leT, k_leF, k_ltT, k_ltF, k_eqT, k_eqF, c_cl, c_sub, nI_add, pk_mul, zin_nI, zg_true, ob_some, zm_none, zm_some, if_true, if_false, Bool.false_eq_true, d_t, d_f, ob_eta, ob_eta1, m_ltn, m_nlt, m_nle, m_len, m_ne, m_ne', k_mltT, k_mltF, k_mleT, k_mleF, k_meqT, k_meqF, m_neg]
        have F1 : zFr zPq T T1 := (j1.trans fz).trans q1
        have F2 : ∀ f, f ≠ 26 → zsc T1 0 f = zsc T 0 f := fun f hf => (q2 f hf).trans (j2 f hf)
        have F3 : ∀ j, j < c → zar T1 17 j = zar T 17 j := fun j hj => by
          rw [q3 j (by omega), as_y, pk_un (by omega)]; exact j3 j hj
        have vv : (fun e => WW d p q (5 - k) e + (pb (WW d p q) (dou d q) k (g ||| 2 ^ e)).1) z = WW d p q c z + (pb (WW d p q) (dou d q) k (g ||| 2 ^ z)).1 := by
          dsimp only; rw [hk5]
        have pe : pbS (fun e => WW d p q (5 - k) e + (pb (WW d p q) (dou d q) k (g ||| 2 ^ e)).1) (skp (dou d q) g) a z = if a.1 < WW d p q c z + (pb (WW d p q) (dou d q) k (g ||| 2 ^ z)).1 then (WW d p q c z + (pb (WW d p q) (dou d q) k (g ||| 2 ^ z)).1, nI z) else a := by
          unfold pbS
          rw [if_neg (by rw [sk]; exact Bool.false_ne_true), vv]
        rw [pe]
        have up : m2 ≤ s + WW d p q c z + (pb (WW d p q) (dou d q) k (g ||| 2 ^ z)).1 → (zsc T1 0 26 = mq (s + (WW d p q c z + (pb (WW d p q) (dou d q) k (g ||| 2 ^ z)).1) + 1) ∧ ∀ j, j < 6 → zar T1 18 j = if j < c then zar T 17 j else if j = c then nI z else grd (WW d p q) (dou d q) k (nxg g (nI z)) j) := by
          intro le
          rcases q4 with ⟨x1, x2, x3⟩ | ⟨x1, -, -⟩
          · refine ⟨by rw [x2]; congr 1; omega, fun j hj => ?_⟩
            have nz : nxg g (nI z) = g ||| 2 ^ z := by
              unfold nxg
              rw [if_neg (by rw [m_ne (by decide) (by decide) (by omega)]; exact id), c_cl (by omega)]
            rw [x3 j hj, nz]
            by_cases y1 : j < c
            · rw [if_pos (by omega), if_pos y1, as_y, pk_un (by omega)]; exact j3 j y1
            · rw [if_neg y1]
              by_cases y2 : j = c
              · rw [if_pos (by omega), if_pos y2, as_y, y2, pk_us]
              · rw [if_neg (by omega), if_neg y2]
          · exact absurd le x1
        have stay : ¬ m2 ≤ s + WW d p q c z + (pb (WW d p q) (dou d q) k (g ||| 2 ^ z)).1 → zsc T1 0 26 = mq m2 ∧ zar T1 18 = zar u 18 := by
          intro nle
          rcases q4 with ⟨x1, -, -⟩ | ⟨-, x2, x3⟩
          · exact absurd x1 nle
          · exact ⟨x2, x3.trans (as_n (by decide))⟩
        refine ⟨T1, ⟨F1, F2, F3, by omega, ?_, ?_⟩, er⟩
        · by_cases lt : a.1 < WW d p q c z + (pb (WW d p q) (dou d q) k (g ||| 2 ^ z)).1
          · rw [if_pos lt]; dsimp only; omega
          · rw [if_neg lt]; exact j5
        · by_cases lt : a.1 < WW d p q c z + (pb (WW d p q) (dou d q) k (g ||| 2 ^ z)).1
          · rw [if_pos lt]
            dsimp only
            by_cases lm : m1 ≤ s + (WW d p q c z + (pb (WW d p q) (dou d q) k (g ||| 2 ^ z)).1)
            · exact Or.inl ⟨lm, up (by omega)⟩
            · obtain ⟨s1, s2⟩ := stay (by omega)
              rcases j6 with ⟨x1, x2, x3⟩ | ⟨x1, x2, x3⟩
              · omega
              · refine Or.inr ⟨lm, ?_, s2.trans x3⟩
                rcases mm3 with ⟨y1, -⟩ | ⟨-, y2⟩
                · omega
                · rw [s1, y2]
          · rw [if_neg lt]
            obtain ⟨s1, s2⟩ := stay (by omega)
            rcases j6 with ⟨x1, x2, x3⟩ | ⟨x1, x2, x3⟩
            · refine Or.inl ⟨x1, ?_, fun j hj => by rw [s2]; exact x3 j hj⟩
              rw [s1, ← mm2, x2]
            · refine Or.inr ⟨x1, ?_, s2.trans x3⟩
              rw [s1, ← mm2, x2]
    · refine ⟨f0.trans p1, fun f hf => p2 f hf, fun j hj => by rw [p3 j (by omega), as_y, pk_un (by omega)], Nat.le_refl _, ?_, ?_⟩
      · have := pb_le hW (dou d q) k g
        dsimp only; omega
      · rcases p4 with ⟨x1, x2, x3⟩ | ⟨x1, x2, x3⟩
        · refine Or.inl ⟨x1, x2, fun j hj => ?_⟩
          rw [x3 j hj]
          have nz : nxg g (-nI 1) = g := if_pos rfl
          by_cases y1 : j < c
          · rw [if_pos (by omega), if_pos y1, as_y, pk_un (by omega)]
          · rw [if_neg y1]
            by_cases y2 : j = c
            · rw [if_pos (by omega), if_pos y2, as_y, y2, pk_us]
            · rw [if_neg (by omega), if_neg y2]
              dsimp only
              rw [nz]
        · exact Or.inr ⟨x1, x2, x3.trans (as_n (by decide))⟩
theorem r_pairs (K : KK d) (hp : p < dn d) (hq : q < dn d) : PE d p q M_X12_pairs 6 := by
  have z0 : PE d p q M_X12_pairs_d0 0 := pr_zero (F25 := M_X12_pairs_d0_B25) (X := fun S x1 x2 x3 x4 x5 => zg (zin x3 6) (zg false none)) (fun n S x6 => by rw [M_X12_pairs_d0_B25]) (fun S x1 x2 x3 x4 x5 => rfl)
  have z1 : PE d p q M_X12_pairs_d1 1 := pr_step (F25 := M_X12_pairs_d1_B25) (F81 := M_X12_pairs_d1_B81) (fun n S x6 => by rw [M_X12_pairs_d1_B25]) (fun n S x1 x2 x3 x4 x5 x6 => by rw [M_X12_pairs_d1_B81]) (fun S x1 x2 x3 x4 x5 => rfl) K hp hq z0
  have z2 : PE d p q M_X12_pairs_d2 2 := pr_step (F25 := M_X12_pairs_d2_B25) (F81 := M_X12_pairs_d2_B81) (fun n S x6 => by rw [M_X12_pairs_d2_B25]) (fun n S x1 x2 x3 x4 x5 x6 => by rw [M_X12_pairs_d2_B81]) (fun S x1 x2 x3 x4 x5 => rfl) K hp hq z1
  have z3 : PE d p q M_X12_pairs_d3 3 := pr_step (F25 := M_X12_pairs_d3_B25) (F81 := M_X12_pairs_d3_B81) (fun n S x6 => by rw [M_X12_pairs_d3_B25]) (fun n S x1 x2 x3 x4 x5 x6 => by rw [M_X12_pairs_d3_B81]) (fun S x1 x2 x3 x4 x5 => rfl) K hp hq z2
  have z4 : PE d p q M_X12_pairs_d4 4 := pr_step (F25 := M_X12_pairs_d4_B25) (F81 := M_X12_pairs_d4_B81) (fun n S x6 => by rw [M_X12_pairs_d4_B25]) (fun n S x1 x2 x3 x4 x5 x6 => by rw [M_X12_pairs_d4_B81]) (fun S x1 x2 x3 x4 x5 => rfl) K hp hq z3
  have z5 : PE d p q M_X12_pairs_d5 5 := pr_step (F25 := M_X12_pairs_d5_B25) (F81 := M_X12_pairs_d5_B81) (fun n S x6 => by rw [M_X12_pairs_d5_B25]) (fun n S x1 x2 x3 x4 x5 x6 => by rw [M_X12_pairs_d5_B81]) (fun S x1 x2 x3 x4 x5 => rfl) K hp hq z4
  exact pr_step (F25 := M_X12_pairs_B25) (F81 := M_X12_pairs_B81) (fun n S x6 => by rw [M_X12_pairs_B25]) (fun n S x1 x2 x3 x4 x5 x6 => by rw [M_X12_pairs_B81]) (fun S x1 x2 x3 x4 x5 => rfl) K hp hq z5
end PAI
