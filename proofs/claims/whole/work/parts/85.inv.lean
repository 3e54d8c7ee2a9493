/-! comparisons that are decided -/
theorem k_leT {a b : Nat} (h : a ≤ b) (hb : b < 2147483648) : (nI a ≤ nI b) = True := eq_true (nI_le h (by omega))
theorem k_leF {a b : Nat} (h : b < a) (hb : a < 2147483648) : (nI a ≤ nI b) = False := eq_false (nI_ge h (by omega))
theorem k_ltT {a b : Nat} (h : a < b) (hb : b < 2147483648) : (nI a < nI b) = True := eq_true (nI_lt h (by omega))
theorem k_ltF {a b : Nat} (h : b ≤ a) (hb : a < 2147483648) : (nI a < nI b) = False := eq_false (nI_nlt h (by omega))
theorem k_eqT {a b : Nat} (h : a = b) : (nI a = nI b) = True := eq_true (congrArg nI h)
theorem k_eqF {a b : Nat} (h : a ≠ b) (ha : a < 2147483648) (hb : b < 2147483648) : (nI a = nI b) = False := by
  rw [c_eq ha hb]; exact eq_false h
theorem k_mltT {a b : Nat} (h : b < a) (ha : a < 2147483648) : (-nI a < -nI b) = True := by
  rw [m_mlt (by omega) (by omega)]; exact eq_true h
theorem k_mltF {a b : Nat} (h : a ≤ b) (hb : b < 2147483648) : (-nI a < -nI b) = False := by
  rw [m_mlt (by omega) (by omega)]; exact eq_false (by omega)
theorem k_mleT {a b : Nat} (h : b ≤ a) (ha : a < 2147483648) : (-nI a ≤ -nI b) = True := by
  rw [m_mle (by omega) (by omega)]; exact eq_true h
theorem k_mleF {a b : Nat} (h : a < b) (hb : b < 2147483648) : (-nI a ≤ -nI b) = False := by
  rw [m_mle (by omega) (by omega)]; exact eq_false (by omega)
theorem k_meqT {a b : Nat} (h : a = b) : (-nI a = -nI b) = True := eq_true (congrArg (fun z => -nI z) h)
theorem k_meqF {a b : Nat} (h : a ≠ b) (ha : a < 2147483648) (hb : b < 2147483648) : (-nI a = -nI b) = False := by
  rw [m_meq (by omega) (by omega)]; exact eq_false h
theorem ob_of {α β : Type} {o : Option α} {a : α} (h : o = some a) (F : α → Option β) : Option.bind o F = F a := by rw [h, ob_some]
theorem zg_of {α : Type} {b : Bool} (h : b = true) (x : Option α) : zg b x = x := by rw [h, zg_true]
theorem zg_in {α : Type} {k n : Nat} (h : k < n) (hn : n < 2147483648) (x : Option α) : zg (zin (nI k) n) x = x := zg_of (zin_nI h hn) x
/-! WHAT HOLDS BEHIND EVERY CALL -/
def SH (n : Nat) (S : zSt) : Prop := ∀ s, s < 8 → ∃ m, m ≤ 160 ∧ zsc S (40 + 2 * s) 1 = zar S 1 s ∧ zsc S (40 + 2 * s) 2 = nI m ∧ zar S 2 s = nI m ∧ (∀ j, j < 160 → zlo S (40 + 2 * s + 1) j = zlo S 3 (160 * s + j)) ∧ (zar S 1 s = -nI 1 ∨ (∃ p, p < n ∧ zar S 1 s = nI p) ∨ ∃ t, t < 4 ∧ zar S 1 s = nI (100 + t))
def TR (S : zSt) : Prop := ∃ t, t < 1000 ∧ zsc S 56 1 = nI t ∧ zsc S 0 17 = nI t ∧ ∀ j, j < 20 → zar S 57 j = zar S 12 j
def RF (S : zSt) : Prop := ∀ j, j < 8 → zar S 22 j = zar S 13 j
def IM (pk : Nat → Nat) (S : zSt) : Prop := (zsc S 20 12 = nI 0 ∧ zsc S 0 20 = nI 0) ∨ (zsc S 20 12 = nI 1 ∧ zsc S 0 20 = nI 1 ∧ ∃ d, KK d ∧ LL 2 pk S d ∧ SN 14 S d)
def Inv (pk : Nat → Nat) (S : zSt) (d : zD) : Prop := KK d ∧ LL 0 pk S d ∧ RR S d ∧ PK pk S ∧ SH (dn d) S ∧ TR S ∧ RF S ∧ zsc S 20 13 = zsc S 0 15 ∧ IM pk S
/-- cells that no call looks at before it has written them -/
def zIr (k : Nat) : Prop := k = 11 ∨ (15 ≤ k ∧ k ≤ 18) ∨ (23 ≤ k ∧ k ≤ 34) ∨ (61 ≤ k ∧ k ≤ 65) ∨ k = 68 ∨ k = 70 ∨ k = 71
section INV
variable {P : Nat → Prop} {pk : Nat → Nat} {S S' T T' : zSt} {n p x : Nat} {d : zD}
theorem Inv.k (h : Inv pk S d) : KK d := h.1
theorem Inv.l (h : Inv pk S d) : LL 0 pk S d := h.2.1
theorem Inv.r (h : Inv pk S d) : RR S d := h.2.2.1
theorem Inv.pe (h : Inv pk S d) : PK pk S := h.2.2.2.1
theorem Inv.sh (h : Inv pk S d) : SH (dn d) S := h.2.2.2.2.1
theorem Inv.tr (h : Inv pk S d) : TR S := h.2.2.2.2.2.1
theorem Inv.rf (h : Inv pk S d) : RF S := h.2.2.2.2.2.2.1
theorem Inv.fa (h : Inv pk S d) : zsc S 20 13 = zsc S 0 15 := h.2.2.2.2.2.2.2.1
theorem Inv.im (h : Inv pk S d) : IM pk S := h.2.2.2.2.2.2.2.2
theorem SH.fr (h : SH n S) (hf : zFr P S S') (h1 : ¬ P 1) (h2 : ¬ P 2) (h3 : ¬ P 3) (h4 : ∀ k, 40 ≤ k → k < 56 → ¬ P k) : SH n S' := by
  intro s hs
  rw [hf.sc (h4 (40 + 2 * s) (by omega) (by omega)), hf.lo (h4 (40 + 2 * s + 1) (by omega) (by omega)), hf.ar h1, hf.ar h2, hf.lo h3]
  exact h s hs
theorem TR.fr (h : TR S) (hf : zFr P S S') (h0 : zsc S' 0 17 = zsc S 0 17) (h1 : ¬ P 56) (h2 : ¬ P 57) (h3 : ¬ P 12) : TR S' := by
  unfold TR
  rw [h0, hf.sc h1, hf.ar h2, hf.ar h3]
  exact h
theorem RF.fr (h : RF S) (hf : zFr P S S') (h1 : ¬ P 22) (h2 : ¬ P 13) : RF S' := by
  unfold RF
  rw [hf.ar h1, hf.ar h2]
  exact h
theorem IM.fr (h : IM pk S) (hf : zFr P S S') (h0 : zsc S' 0 20 = zsc S 0 20) (h1 : zsc S' 20 12 = zsc S 20 12) (h2 : ¬ P 14) (h3 : ¬ P 66) (h4 : ∀ k, 148 ≤ k → k < 172 → ¬ P k) : IM pk S' := by
  rcases h with ⟨a, b⟩ | ⟨a, b, e, c1, c2, c3⟩
  · exact Or.inl ⟨h1.trans a, h0.trans b⟩
  · exact Or.inr ⟨h1.trans a, h0.trans b, e, c1, c2.fr c1.1 hf h3 (fun k a b => h4 k (by omega) (by omega)), c3.fr hf h2⟩
/-- all but the lands -/
theorem Inv.mv (h : Inv pk S d) (hf : zFr P S S') (hP : ∀ k, P k → zIr k ∨ k = 0 ∨ zZ 1 k) (h3 : zsc S' 0 3 = zsc S 0 3) (h11 : zsc S' 0 11 = zsc S 0 11) (h12 : zsc S' 0 12 = zsc S 0 12) (h15 : zsc S' 0 15 = zsc S 0 15) (h17 : zsc S' 0 17 = zsc S 0 17) (h20 : zsc S' 0 20 = zsc S 0 20) (hK : PK pk S') : Inv pk S' d := by
  have hn : ∀ k, ¬ (zIr k ∨ k = 0 ∨ zZ 1 k) → ¬ P k := fun k q r => q (hP k r)
  unfold zIr zZ at hn
  refine ⟨h.k, h.l.fr h.k.1 hf (hn _ (by omega)) (fun k a b => hn _ (by omega)), h.r.fr hf h3 h11 h12 (fun k a b => hn _ (by omega)), hK, h.sh.fr hf (hn _ (by omega)) (hn _ (by omega)) (hn _ (by omega)) (fun k a b => hn _ (by omega)), h.tr.fr hf h17 (hn _ (by omega)) (hn _ (by omega)) (hn _ (by omega)), h.rf.fr hf (hn _ (by omega)) (hn _ (by omega)), ?_, h.im.fr hf h20 (by rw [hf.sc (hn _ (by omega))]) (hn _ (by omega)) (hn _ (by omega)) (fun k a b => hn _ (by omega))⟩
  rw [hf.sc (hn 20 (by omega)), h15]
  exact h.fa
theorem Inv.mv0 (h : Inv pk S d) (hf : zFr P S S') (hP : ∀ k, P k → zIr k) : Inv pk S' d := by
  have h0 : zsc S' 0 = zsc S 0 := hf.sc (fun q => by have := hP 0 q; unfold zIr at this; omega)
  exact h.mv hf (fun k q => Or.inl (hP k q)) (by rw [h0]) (by rw [h0]) (by rw [h0]) (by rw [h0]) (by rw [h0]) (by rw [h0]) (h.pe.fr hf (fun q _ r => by have := hP _ r; unfold zIr at this; omega))
/-- the state behind a refusal, in the class; in both -/
def zR1 (S : zSt) (c : Nat) : zSt := zAs S 22 c (zar S 22 c + nI 1)
def zR2 (S : zSt) (c : Nat) : zSt := zAs (zR1 S c) 13 c (zar S 13 c + nI 1)
theorem Inv.no (h : Inv pk S d) {c : Nat} (hc : c < 8) : Inv pk (zR2 S c) d := by
  have hf : zFr (fun k => k = 22 ∨ k = 13) S (zR2 S c) := (zFr_As (Or.inl rfl)).trans (zFr_As (Or.inr rfl))
  refine ⟨h.k, h.l.fr h.k.1 hf (by omega) (fun k a b => by omega), h.r.fr0 hf (fun k a => by omega), h.pe.fr hf (fun q _ => by omega), h.sh.fr hf (by omega) (by omega) (by omega) (fun k a b => by omega), h.tr.fr hf rfl (by omega) (by omega) (by omega), ?_, h.fa, h.im.fr hf rfl rfl (by omega) (by omega) (fun k a b => by omega)⟩
  intro j hj
  unfold zR2 zR1
  rw [as_y, as_n (by decide), as_y]
  by_cases e : j = c
  · subst e
    rw [pk_us, pk_us, h.rf j hj]
  · rw [pk_un e, pk_un e, h.rf j hj, as_n (by decide)]
theorem r1_a {c k : Nat} (h : k ≠ 22) : zar (zR1 S c) k = zar S k := as_n h
theorem r1_s {c : Nat} : zsc (zR1 S c) = zsc S := nr rfl
theorem r1_l {c : Nat} : zlo (zR1 S c) = zlo S := nr rfl
theorem l_refl (pk : Nat → Nat) (S : zSt) {c : Nat} (h1 : 1 ≤ c) (h2 : c ≤ 7) (x : Int32) : M_X11_refuseLess pk S (-nI c) x = some (-nI c - x, zR1 S c) := by
  unfold M_X11_refuseLess M_X11_refuseLess_B22 zR1
  have e1 : ¬ (-1 : Int32) < -nI c := by
    show ¬ -nI 1 < -nI c
    rw [m_mlt (by omega) (by omega)]; omega
  have e2 : ¬ -nI c < (-7 : Int32) := by
    show ¬ -nI c < -nI 7
    rw [m_mlt (by omega) (by omega)]; omega
  rw [if_neg e1, if_neg e2]
  simp (disch := omega) only [li, lo, c_le, c_lt, c_eq, c_cl, c_sub, nI_add, pk_mul, zin_nI, zg_true, ob_some, zm_none, zm_some, if_pos, if_neg, if_true, if_false, Bool.false_eq_true, d_t, d_f, ob_eta, ob_eta1, m_ltn, m_nlt, m_nle, m_len, m_ne, m_ne', m_mlt, m_mle, m_meq, m_neg]
theorem l_ref (pk : Nat → Nat) (S : zSt) {c : Nat} (h1 : 1 ≤ c) (h2 : c ≤ 7) : M_X11_refuse pk S (-nI c) = some (-nI c, zR1 S c) := by
  unfold M_X11_refuse
  rw [l_refl pk S h1 h2]
  have : -nI c - 0 = -nI c := Int32.sub_zero _
  rw [this]
  rfl
theorem r_no (S : zSt) {c : Nat} (h1 : 1 ≤ c) (h2 : c ≤ 7) : M_X12_no (zR1 S c) (-nI c) = some (-nI c, zR2 S c) := by
  unfold M_X12_no zR2
  simp (disch := omega) only [li, lo, c_le, c_lt, c_eq, c_cl, c_sub, nI_add, pk_mul, zin_nI, zg_true, ob_some, zm_none, zm_some, if_pos, if_neg, if_true, if_false, Bool.false_eq_true, d_t, d_f, ob_eta, ob_eta1, m_ltn, m_nlt, m_nle, m_len, m_ne, m_ne', m_mlt, m_mle, m_meq, m_neg, r1_a]
theorem r_no10 (S : zSt) {c : Nat} (h1 : 1 ≤ c) (h2 : c ≤ 7) : M_X12_no10 (zR1 S c) (-nI c) = some (-nI c - nI 10, zR2 S c) := by
  unfold M_X12_no10
  rw [r_no S h1 h2]
  rfl
/-- both answer alike, and it holds again -/
def zStp (pk : Nat → Nat) (o1 : Option (Int32 × zSt)) (o2 : zSt → Option (Int32 × zSt)) : Prop := ∃ r S1 S2, o1 = some (r, S1) ∧ o2 S1 = some (r, S2) ∧ ∃ d, Inv pk S2 d
theorem st_no (h : Inv pk S d) (c : Nat) {o1 : Option (Int32 × zSt)} {o2 : zSt → Option (Int32 × zSt)} (h1 : 1 ≤ c) (h2 : c ≤ 7) (e1 : o1 = M_X11_refuse pk S (-nI c)) (e2 : o2 (zR1 S c) = M_X12_no (zR1 S c) (-nI c)) : zStp pk o1 o2 := ⟨_, _, _, e1.trans (l_ref pk S h1 h2), e2.trans (r_no S h1 h2), d, h.no (by omega)⟩
theorem st_no10 (h : Inv pk S d) (c : Nat) {o1 : Option (Int32 × zSt)} {o2 : zSt → Option (Int32 × zSt)} (h1 : 1 ≤ c) (h2 : c ≤ 7) (e1 : o1 = M_X11_refuseLess pk S (-nI c) (nI 10)) (e2 : o2 (zR1 S c) = M_X12_no10 (zR1 S c) (-nI c)) : zStp pk o1 o2 := ⟨_, _, _, e1.trans (l_refl pk S h1 h2 _), e2.trans (r_no10 S h1 h2), d, h.no (by omega)⟩
theorem st_eq (h : Inv pk S d) {o1 : Option (Int32 × zSt)} {o2 : zSt → Option (Int32 × zSt)} (r : Int32) (e1 : o1 = some (r, S)) (e2 : o2 S = some (r, S)) : zStp pk o1 o2 := ⟨r, S, S, e1, e2, d, h⟩
/-! who is asked for -/
theorem l_perN {i : Nat} (h : LL i pk S d) {x : Int32} (hx : x < nI 0 ∨ nI (dn d) ≤ x) : M_X4_personAt pk S i x = some none := by
  unfold M_X4_personAt M_X4_personAt_B18
  by_cases e : x < 0
  · rw [if_pos e]
  · rw [if_neg e, if_pos]
    rw [h.1]
    exact hx.resolve_left e
theorem l_perY {i : Nat} (h : LL i pk S d) (hn : dn d ≤ 6) (hp : p < dn d) : M_X4_personAt pk S i (nI p) = some (some (6 * i + p)) := by
  unfold M_X4_personAt
  simp (disch := omega) only [li, lo, c_le, c_lt, c_eq, c_cl, c_sub, nI_add, pk_mul, zin_nI, zg_true, ob_some, zm_none, zm_some, if_pos, if_neg, if_true, if_false, Bool.false_eq_true, d_t, d_f, ob_eta, ob_eta1, m_ltn, m_nlt, m_nle, m_len, m_ne, m_ne', m_mlt, m_mle, m_meq, m_neg, h.1, (h.pe hp).who]
theorem r_isP (T : zSt) {x a b : Int32} {v : Nat} (hv : v < 2) (e : M_X12_within T x a b = some (nI v)) : Option.bind (M_X12_within T x a b) (fun w1 => zg (decide ((w1 &&& 1) = w1)) (some w1)) = some (nI v) := by
  rw [e]
  match v, hv with
  | 0, _ => rfl
  | 1, _ => rfl
theorem w_lo (T : zSt) {x a b : Int32} (h : x < a) : M_X12_within T x a b = some (nI 0) := if_pos h
theorem w_hi (T : zSt) {x a b : Int32} (h : b < x) : M_X12_within T x a b = some (nI 0) := by
  unfold M_X12_within
  by_cases e : x < a
  · rw [if_pos e]; rfl
  · rw [if_neg e, if_pos h]; rfl
theorem w_in (T : zSt) {x a b : Int32} (h1 : ¬ x < a) (h2 : ¬ b < x) : M_X12_within T x a b = some (nI 1) := by
  unfold M_X12_within
  rw [if_neg h1, if_neg h2]; rfl
theorem w_n (T : zSt) {j a b : Nat} (ha : a ≤ j) (hb : j ≤ b) (h : b < 2147483648) : M_X12_within T (nI j) (nI a) (nI b) = some (nI 1) := w_in T (by rw [c_lt (by omega) (by omega)]; omega) (by rw [c_lt (by omega) (by omega)]; omega)
theorem r_perN (h : zsc T 0 3 = nI n) (hn : n < 1000) {x : Int32} (hx : x < nI 0 ∨ nI n ≤ x) : M_X12_isPerson T x = some (nI 0) := by
  unfold M_X12_isPerson
  rw [h]
  apply r_isP T (by decide)
  by_cases e : x < 0
  · exact w_lo T e
  · apply w_hi
    have h2 := hx.resolve_left e
    rcases n with _ | n
    · show nI 0 - 1 < x
      have h3 : (nI 0 - 1 : Int32) < nI 0 := by decide
      exact Int32.lt_of_lt_of_le h3 h2
    · rw [nI_pred]
      exact Int32.lt_of_lt_of_le (by rw [c_lt (by omega) (by omega)]; omega) h2
theorem r_perY (h : zsc T 0 3 = nI n) (hn : n < 1000) (hp : p < n) : M_X12_isPerson T (nI p) = some (nI 1) := by
  unfold M_X12_isPerson
  rw [h]
  apply r_isP T (by decide)
  obtain ⟨k, rfl⟩ : ∃ k, n = k + 1 := ⟨n - 1, by omega⟩
  rw [nI_pred]
  exact w_n T (Nat.zero_le _) (by omega) (by omega)
theorem r_isCopyN {x : Int32} (hx : x < nI 0 ∨ nI 5 < x) : M_X12_isCopy T x = some (nI 0) := by
  unfold M_X12_isCopy
  apply r_isP T (by decide)
  rcases hx with h | h
  · exact w_lo T h
  · exact w_hi T h
theorem r_isCopyY {c : Nat} (hc : c < 6) : M_X12_isCopy T (nI c) = some (nI 1) := by
  unfold M_X12_isCopy
  apply r_isP T (by decide)
  exact w_n (b := 5) T (Nat.zero_le _) (by omega) (by decide)
theorem r_isDeedN {x : Int32} (hx : x < nI 0 ∨ nI 7 < x) : M_X12_isDeed T x = some (nI 0) := by
  unfold M_X12_isDeed
  apply r_isP T (by decide)
  rcases hx with h | h
  · exact w_lo T h
  · exact w_hi T h
theorem r_isDeedY {c : Nat} (hc : c < 8) : M_X12_isDeed T (nI c) = some (nI 1) := by
  unfold M_X12_isDeed
  apply r_isP T (by decide)
  exact w_n (b := 7) T (Nat.zero_le _) (by omega) (by decide)
/-- a copy, or none -/
theorem cCopy (x : Int32) : ((∀ pk S, M_X11_isCopy pk S x = some (nI 0)) ∧ (∀ T, M_X12_isCopy T x = some (nI 0)) ∧ (x < nI 0 ∨ nI 6 ≤ x)) ∨ ∃ c, c < 6 ∧ x = nI c := by
  rcases ix x 6 (by decide) (by decide) with ⟨h1, h2⟩ | ⟨h1, h2, h3, h4, h5, h6⟩ | h
  · refine Or.inl ⟨fun pk S => if_pos h1, fun T => r_isCopyN (Or.inl h1), Or.inl h1⟩
  · refine Or.inl ⟨fun pk S => ?_, fun T => r_isCopyN (Or.inr h4), Or.inr h3⟩
    unfold M_X11_isCopy
    simp (disch := omega) only [li, lo, c_le, c_lt, c_eq, c_cl, c_sub, nI_add, pk_mul, zin_nI, zg_true, ob_some, zm_none, zm_some, if_pos, if_neg, if_true, if_false, Bool.false_eq_true, d_t, d_f, ob_eta, ob_eta1, m_ltn, m_nlt, m_nle, m_len, m_ne, m_ne', m_mlt, m_mle, m_meq, m_neg, h1, h3]
  · exact Or.inr h
theorem cDeed (x : Int32) : ((∀ pk S, M_X11_isDeed pk S x = some (nI 0)) ∧ (∀ T, M_X12_isDeed T x = some (nI 0)) ∧ (x < nI 0 ∨ nI 8 ≤ x)) ∨ ∃ c, c < 8 ∧ x = nI c := by
  rcases ix x 8 (by decide) (by decide) with ⟨h1, h2⟩ | ⟨h1, h2, h3, h4, h5, h6⟩ | h
  · refine Or.inl ⟨fun pk S => if_pos h1, fun T => r_isDeedN (Or.inl h1), Or.inl h1⟩
  · refine Or.inl ⟨fun pk S => ?_, fun T => r_isDeedN (Or.inr h4), Or.inr h3⟩
    unfold M_X11_isDeed
    simp (disch := omega) only [li, lo, c_le, c_lt, c_eq, c_cl, c_sub, nI_add, pk_mul, zin_nI, zg_true, ob_some, zm_none, zm_some, if_pos, if_neg, if_true, if_false, Bool.false_eq_true, d_t, d_f, ob_eta, ob_eta1, m_ltn, m_nlt, m_nle, m_len, m_ne, m_ne', m_mlt, m_mle, m_meq, m_neg, h1, h3]
  · exact Or.inr h
/-- a person, or none -/
theorem cPer (h : Inv pk S d) (x : Int32) : (M_X4_personAt pk S 0 x = some none ∧ (∀ T, zsc T 0 3 = zsc S 0 3 → M_X12_isPerson T x = some (nI 0)) ∧ (x < nI 0 ∨ nI (dn d) ≤ x)) ∨ ∃ p, p < dn d ∧ x = nI p ∧ M_X4_personAt pk S 0 x = some (some (6 * 0 + p)) ∧ (∀ T, zsc T 0 3 = zsc S 0 3 → M_X12_isPerson T x = some (nI 1)) ∧ p < 6 ∧ zOKb pk (6 * 0 + p) = true := by
  have hn := h.k.1
  have hr := h.r.1
  rcases pk_ix x (n := dn d) (by omega) with e | e | ⟨p, hp, rfl⟩
  · exact Or.inl ⟨l_perN h.l (Or.inl e), fun T q => r_perN (q.trans hr) (by omega) (Or.inl e), Or.inl e⟩
  · exact Or.inl ⟨l_perN h.l (Or.inr e), fun T q => r_perN (q.trans hr) (by omega) (Or.inr e), Or.inr e⟩
  · exact Or.inr ⟨p, hp, rfl, l_perY h.l hn hp, fun T q => r_perY (q.trans hr) (by omega) hp, by omega, (h.l.pe hp).ok (by omega)⟩
theorem l_isLeft {q c : Nat} (h : Lp pk S q d p) (ho : dou d p ≤ 6) (hc : c < 6) : M_X5_isLeft pk S q (nI c) = some (if c < dou d p then nI 0 else nI 1) := by
  unfold M_X5_isLeft
  by_cases e : c < dou d p
  · simp (disch := omega) only [li, lo, c_le, c_lt, c_eq, c_cl, c_sub, nI_add, pk_mul, zin_nI, zg_true, ob_some, zm_none, zm_some, if_pos, if_neg, if_true, if_false, Bool.false_eq_true, d_t, d_f, ob_eta, ob_eta1, m_ltn, m_nlt, m_nle, m_len, m_ne, m_ne', m_mlt, m_mle, m_meq, m_neg, h.ou, e]
  · simp (disch := omega) only [li, lo, c_le, c_lt, c_eq, c_cl, c_sub, nI_add, pk_mul, zin_nI, zg_true, ob_some, zm_none, zm_some, if_pos, if_neg, if_true, if_false, Bool.false_eq_true, d_t, d_f, ob_eta, ob_eta1, m_ltn, m_nlt, m_nle, m_len, m_ne, m_ne', m_mlt, m_mle, m_meq, m_neg, h.ou, e, t_isCopy pk S hc]
theorem l_isLeftN {q : Nat} (h : Lp pk S q d p) (ho : dou d p ≤ 6) {x : Int32} (hx : M_X11_isCopy pk S x = some (nI 0)) : M_X5_isLeft pk S q x = some (nI 0) := by
  unfold M_X5_isLeft
  rw [hx]
  split <;> rfl
theorem r_lives {c : Nat} (h : zar T 7 p = nI (dou d p)) (hp : p < 6) (ho : dou d p ≤ 6) (hc : c < 6) : M_X12_lives T (nI p) (nI c) = some (if c < dou d p then nI 0 else nI 1) := by
  unfold M_X12_lives
  rw [r_isCopyY hc]
  by_cases e : c < dou d p
  · simp (disch := omega) only [li, lo, c_le, c_lt, c_eq, c_cl, c_sub, nI_add, pk_mul, zin_nI, zg_true, ob_some, zm_none, zm_some, if_pos, if_neg, if_true, if_false, Bool.false_eq_true, d_t, d_f, ob_eta, ob_eta1, m_ltn, m_nlt, m_nle, m_len, m_ne, m_ne', m_mlt, m_mle, m_meq, m_neg, h, e]
  · simp (disch := omega) only [li, lo, c_le, c_lt, c_eq, c_cl, c_sub, nI_add, pk_mul, zin_nI, zg_true, ob_some, zm_none, zm_some, if_pos, if_neg, if_true, if_false, Bool.false_eq_true, d_t, d_f, ob_eta, ob_eta1, m_ltn, m_nlt, m_nle, m_len, m_ne, m_ne', m_mlt, m_mle, m_meq, m_neg, h, e]
theorem r_livesN {x : Int32} (hx : M_X12_isCopy T x = some (nI 0)) (y : Int32) : M_X12_lives T y x = some (nI 0) := by
  unfold M_X12_lives
  rw [hx]
  rfl
theorem l_isGone {q : Nat} (h : Lp pk S q d p) (ho : dou d p ≤ 6) : M_X5_isGone pk S q = some (if dou d p < 6 then nI 0 else nI 1) := by
  unfold M_X5_isGone
  by_cases e : dou d p < 6
  · simp (disch := omega) only [li, lo, c_le, c_lt, c_eq, c_cl, c_sub, nI_add, pk_mul, zin_nI, zg_true, ob_some, zm_none, zm_some, if_pos, if_neg, if_true, if_false, Bool.false_eq_true, d_t, d_f, ob_eta, ob_eta1, m_ltn, m_nlt, m_nle, m_len, m_ne, m_ne', m_mlt, m_mle, m_meq, m_neg, h.ou, e]
  · simp (disch := omega) only [li, lo, c_le, c_lt, c_eq, c_cl, c_sub, nI_add, pk_mul, zin_nI, zg_true, ob_some, zm_none, zm_some, if_pos, if_neg, if_true, if_false, Bool.false_eq_true, d_t, d_f, ob_eta, ob_eta1, m_ltn, m_nlt, m_nle, m_len, m_ne, m_ne', m_mlt, m_mle, m_meq, m_neg, h.ou, e]
end INV
