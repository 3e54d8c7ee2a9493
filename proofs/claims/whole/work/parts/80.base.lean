/-! THE PURE PART: class and reference, tied by the data of a land -/
/-- an equation that no one takes for a reduction (else the kernel unrolls the loops) -/
theorem nr {α : Type} {a b : α} (h : a = b) : a = b := by
  cases h
  exact (Eq.trans (Eq.refl a) (Eq.symm (Eq.refl a)))
theorem li (k : Nat) : (OfNat.ofNat k : Int32) = nI (OfNat.ofNat k) := nr rfl
theorem lo (k : Nat) : Int32.ofNat k = nI k := nr rfl
theorem zin_nI {k n : Nat} (h : k < n) (hn : n < 2147483648) : zin (nI k) n = true := by
  unfold zin
  rw [nI_clamp (by omega)]
  have h1 : ¬ nI k < 0 := nI_pos (by omega)
  simp [h1]
  omega
theorem c_le {a b : Nat} (ha : a < 2147483648) (hb : b < 2147483648) : (nI a ≤ nI b) = (a ≤ b) := propext (nI_leI (by omega) (by omega))
theorem c_lt {a b : Nat} (ha : a < 2147483648) (hb : b < 2147483648) : (nI a < nI b) = (a < b) := propext (nI_ltI (by omega) (by omega))
theorem c_eq {a b : Nat} (ha : a < 2147483648) (hb : b < 2147483648) : (nI a = nI b) = (a = b) := propext (nI_eq (by omega) (by omega))
theorem c_cl {n : Nat} (h : n < 2147483648) : (nI n).toNatClampNeg = n := nI_clamp (by omega)
theorem c_sub {a b : Nat} (h : b ≤ a) : nI a - nI b = nI (a - b) := pk_sub h
theorem ob_some {α β : Type} (x : α) (f : α → Option β) : Option.bind (some x) f = f x := nr rfl
theorem ob_eta {α β : Type} (x : Option (α × β)) : Option.bind x (fun w => some (w.1, w.2)) = x := by cases x <;> rfl
theorem ob_eta1 {α : Type} (x : Option α) : Option.bind x (fun w => some w) = x := by cases x <;> rfl
theorem zm_none {β : Type} {x : β} {f : Nat → β} : zm none x f = x := nr rfl
theorem zm_some {β : Type} {a : Nat} {x : β} {f : Nat → β} : zm (some a) x f = f a := nr rfl
theorem d_t {i : Decidable True} : @decide True i = true := by simp
theorem d_f {i : Decidable False} : @decide False i = false := by simp
theorem zg_true {α : Type} (x : Option α) : zg true x = x := nr rfl
theorem d_of {p : Prop} [Decidable p] (h : p) : decide p = true := decide_eq_true h
theorem not_lt0 {k : Nat} (h : k < 2147483648) : ¬ nI k < nI 0 := by rw [c_lt h (by decide)]; omega
theorem m_toInt {k : Nat} (h : k < 2147483648) : (-nI k).toInt = -(k : Int) := sb_negT (by omega)
theorem n_toInt {k : Nat} (h : k < 2147483648) : (nI k).toInt = (k : Int) := nI_toInt (by omega)
theorem m_lt0 {k : Nat} (h : 0 < k) (h2 : k < 2147483648) : -nI k < nI 0 := by
  rw [Int32.lt_iff_toInt_lt, m_toInt h2, n_toInt (by decide)]; omega
theorem m_ltn {k j : Nat} (h : 0 < k) (h2 : k < 2147483648) (hj : j < 2147483648) : (-nI k < nI j) = True := by
  apply propext; simp only [iff_true]; rw [Int32.lt_iff_toInt_lt, m_toInt h2, n_toInt hj]; omega
theorem m_nlt {k j : Nat} (h2 : k < 2147483648) (hj : j < 2147483648) : (nI j < -nI k) = False := by
  apply propext; simp only [iff_false]; rw [Int32.lt_iff_toInt_lt, m_toInt h2, n_toInt hj]; omega
theorem m_nle {k j : Nat} (h : 0 < k) (h2 : k < 2147483648) (hj : j < 2147483648) : (nI j ≤ -nI k) = False := by
  apply propext; simp only [iff_false]; rw [Int32.le_iff_toInt_le, m_toInt h2, n_toInt hj]; omega
theorem m_len {k j : Nat} (h2 : k < 2147483648) (hj : j < 2147483648) : (-nI k ≤ nI j) = True := by
  apply propext; simp only [iff_true]; rw [Int32.le_iff_toInt_le, m_toInt h2, n_toInt hj]; omega
theorem m_ne {k j : Nat} (h : 0 < k) (h2 : k < 2147483648) (hj : j < 2147483648) : (nI j = -nI k) = False := by
  apply propext; simp only [iff_false]; intro e
  have := congrArg Int32.toInt e
  rw [m_toInt h2, n_toInt hj] at this; omega
theorem m_ne' {k j : Nat} (h : 0 < k) (h2 : k < 2147483648) (hj : j < 2147483648) : (-nI k = nI j) = False := by
  have e := m_ne h h2 hj
  apply propext; simp only [iff_false]; intro q; exact e ▸ q.symm
theorem m_mlt {k j : Nat} (h2 : k < 2147483648) (hj : j < 2147483648) : (-nI j < -nI k) = (k < j) := by
  apply propext; rw [Int32.lt_iff_toInt_lt, m_toInt h2, m_toInt hj]; omega
theorem m_mle {k j : Nat} (h2 : k < 2147483648) (hj : j < 2147483648) : (-nI j ≤ -nI k) = (k ≤ j) := by
  apply propext; rw [Int32.le_iff_toInt_le, m_toInt h2, m_toInt hj]; omega
theorem m_meq {k j : Nat} (h2 : k < 2147483648) (hj : j < 2147483648) : (-nI j = -nI k) = (j = k) := by
  apply propext
  constructor
  · intro e
    have := congrArg Int32.toInt e
    rw [m_toInt h2, m_toInt hj] at this; omega
  · intro e; rw [e]
theorem m_neg {k : Nat} : - -nI k = nI k := Int32.neg_neg
theorem ix (x : Int32) (n : Nat) (h0 : 0 < n) (hn : n < 2147483648) : (x < nI 0 ∧ ¬ nI 0 ≤ x) ∨ (¬ x < nI 0 ∧ nI 0 ≤ x ∧ nI n ≤ x ∧ nI (n - 1) < x ∧ ¬ x < nI n ∧ ¬ x ≤ nI (n - 1)) ∨ ∃ j, j < n ∧ x = nI j := by
  rcases pk_ix x (n := n) (by omega) with h | h | h
  · left
    exact ⟨h, fun q => by have := Int32.lt_of_le_of_lt q h; exact Int32.lt_irrefl this⟩
  · right; left
    have h1 : nI (n - 1) < nI n := by rw [c_lt (by omega) (by omega)]; omega
    have h2 : nI (n - 1) < x := Int32.lt_of_lt_of_le h1 h
    have h3 : nI 0 ≤ nI n := by rw [c_le (by omega) (by omega)]; omega
    have h4 : nI 0 ≤ x := Int32.le_trans h3 h
    exact ⟨Int32.not_lt.mpr h4, h4, h, h2, Int32.not_lt.mpr h, Int32.not_le.mpr h2⟩
  · exact Or.inr (Or.inr h)
/-! a fold over numbers, and the loops that are one -/
def sFo {α : Type} (g : α → Nat → α) : Nat → Nat → α → α
  | _, 0, acc => acc
  | i, m + 1, acc => sFo g (i + 1) m (g acc i)
theorem lp {α β : Type} (M : Nat → α → Int32 → Option β) (g : α → Nat → α) (fin : α → β) (e : Nat) (hs : ∀ n acc, M (n + 1) acc (nI e) = some (fin acc)) (hx : ∀ n acc i, i < e → M (n + 1) acc (nI i) = M n (g acc i) (nI (i + 1))) : ∀ (m i n : Nat) (acc : α), i + m = e → m < n → M n acc (nI i) = some (fin (sFo g i m acc)) := by
  intro m
  induction m with
  | zero =>
    intro i n acc h hn
    obtain ⟨n, rfl⟩ : ∃ k, n = k + 1 := ⟨n - 1, by omega⟩
    obtain rfl : i = e := by omega
    exact hs n acc
  | succ m ih =>
    intro i n acc h hn
    obtain ⟨n, rfl⟩ : ∃ k, n = k + 1 := ⟨n - 1, by omega⟩
    rw [hx n acc i (by omega)]
    exact ih (i + 1) n (g acc i) (by omega) (by omega)
/-- with what holds of the numbers on the way -/
theorem lpI {α β : Type} (M : Nat → α → Int32 → Option β) (g : α → Nat → α) (fin : α → β) (I : Nat → α → Prop) (e : Nat) (hs : ∀ n acc, I e acc → M (n + 1) acc (nI e) = some (fin acc)) (hx : ∀ n acc i, i < e → I i acc → I (i + 1) (g acc i) ∧ M (n + 1) acc (nI i) = M n (g acc i) (nI (i + 1))) : ∀ (m i n : Nat) (acc : α), I i acc → i + m = e → m < n → M n acc (nI i) = some (fin (sFo g i m acc)) ∧ I e (sFo g i m acc) := by
  intro m
  induction m with
  | zero =>
    intro i n acc hi h hn
    obtain ⟨n, rfl⟩ : ∃ k, n = k + 1 := ⟨n - 1, by omega⟩
    obtain rfl : i = e := by omega
    exact ⟨hs n acc hi, hi⟩
  | succ m ih =>
    intro i n acc hi h hn
    obtain ⟨n, rfl⟩ : ∃ k, n = k + 1 := ⟨n - 1, by omega⟩
    obtain ⟨h1, h2⟩ := hx n acc i (by omega) hi
    rw [h2]
    exact ih (i + 1) n (g acc i) h1 (by omega) (by omega)
theorem sFo_congr {α : Type} {g g' : α → Nat → α} : ∀ (m i : Nat) (acc : α), (∀ j a, i ≤ j → j < i + m → g a j = g' a j) → sFo g i m acc = sFo g' i m acc := by
  intro m
  induction m with
  | zero => intro i acc h; rfl
  | succ m ih =>
    intro i acc h
    unfold sFo
    rw [h i acc (by omega) (by omega)]
    exact ih _ _ (fun j a h1 h2 => h j a (by omega) (by omega))
/-! what a call leaves as it was -/
def zFr (P : Nat → Prop) (S S' : zSt) : Prop := ∀ k, ¬ P k → zsc S' k = zsc S k ∧ zar S' k = zar S k ∧ zlo S' k = zlo S k
section FR
variable {P Q : Nat → Prop} {S S' S'' : zSt}
theorem zFr.rf : zFr P S S := fun _ _ => ⟨rfl, rfl, rfl⟩
theorem zFr.trans (h : zFr P S S') (h' : zFr P S' S'') : zFr P S S'' := fun k q => ⟨(h' k q).1.trans (h k q).1, (h' k q).2.1.trans (h k q).2.1, (h' k q).2.2.trans (h k q).2.2⟩
theorem zFr.mono (h : zFr P S S') (hq : ∀ k, P k → Q k) : zFr Q S S' := fun k q => h k (fun p => q (hq k p))
theorem zFr_P {k f : Nat} {v : Int32} (h : P k) : zFr P S (zP S k f v) := fun j q => ⟨zP_sc (fun e => q (e ▸ h)), rfl, rfl⟩
theorem zFr_A {k : Nat} {g : Nat → Int32} (h : P k) : zFr P S (zA S k g) := fun j q => ⟨rfl, zA_ar (fun e => q (e ▸ h)), rfl⟩
theorem zFr_L {k : Nat} {g : Nat → Int64} (h : P k) : zFr P S (zL S k g) := fun j q => ⟨rfl, rfl, zL_lo (fun e => q (e ▸ h))⟩
theorem zFr_As {k j : Nat} {v : Int32} (h : P k) : zFr P S (zAs S k j v) := zFr_A h
theorem zFr_Ls {k j : Nat} {v : Int64} (h : P k) : zFr P S (zLs S k j v) := zFr_L h
theorem zFr.sc (h : zFr P S S') {k : Nat} (hk : ¬ P k) : zsc S' k = zsc S k := (h k hk).1
theorem zFr.ar (h : zFr P S S') {k : Nat} (hk : ¬ P k) : zar S' k = zar S k := (h k hk).2.1
theorem zFr.lo (h : zFr P S S') {k : Nat} (hk : ¬ P k) : zlo S' k = zlo S k := (h k hk).2.2
theorem as_s {k j : Nat} {v : Int32} : zsc (zAs S k j v) = zsc S := nr rfl
theorem as_l {k j : Nat} {v : Int32} : zlo (zAs S k j v) = zlo S := nr rfl
theorem as_n {k j k' : Nat} {v : Int32} (h : k' ≠ k) : zar (zAs S k j v) k' = zar S k' := zA_ar h
theorem as_y {k j : Nat} {v : Int32} : zar (zAs S k j v) k = upd (zar S k) j v := zA_ar'
theorem ls_s {k j : Nat} {v : Int64} : zsc (zLs S k j v) = zsc S := nr rfl
theorem ls_a {k j : Nat} {v : Int64} : zar (zLs S k j v) = zar S := nr rfl
theorem ls_n {k j k' : Nat} {v : Int64} (h : k' ≠ k) : zlo (zLs S k j v) k' = zlo S k' := zL_lo h
theorem ls_y {k j : Nat} {v : Int64} : zlo (zLs S k j v) k = vp_updL (zlo S k) j v := zL_lo'
theorem p_a {k f : Nat} {v : Int32} : zar (zP S k f v) = zar S := nr rfl
theorem p_l {k f : Nat} {v : Int32} : zlo (zP S k f v) = zlo S := nr rfl
theorem p_n {k f k' : Nat} {v : Int32} (h : k' ≠ k) : zsc (zP S k f v) k' = zsc S k' := zP_sc h
theorem p_y {k f f' : Nat} {v : Int32} : zsc (zP S k f v) k f' = if f' = f then v else zsc S k f' := by rw [zP_sc']
theorem a_s {k : Nat} {g : Nat → Int32} : zsc (zA S k g) = zsc S := nr rfl
theorem a_l {k : Nat} {g : Nat → Int32} : zlo (zA S k g) = zlo S := nr rfl
theorem a_n {k k' : Nat} {g : Nat → Int32} (h : k' ≠ k) : zar (zA S k g) k' = zar S k' := zA_ar h
theorem a_y {k : Nat} {g : Nat → Int32} : zar (zA S k g) k = g := zA_ar'
theorem l_s {k : Nat} {g : Nat → Int64} : zsc (zL S k g) = zsc S := nr rfl
theorem l_a {k : Nat} {g : Nat → Int64} : zar (zL S k g) = zar S := nr rfl
theorem l_n {k k' : Nat} {g : Nat → Int64} (h : k' ≠ k) : zlo (zL S k g) k' = zlo S k' := zL_lo h
theorem l_y {k : Nat} {g : Nat → Int64} : zlo (zL S k g) k = g := zL_lo'
end FR
/-! THE DATA OF A LAND: how many; kinds; who is out; least; seed; of each person 48 strengths, 6 smears, 6 drifts, a, thick -/
abbrev zD : Type := Nat × (Nat → Nat) × (Nat → Nat) × Int32 × Int32 × (Nat → Nat → Int32)
def dn (d : zD) : Nat := d.1
def dk (d : zD) : Nat → Nat := d.2.1
def dou (d : zD) : Nat → Nat := d.2.2.1
def dle (d : zD) : Int32 := d.2.2.2.1
def dse (d : zD) : Int32 := d.2.2.2.2.1
def dv (d : zD) : Nat → Nat → Int32 := d.2.2.2.2.2
/-- the class's number of a kind -/
def kcn (k : Nat) : Nat := if k = 0 then 6 else if k = 1 then 9 else if k = 2 then 3 else if k = 3 then 11 else if k = 4 then 4 else if k = 5 then 1 else 2
/-- person p of the data stands in place q of the class -/
def Lp (pk : Nat → Nat) (S : zSt) (q : Nat) (d : zD) (p : Nat) : Prop := pk q = kcn (dk d p) ∧ zsc S (100 + 4 * q) 0 = nI (dk d p) ∧ zsc S (100 + 4 * q) 1 = nI p ∧ zsc S (100 + 4 * q) 6 = dv d p 60 ∧ zsc S (100 + 4 * q) 7 = dv d p 61 ∧ zsc S (100 + 4 * q) 8 = nI (dou d p) ∧ (∀ c, c < 6 → zar S (100 + 4 * q + 2) c = dv d p (48 + c)) ∧ (∀ c, c < 6 → zar S (100 + 4 * q + 3) c = dv d p (54 + c)) ∧ ∀ j, j < 48 → zar S (100 + 4 * q + 1) j = dv d p j
/-- person p of the data is the reference's person p -/
def Rp (T : zSt) (d : zD) (p : Nat) : Prop := zar T 4 p = nI (dk d p) ∧ zar T 5 p = dv d p 60 ∧ zar T 6 p = dv d p 61 ∧ zar T 7 p = nI (dou d p) ∧ (∀ c, c < 6 → zar T 8 (6 * p + c) = dv d p (48 + c)) ∧ (∀ c, c < 6 → zar T 9 (6 * p + c) = dv d p (54 + c)) ∧ ∀ j, j < 48 → zar T 10 (48 * p + j) = dv d p j
/-- what stays so of a person -/
def Kp (d : zD) (p : Nat) : Prop := dk d p ≤ 6 ∧ dou d p ≤ 6 ∧ ∃ a, a ≤ 9 ∧ dv d p 60 = nI a
def LL (i : Nat) (pk : Nat → Nat) (S : zSt) (d : zD) : Prop := zsc S (60 + 3 * i) 3 = nI (dn d) ∧ zsc S (60 + 3 * i) 4 = dle d ∧ zsc S (60 + 3 * i) 5 = dse d ∧ ∀ p, p < dn d → Lp pk S (6 * i + p) d p
def RR (T : zSt) (d : zD) : Prop := zsc T 0 3 = nI (dn d) ∧ zsc T 0 11 = dle d ∧ zsc T 0 12 = dse d ∧ ∀ p, p < dn d → Rp T d p
def KK (d : zD) : Prop := dn d ≤ 6 ∧ (∃ l, 1 ≤ l ∧ l ≤ 99 ∧ dle d = nI l) ∧ ∀ p, p < dn d → Kp d p
/-- the reference's image in row k -/
def SN (k : Nat) (T : zSt) (d : zD) : Prop := zar T k 384 = nI (dn d) ∧ zar T k 385 = dle d ∧ zar T k 386 = dse d ∧ ∀ p, p < dn d → zar T k p = nI (dk d p) ∧ zar T k (6 + p) = dv d p 60 ∧ zar T k (12 + p) = dv d p 61 ∧ zar T k (18 + p) = nI (dou d p) ∧ (∀ c, c < 6 → zar T k (24 + (6 * p + c)) = dv d p (48 + c)) ∧ (∀ c, c < 6 → zar T k (60 + (6 * p + c)) = dv d p (54 + c)) ∧ ∀ j, j < 48 → zar T k (96 + (48 * p + j)) = dv d p j
/-- who stands in the places, as their own numbers tell -/
def PK (pk : Nat → Nat) (S : zSt) : Prop := ∀ q, q < 18 → pk q = 0 ∨ ∃ k, k ≤ 6 ∧ pk q = kcn k ∧ zsc S (100 + 4 * q) 0 = nI k ∧ zsc S (100 + 4 * q) 1 = nI (q % 6)
section ACC
variable {pk : Nat → Nat} {S S' T T' : zSt} {q p i : Nat} {d : zD}
theorem Lp.pq (h : Lp pk S q d p) : pk q = kcn (dk d p) := h.1
theorem Lp.knd (h : Lp pk S q d p) : zsc S (100 + 4 * q) 0 = nI (dk d p) := h.2.1
theorem Lp.num (h : Lp pk S q d p) : zsc S (100 + 4 * q) 1 = nI p := h.2.2.1
theorem Lp.a (h : Lp pk S q d p) : zsc S (100 + 4 * q) 6 = dv d p 60 := h.2.2.2.1
theorem Lp.th (h : Lp pk S q d p) : zsc S (100 + 4 * q) 7 = dv d p 61 := h.2.2.2.2.1
theorem Lp.ou (h : Lp pk S q d p) : zsc S (100 + 4 * q) 8 = nI (dou d p) := h.2.2.2.2.2.1
theorem Lp.sm (h : Lp pk S q d p) {c : Nat} (hc : c < 6) : zar S (100 + 4 * q + 2) c = dv d p (48 + c) := h.2.2.2.2.2.2.1 c hc
theorem Lp.dr (h : Lp pk S q d p) {c : Nat} (hc : c < 6) : zar S (100 + 4 * q + 3) c = dv d p (54 + c) := h.2.2.2.2.2.2.2.1 c hc
theorem Lp.st (h : Lp pk S q d p) {j : Nat} (hj : j < 48) : zar S (100 + 4 * q + 1) j = dv d p j := h.2.2.2.2.2.2.2.2 j hj
theorem Rp.knd (h : Rp T d p) : zar T 4 p = nI (dk d p) := h.1
theorem Rp.a (h : Rp T d p) : zar T 5 p = dv d p 60 := h.2.1
theorem Rp.th (h : Rp T d p) : zar T 6 p = dv d p 61 := h.2.2.1
theorem Rp.ou (h : Rp T d p) : zar T 7 p = nI (dou d p) := h.2.2.2.1
theorem Rp.sm (h : Rp T d p) {c : Nat} (hc : c < 6) : zar T 8 (6 * p + c) = dv d p (48 + c) := h.2.2.2.2.1 c hc
theorem Rp.dr (h : Rp T d p) {c : Nat} (hc : c < 6) : zar T 9 (6 * p + c) = dv d p (54 + c) := h.2.2.2.2.2.1 c hc
theorem Rp.st (h : Rp T d p) {j : Nat} (hj : j < 48) : zar T 10 (48 * p + j) = dv d p j := h.2.2.2.2.2.2 j hj
theorem Lp.fr {P : Nat → Prop} (h : Lp pk S q d p) (hf : zFr P S S') (hP : ∀ c, c < 4 → ¬ P (100 + 4 * q + c)) : Lp pk S' q d p := by
  have h0 := hf.sc (hP 0 (by decide))
  have h1 := hf.ar (hP 1 (by decide))
  have h2 := hf.ar (hP 2 (by decide))
  have h3 := hf.ar (hP 3 (by decide))
  simp only [Nat.add_zero] at h0
  unfold Lp
  rw [h0, h1, h2, h3]
  exact h
theorem LL.fr {P : Nat → Prop} (h : LL i pk S d) (hn : dn d ≤ 6) (hf : zFr P S S') (h0 : ¬ P (60 + 3 * i)) (hP : ∀ k, 100 + 24 * i ≤ k → k < 124 + 24 * i → ¬ P k) : LL i pk S' d := by
  obtain ⟨a, b, c, e⟩ := h
  have h0 := hf.sc h0
  refine ⟨by rw [h0, a], by rw [h0, b], by rw [h0, c], fun p hp => (e p hp).fr hf (fun c hc => hP _ (by omega) (by omega))⟩
theorem Rp.fr {P : Nat → Prop} (h : Rp T d p) (hf : zFr P T T') (hP : ∀ k, 4 ≤ k → k ≤ 10 → ¬ P k) : Rp T' d p := by
  unfold Rp
  rw [hf.ar (hP 4 (by decide) (by decide)), hf.ar (hP 5 (by decide) (by decide)), hf.ar (hP 6 (by decide) (by decide)), hf.ar (hP 7 (by decide) (by decide)), hf.ar (hP 8 (by decide) (by decide)), hf.ar (hP 9 (by decide) (by decide)), hf.ar (hP 10 (by decide) (by decide))]
  exact h
theorem RR.fr {P : Nat → Prop} (h : RR T d) (hf : zFr P T T') (h3 : zsc T' 0 3 = zsc T 0 3) (h11 : zsc T' 0 11 = zsc T 0 11) (h12 : zsc T' 0 12 = zsc T 0 12) (hP : ∀ k, 4 ≤ k → k ≤ 10 → ¬ P k) : RR T' d := by
  obtain ⟨a, b, c, e⟩ := h
  exact ⟨h3.trans a, h11.trans b, h12.trans c, fun p hp => (e p hp).fr hf hP⟩
theorem RR.fr0 {P : Nat → Prop} (h : RR T d) (hf : zFr P T T') (hP : ∀ k, k ≤ 10 → ¬ P k) : RR T' d := by
  have h0 := hf.sc (hP 0 (by decide))
  exact h.fr hf (by rw [h0]) (by rw [h0]) (by rw [h0]) (fun k _ q => hP k q)
theorem SN.fr {P : Nat → Prop} {k : Nat} (h : SN k T d) (hf : zFr P T T') (hP : ¬ P k) : SN k T' d := by
  unfold SN
  rw [hf.ar hP]
  exact h
theorem PK.fr {P : Nat → Prop} (h : PK pk S) (hf : zFr P S S') (hP : ∀ q, q < 18 → ¬ P (100 + 4 * q)) : PK pk S' := by
  intro q hq
  rw [hf.sc (hP q hq)]
  exact h q hq
theorem kc_lt (k : Nat) : kcn k = 1 ∨ kcn k = 2 ∨ kcn k = 3 ∨ kcn k = 4 ∨ kcn k = 6 ∨ kcn k = 9 ∨ kcn k = 11 := by
  unfold kcn
  repeat' split
  all_goals simp
theorem okb (hq : q < 18) {k : Nat} (h : pk q = kcn k) : zOKb pk q = true := by
  unfold zOKb
  rw [h, decide_eq_true hq]
  rcases kc_lt k with e | e | e | e | e | e | e <;> rw [e] <;> rfl
theorem Lp.ok (h : Lp pk S q d p) (hq : q < 18) : zOKb pk q = true := okb hq h.pq
theorem Lp.who (h : Lp pk S q d p) : zwho pk q = some q := by
  unfold zwho
  rw [if_neg]
  rw [h.pq]
  rcases kc_lt (dk d p) with e | e | e | e | e | e | e <;> rw [e] <;> decide
end ACC
/-- a loop beside a fold, by what ties them -/
theorem lpR {α β γ : Type} (M : Nat → α → Int32 → Option β) (g : γ → Nat → γ) (R : Nat → α → γ → Prop) (Q : γ → Option β → Prop) (e : Nat) (hs : ∀ n a c, R e a c → Q c (M (n + 1) a (nI e))) (hx : ∀ n a c i, i < e → R i a c → ∃ a', R (i + 1) a' (g c i) ∧ M (n + 1) a (nI i) = M n a' (nI (i + 1))) : ∀ (m i n : Nat) (a : α) (c : γ), R i a c → i + m = e → m < n → Q (sFo g i m c) (M n a (nI i)) := by
  intro m
  induction m with
  | zero =>
    intro i n a c hi h hn
    obtain ⟨n, rfl⟩ : ∃ k, n = k + 1 := ⟨n - 1, by omega⟩
    obtain rfl : i = e := by omega
    exact hs n a c hi
  | succ m ih =>
    intro i n a c hi h hn
    obtain ⟨n, rfl⟩ : ∃ k, n = k + 1 := ⟨n - 1, by omega⟩
    obtain ⟨a', h1, h2⟩ := hx n a c i (by omega) hi
    rw [h2]
    exact ih (i + 1) n a' (g c i) h1 (by omega) (by omega)
