/-! THE PURE PART: class and reference, by the data of a land -/
theorem li (k : Nat) : (OfNat.ofNat k : Int32) = nI (OfNat.ofNat k) := rfl
theorem lo (k : Nat) : Int32.ofNat k = nI k := rfl
theorem zin_nI {k n : Nat} (h : k < n) (hn : n < 2147483648) : zin (nI k) n = true := by
  unfold zin
  rw [nI_clamp (by omega)]
  have h1 : ¬ nI k < 0 := nI_pos (by omega)
  simp [h1]
  omega
theorem c_le {a b : Nat} (ha : a < 2147483648) (hb : b < 2147483648) : (nI a ≤ nI b) = (a ≤ b) := propext (nI_leI (by omega) (by omega))
theorem c_lt {a b : Nat} (ha : a < 2147483648) (hb : b < 2147483648) : (nI a < nI b) = (a < b) := propext (nI_ltI (by omega) (by omega))
theorem c_eq {a b : Nat} (ha : a < 2147483648) (hb : b < 2147483648) : (nI a = nI b) = (a = b) := propext (nI_eq (by omega) (by omega))
theorem c_cl {n : Nat} (h : n < 2147483648) : (nI n).toNatClampNeg = n := nI_clamp (by omega)
theorem c_sub {a b : Nat} (h : b ≤ a) : nI a - nI b = nI (a - b) := pk_sub h
theorem ob_some {α β : Type} (x : α) (f : α → Option β) : Option.bind (some x) f = f x := rfl
theorem zm_none {β : Type} {x : Option β} {f : Nat → Option β} : zm none x f = x := rfl
theorem zm_some {β : Type} {a : Nat} {x : Option β} {f : Nat → Option β} : zm (some a) x f = f a := rfl
theorem d_t {i : Decidable True} : @decide True i = true := by simp
theorem d_f {i : Decidable False} : @decide False i = false := by simp
theorem zg_true {α : Type} (x : Option α) : zg true x = x := rfl
theorem t_isCopy (pk : Nat → Nat) (S : zSt) {c : Nat} (h : c < 6) : M_X11_isCopy pk S (nI c) = some 1 := by
  unfold M_X11_isCopy
  simp (disch := omega) only [li, lo, c_le, c_lt, c_eq, c_cl, c_sub, nI_add, pk_mul, zin_nI, zg_true, ob_some, zm_none, zm_some, if_pos, if_neg, if_true, if_false, Bool.false_eq_true, d_t, d_f]
theorem t_isDeed (pk : Nat → Nat) (S : zSt) {c : Nat} (h : c < 8) : M_X11_isDeed pk S (nI c) = some 1 := by
  unfold M_X11_isDeed
  simp (disch := omega) only [li, lo, c_le, c_lt, c_eq, c_cl, c_sub, nI_add, pk_mul, zin_nI, zg_true, ob_some, zm_none, zm_some, if_pos, if_neg, if_true, if_false, Bool.false_eq_true, d_t, d_f]
/-- a land's data: how many persons, the least, the seed; of each kind, out, a, thick, smears, drifts, strengths -/
abbrev zD : Type := Nat × Nat × Int32 × (Nat → Nat) × (Nat → Nat) × (Nat → Nat) × (Nat → Nat) × (Nat → Nat → Nat) × (Nat → Nat → Int) × (Nat → Nat → Nat)
def dn (d : zD) : Nat := d.1
def dle (d : zD) : Nat := d.2.1
def dse (d : zD) : Int32 := d.2.2.1
def dk (d : zD) : Nat → Nat := d.2.2.2.1
def dou (d : zD) : Nat → Nat := d.2.2.2.2.1
def daa (d : zD) : Nat → Nat := d.2.2.2.2.2.1
def dth (d : zD) : Nat → Nat := d.2.2.2.2.2.2.1
def dsm (d : zD) : Nat → Nat → Nat := d.2.2.2.2.2.2.2.1
def ddr (d : zD) : Nat → Nat → Int := d.2.2.2.2.2.2.2.2.1
def dst (d : zD) : Nat → Nat → Nat := d.2.2.2.2.2.2.2.2.2
def iI (z : Int) : Int32 := Int32.ofInt z
/-- the class's number of a kind -/
def kcn (k : Nat) : Nat := if k = 0 then 6 else if k = 1 then 9 else if k = 2 then 3 else if k = 3 then 11 else if k = 4 then 4 else if k = 5 then 1 else 2
/-- person p of the data stands in place q of the class -/
def Lp (pk : Nat → Nat) (S : zSt) (q : Nat) (d : zD) (p : Nat) : Prop := pk q = kcn (dk d p) ∧ zsc S (100 + 4 * q) 0 = nI (dk d p) ∧ zsc S (100 + 4 * q) 1 = nI p ∧ zsc S (100 + 4 * q) 6 = nI (daa d p) ∧ zsc S (100 + 4 * q) 7 = nI (dth d p) ∧ zsc S (100 + 4 * q) 8 = nI (dou d p) ∧ (∀ c, c < 6 → zar S (100 + 4 * q + 2) c = nI (dsm d p c)) ∧ (∀ c, c < 6 → zar S (100 + 4 * q + 3) c = iI (ddr d p c)) ∧ ∀ j, j < 48 → zar S (100 + 4 * q + 1) j = nI (dst d p j)
/-- person p of the data is the reference's person p -/
def Rp (T : zSt) (d : zD) (p : Nat) : Prop := zar T 4 p = nI (dk d p) ∧ zar T 5 p = nI (daa d p) ∧ zar T 6 p = nI (dth d p) ∧ zar T 7 p = nI (dou d p) ∧ (∀ c, c < 6 → zar T 8 (6 * p + c) = nI (dsm d p c)) ∧ (∀ c, c < 6 → zar T 9 (6 * p + c) = iI (ddr d p c)) ∧ ∀ j, j < 48 → zar T 10 (48 * p + j) = nI (dst d p j)
/-- what stays so of a person -/
def Kp (d : zD) (p : Nat) : Prop := dk d p ≤ 6 ∧ dou d p ≤ 6 ∧ daa d p ≤ 9 ∧ 1 ≤ dth d p ∧ dth d p ≤ 20 ∧ (∀ c, c < 6 → dsm d p c ≤ 99) ∧ (∀ c, c < 6 → -999 ≤ ddr d p c ∧ ddr d p c ≤ 999) ∧ ∀ j, j < 48 → dst d p j ≤ 99
/-! specs -/
def sBits (P : Nat → Bool) : Nat → Nat → Int32 → Int32
  | _, 0, acc => acc
  | i, m + 1, acc => sBits P (i + 1) m (if P i = true then acc ||| ((1 : Int32) <<< (nI i &&& 31)) else acc)
def sLoss (k a t s : Nat) : Nat := if k = 1 then (if s = 1 then 0 else t) else if k = 2 then t + 2 else if k = 3 then (if s = 5 then 2 * (t + 2) else t + 2) else if k = 4 then t / 2 else if k = 5 then t / 2 + a % 2 else if k = 6 then (if s = 1 then 0 else if s = 3 then t + a else t) else t
def dLoss (d : zD) (p s : Nat) : Nat := sLoss (dk d p) (daa d p) (dth d p) s
/-- what copy out + j gets by the force f -/
def sGot (L : Nat → Nat) (f : Nat) : Nat → Nat
  | 0 => f
  | j + 1 => sGot L f j - L (j + 1)
section LEAF
variable {pk : Nat → Nat} {S T : zSt} {q p : Nat} {d : zD}
theorem l_strengthOf (h : Lp pk S q d p) {c x : Nat} (hc : c < 6) (hx : x < 8) : M_X5_strengthOf pk S q (nI c) (nI x) = some (nI (dst d p (8 * c + x))) := by
  unfold M_X5_strengthOf
  rw [t_isCopy pk S hc, t_isDeed pk S hx]
  simp (disch := omega) only [li, lo, c_le, c_lt, c_eq, c_cl, c_sub, nI_add, pk_mul, zin_nI, zg_true, ob_some, zm_none, zm_some, if_pos, if_neg, if_true, if_false, Bool.false_eq_true, d_t, d_f]
  rw [h.2.2.2.2.2.2.2.2 _ (by omega), Nat.mul_comm]
theorem r_strengthOf (h : Rp T d p) (hp : p < 6) {c x : Nat} (hc : c < 6) (hx : x < 8) : M_X12_strengthOf T (nI p) (nI c) (nI x) = some (nI (dst d p (8 * c + x))) := by
  unfold M_X12_strengthOf
  simp (disch := omega) only [li, lo, c_le, c_lt, c_eq, c_cl, c_sub, nI_add, pk_mul, zin_nI, zg_true, ob_some, zm_none, zm_some, if_pos, if_neg, if_true, if_false, Bool.false_eq_true, d_t, d_f]
  rw [Nat.add_assoc, h.2.2.2.2.2.2 _ (by omega)]
theorem l_hasBits_go (h : Lp pk S q d p) {c le : Nat} (hc : c < 6) (hle : le < 1000) (hK : ∀ j, j < 48 → dst d p j ≤ 99) (m : Nat) : ∀ n i acc, i + m = 8 → m < n → M_X5_hasBits_B5 pk S q n (nI c) (nI le) acc (nI i) = some (sBits (fun x => decide (le ≤ dst d p (8 * c + x))) i m acc) := by
  induction m with
  | zero =>
    intro n i acc hi hn
    obtain ⟨n, rfl⟩ : ∃ k, n = k + 1 := ⟨n - 1, by omega⟩
    rw [M_X5_hasBits_B5]
    simp (disch := omega) only [li, lo, c_le, c_lt, c_eq, c_cl, c_sub, nI_add, pk_mul, zin_nI, zg_true, ob_some, zm_none, zm_some, if_pos, if_neg, if_true, if_false, Bool.false_eq_true, d_t, d_f]
    rfl
  | succ m ih =>
    intro n i acc hi hn
    obtain ⟨n, rfl⟩ : ∃ k, n = k + 1 := ⟨n - 1, by omega⟩
    have hst := hK (8 * c + i) (by omega)
    rw [M_X5_hasBits_B5, l_strengthOf h hc (by omega)]
    unfold sBits
    by_cases e : le ≤ dst d p (8 * c + i)
    · simp (disch := omega) only [li, lo, c_le, c_lt, c_eq, c_cl, c_sub, nI_add, pk_mul, zin_nI, zg_true, ob_some, zm_none, zm_some, if_pos, if_neg, if_true, if_false, Bool.false_eq_true, d_t, d_f, ih, decide_eq_true e]
    · simp (disch := omega) only [li, lo, c_le, c_lt, c_eq, c_cl, c_sub, nI_add, pk_mul, zin_nI, zg_true, ob_some, zm_none, zm_some, if_pos, if_neg, if_true, if_false, Bool.false_eq_true, d_t, d_f, ih, decide_eq_false e]
theorem l_hasBits (h : Lp pk S q d p) (k : Kp d p) {c le : Nat} (hc : c < 6) (hle : le < 1000) : M_X5_hasBits pk S q (nI c) (nI le) = some (sBits (fun x => decide (le ≤ dst d p (8 * c + x))) 0 8 0) := by
  unfold M_X5_hasBits
  exact l_hasBits_go h hc hle k.2.2.2.2.2.2.2 8 zF 0 0 (by omega) (by decide)
end LEAF
