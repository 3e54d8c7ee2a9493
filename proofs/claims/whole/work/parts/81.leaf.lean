section LEAF2
variable {pk : Nat → Nat} {S T : zSt} {q p : Nat} {d : zD}
theorem Kp.st (k : Kp d p) {j : Nat} (h : j < 48) : dst d p j ≤ 99 := k.2.2.2.2.2.2.2 j h
theorem r_hasDeed (h : Rp T d p) (k : Kp d p) (hp : p < 6) {c x le : Nat} (hc : c < 6) (hx : x < 8) (hle : zsc T 0 11 = nI le) (hl : le < 1000) : M_X12_hasDeed T (nI p) (nI c) (nI x) = some (if le ≤ dst d p (8 * c + x) then 1 else 0) := by
  have hst := k.st (j := 8 * c + x) (by omega)
  unfold M_X12_hasDeed
  rw [r_strengthOf h hp hc hx, hle]
  by_cases e : le ≤ dst d p (8 * c + x)
  · simp (disch := omega) only [li, lo, c_le, c_lt, c_eq, c_cl, c_sub, nI_add, pk_mul, zin_nI, zg_true, ob_some, zm_none, zm_some, if_pos, if_neg, if_true, if_false, Bool.false_eq_true, d_t, d_f, e]
  · simp (disch := omega) only [li, lo, c_le, c_lt, c_eq, c_cl, c_sub, nI_add, pk_mul, zin_nI, zg_true, ob_some, zm_none, zm_some, if_pos, if_neg, if_true, if_false, Bool.false_eq_true, d_t, d_f, e]
theorem r_hasAll_go (h : Rp T d p) (k : Kp d p) (hp : p < 6) {c le : Nat} (hc : c < 6) (hle : zsc T 0 11 = nI le) (hl : le < 1000) (m : Nat) : ∀ n i acc, i + m = 8 → m < n → M_X12_hasAll_B5 T n (nI p) (nI c) acc (nI i) = some (sBits (fun x => decide (le ≤ dst d p (8 * c + x))) i m acc) := by
  induction m with
  | zero =>
    intro n i acc hi hn
    obtain ⟨n, rfl⟩ : ∃ k, n = k + 1 := ⟨n - 1, by omega⟩
    rw [M_X12_hasAll_B5]
    simp (disch := omega) only [li, lo, c_le, c_lt, c_eq, c_cl, c_sub, nI_add, pk_mul, zin_nI, zg_true, ob_some, zm_none, zm_some, if_pos, if_neg, if_true, if_false, Bool.false_eq_true, d_t, d_f]
    rfl
  | succ m ih =>
    intro n i acc hi hn
    obtain ⟨n, rfl⟩ : ∃ k, n = k + 1 := ⟨n - 1, by omega⟩
    rw [M_X12_hasAll_B5, r_hasDeed h k hp hc (by omega) hle hl]
    unfold sBits
    by_cases e : le ≤ dst d p (8 * c + i)
    · simp (disch := omega) only [li, lo, c_le, c_lt, c_eq, c_cl, c_sub, nI_add, pk_mul, zin_nI, zg_true, ob_some, zm_none, zm_some, if_pos, if_neg, if_true, if_false, Bool.false_eq_true, d_t, d_f, ih, e, decide_eq_true e]
    · simp (disch := omega) only [li, lo, c_le, c_lt, c_eq, c_cl, c_sub, nI_add, pk_mul, zin_nI, zg_true, ob_some, zm_none, zm_some, if_pos, if_neg, if_true, if_false, Bool.false_eq_true, d_t, d_f, ih, e, decide_eq_false e]
theorem r_hasAll (h : Rp T d p) (k : Kp d p) (hp : p < 6) {c le : Nat} (hc : c < 6) (hle : zsc T 0 11 = nI le) (hl : le < 1000) : M_X12_hasAll T (nI p) (nI c) = some (sBits (fun x => decide (le ≤ dst d p (8 * c + x))) 0 8 0) := by
  unfold M_X12_hasAll
  exact r_hasAll_go h k hp hc hle hl 8 zF 0 0 (by omega) (by decide)
theorem l_haveBits_go (h : Lp pk S q d p) (k : Kp d p) {x le : Nat} (hx : x < 8) (hl : le < 1000) (m : Nat) : ∀ n i acc, i + m = 6 → m < n → M_X5_haveBits_B8 pk S q n (nI x) (nI le) acc (nI i) = some (sBits (fun c => decide (le ≤ dst d p (8 * c + x))) i m acc) := by
  induction m with
  | zero =>
    intro n i acc hi hn
    obtain ⟨n, rfl⟩ : ∃ k, n = k + 1 := ⟨n - 1, by omega⟩
    rw [M_X5_haveBits_B8]
    simp (disch := omega) only [li, lo, c_le, c_lt, c_eq, c_cl, c_sub, nI_add, pk_mul, zin_nI, zg_true, ob_some, zm_none, zm_some, if_pos, if_neg, if_true, if_false, Bool.false_eq_true, d_t, d_f]
    rfl
  | succ m ih =>
    intro n i acc hi hn
    obtain ⟨n, rfl⟩ : ∃ k, n = k + 1 := ⟨n - 1, by omega⟩
    have hst := k.st (j := 8 * i + x) (by omega)
    rw [M_X5_haveBits_B8, l_strengthOf h (by omega) hx]
    unfold sBits
    by_cases e : le ≤ dst d p (8 * i + x)
    · simp (disch := omega) only [li, lo, c_le, c_lt, c_eq, c_cl, c_sub, nI_add, pk_mul, zin_nI, zg_true, ob_some, zm_none, zm_some, if_pos, if_neg, if_true, if_false, Bool.false_eq_true, d_t, d_f, ih, decide_eq_true e]
    · simp (disch := omega) only [li, lo, c_le, c_lt, c_eq, c_cl, c_sub, nI_add, pk_mul, zin_nI, zg_true, ob_some, zm_none, zm_some, if_pos, if_neg, if_true, if_false, Bool.false_eq_true, d_t, d_f, ih, decide_eq_false e]
theorem l_haveBits (h : Lp pk S q d p) (k : Kp d p) {x le : Nat} (hx : x < 8) (hl : le < 1000) : M_X5_haveBits pk S q (nI x) (nI le) = some (sBits (fun c => decide (le ≤ dst d p (8 * c + x))) (dou d p) (6 - dou d p) 0) := by
  have ho := k.2.1
  unfold M_X5_haveBits
  rw [h.2.2.2.2.2.1]
  exact l_haveBits_go h k hx hl _ zF _ 0 (by omega) (by show _ < 4096; omega)
theorem r_haveBits_go (h : Rp T d p) (k : Kp d p) (hp : p < 6) {x le : Nat} (hx : x < 8) (hle : zsc T 0 11 = nI le) (hl : le < 1000) (m : Nat) : ∀ n i acc, i + m = 6 → m < n → M_X12_haveBits_B10 T n (nI p) (nI x) acc (nI i) = some (sBits (fun c => decide (le ≤ dst d p (8 * c + x))) i m acc) := by
  induction m with
  | zero =>
    intro n i acc hi hn
    obtain ⟨n, rfl⟩ : ∃ k, n = k + 1 := ⟨n - 1, by omega⟩
    rw [M_X12_haveBits_B10]
    simp (disch := omega) only [li, lo, c_le, c_lt, c_eq, c_cl, c_sub, nI_add, pk_mul, zin_nI, zg_true, ob_some, zm_none, zm_some, if_pos, if_neg, if_true, if_false, Bool.false_eq_true, d_t, d_f]
    rfl
  | succ m ih =>
    intro n i acc hi hn
    obtain ⟨n, rfl⟩ : ∃ k, n = k + 1 := ⟨n - 1, by omega⟩
    rw [M_X12_haveBits_B10, r_hasDeed h k hp (by omega) hx hle hl]
    unfold sBits
    by_cases e : le ≤ dst d p (8 * i + x)
    · simp (disch := omega) only [li, lo, c_le, c_lt, c_eq, c_cl, c_sub, nI_add, pk_mul, zin_nI, zg_true, ob_some, zm_none, zm_some, if_pos, if_neg, if_true, if_false, Bool.false_eq_true, d_t, d_f, ih, e, decide_eq_true e]
    · simp (disch := omega) only [li, lo, c_le, c_lt, c_eq, c_cl, c_sub, nI_add, pk_mul, zin_nI, zg_true, ob_some, zm_none, zm_some, if_pos, if_neg, if_true, if_false, Bool.false_eq_true, d_t, d_f, ih, e, decide_eq_false e]
theorem r_haveBits (h : Rp T d p) (k : Kp d p) (hp : p < 6) {x le : Nat} (hx : x < 8) (hle : zsc T 0 11 = nI le) (hl : le < 1000) : M_X12_haveBits T (nI p) (nI x) = some (sBits (fun c => decide (le ≤ dst d p (8 * c + x))) (dou d p) (6 - dou d p) 0) := by
  have ho := k.2.1
  unfold M_X12_haveBits
  simp (disch := omega) only [li, lo, c_le, c_lt, c_eq, c_cl, c_sub, nI_add, pk_mul, zin_nI, zg_true, ob_some, zm_none, zm_some, if_pos, if_neg, if_true, if_false, Bool.false_eq_true, d_t, d_f, h.2.2.2.1]
  exact r_haveBits_go h k hp hx hle hl _ zF _ 0 (by omega) (by show _ < 4096; omega)
theorem kc_lt (k : Nat) : kcn k = 1 ∨ kcn k = 2 ∨ kcn k = 3 ∨ kcn k = 4 ∨ kcn k = 6 ∨ kcn k = 9 ∨ kcn k = 11 := by
  unfold kcn
  repeat' split
  all_goals simp
theorem nI_and1 {a : Nat} (h : a < 2147483648) : nI a &&& 1 = nI (a % 2) := by
  have := pk_andN (n := a) (by omega) (m := 1) 1 (by decide)
  simpa using this
theorem l_lossAt (h : Lp pk S q d p) (k : Kp d p) {s : Nat} (hs : s < 100) : V_lossAt pk S q (nI s) = some (nI (dLoss d p s)) := by
  obtain ⟨k1, k2, k3, k4, k5, -⟩ := k
  have h5 : M_X5_lossAt pk S q (nI s) = some (nI (dth d p)) := by
    unfold M_X5_lossAt
    rw [h.2.2.2.2.1]
  have h6 := h.2.2.2.1
  have hh := h.1
  unfold V_lossAt dLoss sLoss
  rw [hh]
  have hk : dk d p = 0 ∨ dk d p = 1 ∨ dk d p = 2 ∨ dk d p = 3 ∨ dk d p = 4 ∨ dk d p = 5 ∨ dk d p = 6 := by omega
  have d2 : nI (dth d p) / 2 = nI (dth d p / 2) := by
    rw [li, pk_div (by omega) (by decide) (by decide)]
  rcases hk with e | e | e | e | e | e | e <;> rw [e]
  · show M_X5_lossAt pk S q (nI s) = some (nI (dth d p))
    exact h5
  · show M_X8_lossAt pk S q (nI s) = some (nI (if s = 1 then 0 else dth d p))
    unfold M_X8_lossAt
    rw [h5]
    by_cases e1 : s = 1
    · subst e1; simp (disch := omega) only [li, lo, c_le, c_lt, c_eq, c_cl, c_sub, nI_add, pk_mul, zin_nI, zg_true, ob_some, zm_none, zm_some, if_pos, if_neg, if_true, if_false, Bool.false_eq_true, d_t, d_f]; rfl
    · simp (disch := omega) only [li, lo, c_le, c_lt, c_eq, c_cl, c_sub, nI_add, pk_mul, zin_nI, zg_true, ob_some, zm_none, zm_some, if_pos, if_neg, if_true, if_false, Bool.false_eq_true, d_t, d_f]
  · show M_X2_lossAt pk S q (nI s) = some (nI (dth d p + 2))
    unfold M_X2_lossAt
    rw [h5]
    simp (disch := omega) only [li, lo, c_le, c_lt, c_eq, c_cl, c_sub, nI_add, pk_mul, zin_nI, zg_true, ob_some, zm_none, zm_some, if_pos, if_neg, if_true, if_false, Bool.false_eq_true, d_t, d_f]
  · show M_X10_lossAt pk S q (nI s) = some (nI (if s = 5 then 2 * (dth d p + 2) else dth d p + 2))
    unfold M_X10_lossAt M_X2_lossAt
    rw [h5]
    by_cases e1 : s = 5
    · subst e1; simp (disch := omega) only [li, lo, c_le, c_lt, c_eq, c_cl, c_sub, nI_add, pk_mul, zin_nI, zg_true, ob_some, zm_none, zm_some, if_pos, if_neg, if_true, if_false, Bool.false_eq_true, d_t, d_f]
    · simp (disch := omega) only [li, lo, c_le, c_lt, c_eq, c_cl, c_sub, nI_add, pk_mul, zin_nI, zg_true, ob_some, zm_none, zm_some, if_pos, if_neg, if_true, if_false, Bool.false_eq_true, d_t, d_f]
  · show M_X3_lossAt pk S q (nI s) = some (nI (dth d p / 2))
    unfold M_X3_lossAt
    rw [h5]
    simp only [ob_some, d2]
  · show M_X0_lossAt pk S q (nI s) = some (nI (dth d p / 2 + daa d p % 2))
    unfold M_X0_lossAt M_X3_lossAt
    rw [h5, h6]
    simp only [ob_some, d2]
    rw [nI_and1 (by omega), nI_add]
  · show M_X1_lossAt pk S q (nI s) = some (nI (if s = 1 then 0 else if s = 3 then dth d p + daa d p else dth d p))
    unfold M_X1_lossAt M_X8_lossAt
    rw [h5, h6]
    by_cases e1 : s = 1
    · subst e1; simp (disch := omega) only [li, lo, c_le, c_lt, c_eq, c_cl, c_sub, nI_add, pk_mul, zin_nI, zg_true, ob_some, zm_none, zm_some, if_pos, if_neg, if_true, if_false, Bool.false_eq_true, d_t, d_f]; rfl
    · by_cases e3 : s = 3
      · subst e3; simp (disch := omega) only [li, lo, c_le, c_lt, c_eq, c_cl, c_sub, nI_add, pk_mul, zin_nI, zg_true, ob_some, zm_none, zm_some, if_pos, if_neg, if_true, if_false, Bool.false_eq_true, d_t, d_f]
      · simp (disch := omega) only [li, lo, c_le, c_lt, c_eq, c_cl, c_sub, nI_add, pk_mul, zin_nI, zg_true, ob_some, zm_none, zm_some, if_pos, if_neg, if_true, if_false, Bool.false_eq_true, d_t, d_f]; rfl
end LEAF2
