/-! what a person tells -/
theorem t_isCopy (pk : Nat → Nat) (S : zSt) {c : Nat} (h : c < 6) : M_X11_isCopy pk S (nI c) = some (nI 1) := by
  unfold M_X11_isCopy
  simp (disch := omega) only [li, lo, c_le, c_lt, c_eq, c_cl, c_sub, nI_add, pk_mul, zin_nI, zg_true, ob_some, zm_none, zm_some, if_pos, if_neg, if_true, if_false, Bool.false_eq_true, d_t, d_f, ob_eta, ob_eta1, m_ltn, m_nlt, m_nle, m_len, m_ne, m_ne', m_mlt, m_mle, m_meq, m_neg]
theorem t_isDeed (pk : Nat → Nat) (S : zSt) {c : Nat} (h : c < 8) : M_X11_isDeed pk S (nI c) = some (nI 1) := by
  unfold M_X11_isDeed
  simp (disch := omega) only [li, lo, c_le, c_lt, c_eq, c_cl, c_sub, nI_add, pk_mul, zin_nI, zg_true, ob_some, zm_none, zm_some, if_pos, if_neg, if_true, if_false, Bool.false_eq_true, d_t, d_f, ob_eta, ob_eta1, m_ltn, m_nlt, m_nle, m_len, m_ne, m_ne', m_mlt, m_mle, m_meq, m_neg]
/-- one bit more, unless -/
def gB (P : Nat → Prop) (acc : Int32) (i : Nat) (h : Decidable (P i)) : Int32 := if P i then acc else acc ||| ((1 : Int32) <<< (nI i &&& 31))
def sHas (d : zD) (p : Nat) (le : Int32) (c : Nat) : Int32 := sFo (fun acc x => if dv d p (8 * c + x) < le then acc else acc ||| ((1 : Int32) <<< (nI x &&& 31))) 0 8 0
def sHave (d : zD) (p : Nat) (le : Int32) (x : Nat) : Int32 := sFo (fun acc c => if dv d p (8 * c + x) < le then acc else acc ||| ((1 : Int32) <<< (nI c &&& 31))) (dou d p) (6 - dou d p) 0
def sAll (d : zD) (p : Nat) (le : Int32) : Int32 := sFo (fun acc c => acc &&& sHas d p le c) (dou d p) (6 - dou d p) 255
def sLoss (k : Nat) (a t : Int32) (s : Nat) : Int32 := if k = 1 then (if s = 1 then 0 else t) else if k = 2 then t + 2 else if k = 3 then (if s = 5 then 2 * (t + 2) else t + 2) else if k = 4 then t / 2 else if k = 5 then t / 2 + (a &&& 1) else if k = 6 then (if s = 1 then 0 else if s = 3 then t + a else t) else t
def dLoss (d : zD) (p s : Nat) : Int32 := sLoss (dk d p) (dv d p 60) (dv d p 61) s
def mx0 (x : Int32) : Int32 := if (0 : Int32) < x then x else 0
/-- what the copy j below the one that is out gets by the force f -/
def sGot (L : Nat → Int32) (f : Int32) : Nat → Int32
  | 0 => f
  | j + 1 => mx0 (sGot L f j - L (j + 1))
def dGot (d : zD) (p : Nat) (f : Int32) (j : Nat) : Int32 := sGot (dLoss d p) f j
def sRead (d : zD) (p : Nat) : Int32 := sFo (fun acc x => acc + dv d p (40 + x)) 0 8 0
def sRubd (d : zD) (p : Nat) : Int32 := sFo (fun acc c => acc + dv d p (48 + c)) 0 6 0
def sStr (d : zD) (p : Nat) : Int32 := sFo (fun acc j => acc + dv d p j) 0 48 0
def sTru (d : zD) (p : Nat) : Int32 := sFo (fun acc c => if dv d p (54 + c) = 0 then acc ||| ((1 : Int32) <<< (nI c &&& 31)) else acc) 0 6 0
def iabs (x : Int32) : Int32 := if 0 ≤ x then x else 0 - x
def bc (x : Int32) : Int32 := (M_J6_bitCount_0f7a4 ((fun _ _ => 0), (fun _ _ => 0), (fun _ _ => 0)) x).getD 0
theorem t_bc (S : zSt) (x : Int32) : M_J6_bitCount_0f7a4 S x = some (bc x) := rfl
def sMend (d : zD) (p : Nat) (le : Int32) (x : Nat) : Int32 := if bc (sHave d p le x) = nI (6 - dou d p) then 0 else bc (sHave d p le x)
section LEAF
variable {pk : Nat → Nat} {S T : zSt} {q p : Nat} {d : zD}
theorem Kp.o (k : Kp d p) : dou d p ≤ 6 := k.2.1
theorem l_strengthOf (h : Lp pk S q d p) {c x : Nat} (hc : c < 6) (hx : x < 8) : M_X5_strengthOf pk S q (nI c) (nI x) = some (dv d p (8 * c + x)) := by
  unfold M_X5_strengthOf
  rw [t_isCopy pk S hc, t_isDeed pk S hx]
  simp (disch := omega) only [li, lo, c_le, c_lt, c_eq, c_cl, c_sub, nI_add, pk_mul, zin_nI, zg_true, ob_some, zm_none, zm_some, if_pos, if_neg, if_true, if_false, Bool.false_eq_true, d_t, d_f, ob_eta, ob_eta1, m_ltn, m_nlt, m_nle, m_len, m_ne, m_ne', m_mlt, m_mle, m_meq, m_neg]
  rw [h.st (by omega), Nat.mul_comm]
theorem r_strengthOf (h : Rp T d p) (hp : p < 6) {c x : Nat} (hc : c < 6) (hx : x < 8) : M_X12_strengthOf T (nI p) (nI c) (nI x) = some (dv d p (8 * c + x)) := by
  unfold M_X12_strengthOf
  simp (disch := omega) only [li, lo, c_le, c_lt, c_eq, c_cl, c_sub, nI_add, pk_mul, zin_nI, zg_true, ob_some, zm_none, zm_some, if_pos, if_neg, if_true, if_false, Bool.false_eq_true, d_t, d_f, ob_eta, ob_eta1, m_ltn, m_nlt, m_nle, m_len, m_ne, m_ne', m_mlt, m_mle, m_meq, m_neg]
  rw [Nat.add_assoc, h.st (by omega)]
theorem l_hasBits (h : Lp pk S q d p) {c : Nat} (hc : c < 6) (le : Int32) : M_X5_hasBits pk S q (nI c) le = some (sHas d p le c) := by
  unfold M_X5_hasBits sHas
  refine lp (fun n acc i => M_X5_hasBits_B5 pk S q n (nI c) le acc i) _ (fun a => a) 8 (fun n acc => ?_) (fun n acc i hi => ?_) 8 0 zF 0 rfl (by decide)
  · simp (disch := omega) only [li, lo, c_le, c_lt, c_eq, c_cl, c_sub, nI_add, pk_mul, zin_nI, zg_true, ob_some, zm_none, zm_some, if_pos, if_neg, if_true, if_false, Bool.false_eq_true, d_t, d_f, ob_eta, ob_eta1, m_ltn, m_nlt, m_nle, m_len, m_ne, m_ne', m_mlt, m_mle, m_meq, m_neg, M_X5_hasBits_B5]
  · by_cases e : dv d p (8 * c + i) < le <;> simp (disch := omega) only [li, lo, c_le, c_lt, c_eq, c_cl, c_sub, nI_add, pk_mul, zin_nI, zg_true, ob_some, zm_none, zm_some, if_pos, if_neg, if_true, if_false, Bool.false_eq_true, d_t, d_f, ob_eta, ob_eta1, m_ltn, m_nlt, m_nle, m_len, m_ne, m_ne', m_mlt, m_mle, m_meq, m_neg, M_X5_hasBits_B5, l_strengthOf h hc hi, e]
theorem r_hasDeed (h : Rp T d p) (hp : p < 6) {c x : Nat} (hc : c < 6) (hx : x < 8) : M_X12_hasDeed T (nI p) (nI c) (nI x) = if dv d p (8 * c + x) < zsc T 0 11 then some (nI 0) else some (nI 1) := by
  unfold M_X12_hasDeed
  rw [r_strengthOf h hp hc hx]
  rfl
theorem r_hasAll (h : Rp T d p) (hp : p < 6) {c : Nat} (hc : c < 6) : M_X12_hasAll T (nI p) (nI c) = some (sHas d p (zsc T 0 11) c) := by
  unfold M_X12_hasAll sHas
  refine lp (fun n acc i => M_X12_hasAll_B5 T n (nI p) (nI c) acc i) _ (fun a => a) 8 (fun n acc => ?_) (fun n acc i hi => ?_) 8 0 zF 0 rfl (by decide)
  · simp (disch := omega) only [li, lo, c_le, c_lt, c_eq, c_cl, c_sub, nI_add, pk_mul, zin_nI, zg_true, ob_some, zm_none, zm_some, if_pos, if_neg, if_true, if_false, Bool.false_eq_true, d_t, d_f, ob_eta, ob_eta1, m_ltn, m_nlt, m_nle, m_len, m_ne, m_ne', m_mlt, m_mle, m_meq, m_neg, M_X12_hasAll_B5]
  · by_cases e : dv d p (8 * c + i) < zsc T 0 11 <;> simp (disch := omega) only [li, lo, c_le, c_lt, c_eq, c_cl, c_sub, nI_add, pk_mul, zin_nI, zg_true, ob_some, zm_none, zm_some, if_pos, if_neg, if_true, if_false, Bool.false_eq_true, d_t, d_f, ob_eta, ob_eta1, m_ltn, m_nlt, m_nle, m_len, m_ne, m_ne', m_mlt, m_mle, m_meq, m_neg, M_X12_hasAll_B5, r_hasDeed h hp hc hi, e]
theorem l_haveBits (h : Lp pk S q d p) (k : Kp d p) {x : Nat} (hx : x < 8) (le : Int32) : M_X5_haveBits pk S q (nI x) le = some (sHave d p le x) := by
  have ho := k.o
  unfold M_X5_haveBits sHave
  rw [h.ou]
  refine lp (fun n acc i => M_X5_haveBits_B8 pk S q n (nI x) le acc i) _ (fun a => a) 6 (fun n acc => ?_) (fun n acc i hi => ?_) (6 - dou d p) (dou d p) zF 0 (by omega) (by show _ < 4096; omega)
  · simp (disch := omega) only [li, lo, c_le, c_lt, c_eq, c_cl, c_sub, nI_add, pk_mul, zin_nI, zg_true, ob_some, zm_none, zm_some, if_pos, if_neg, if_true, if_false, Bool.false_eq_true, d_t, d_f, ob_eta, ob_eta1, m_ltn, m_nlt, m_nle, m_len, m_ne, m_ne', m_mlt, m_mle, m_meq, m_neg, M_X5_haveBits_B8]
  · by_cases e : dv d p (8 * i + x) < le <;> simp (disch := omega) only [li, lo, c_le, c_lt, c_eq, c_cl, c_sub, nI_add, pk_mul, zin_nI, zg_true, ob_some, zm_none, zm_some, if_pos, if_neg, if_true, if_false, Bool.false_eq_true, d_t, d_f, ob_eta, ob_eta1, m_ltn, m_nlt, m_nle, m_len, m_ne, m_ne', m_mlt, m_mle, m_meq, m_neg, M_X5_haveBits_B8, l_strengthOf h hi hx, e]
theorem r_haveBits (h : Rp T d p) (k : Kp d p) (hp : p < 6) {x : Nat} (hx : x < 8) : M_X12_haveBits T (nI p) (nI x) = some (sHave d p (zsc T 0 11) x) := by
  have ho := k.o
  unfold M_X12_haveBits sHave
  simp (disch := omega) only [li, lo, c_le, c_lt, c_eq, c_cl, c_sub, nI_add, pk_mul, zin_nI, zg_true, ob_some, zm_none, zm_some, if_pos, if_neg, if_true, if_false, Bool.false_eq_true, d_t, d_f, ob_eta, ob_eta1, m_ltn, m_nlt, m_nle, m_len, m_ne, m_ne', m_mlt, m_mle, m_meq, m_neg, h.ou]
  refine lp (fun n acc i => M_X12_haveBits_B10 T n (nI p) (nI x) acc i) _ (fun a => a) 6 (fun n acc => ?_) (fun n acc i hi => ?_) (6 - dou d p) (dou d p) zF 0 (by omega) (by show _ < 4096; omega)
  · simp (disch := omega) only [li, lo, c_le, c_lt, c_eq, c_cl, c_sub, nI_add, pk_mul, zin_nI, zg_true, ob_some, zm_none, zm_some, if_pos, if_neg, if_true, if_false, Bool.false_eq_true, d_t, d_f, ob_eta, ob_eta1, m_ltn, m_nlt, m_nle, m_len, m_ne, m_ne', m_mlt, m_mle, m_meq, m_neg, M_X12_haveBits_B10]
  · by_cases e : dv d p (8 * i + x) < zsc T 0 11 <;> simp (disch := omega) only [li, lo, c_le, c_lt, c_eq, c_cl, c_sub, nI_add, pk_mul, zin_nI, zg_true, ob_some, zm_none, zm_some, if_pos, if_neg, if_true, if_false, Bool.false_eq_true, d_t, d_f, ob_eta, ob_eta1, m_ltn, m_nlt, m_nle, m_len, m_ne, m_ne', m_mlt, m_mle, m_meq, m_neg, M_X12_haveBits_B10, r_hasDeed h hp hi hx, e]
theorem l_allBits (h : Lp pk S q d p) (k : Kp d p) (le : Int32) : M_X5_allBits pk S q le = some (sAll d p le) := by
  have ho := k.o
  unfold M_X5_allBits sAll
  rw [h.ou]
  refine lp (fun n acc i => M_X5_allBits_B9 pk S q n le acc i) _ (fun a => a) 6 (fun n acc => ?_) (fun n acc i hi => ?_) (6 - dou d p) (dou d p) zF 255 (by omega) (by show _ < 4096; omega)
  · simp (disch := omega) only [li, lo, c_le, c_lt, c_eq, c_cl, c_sub, nI_add, pk_mul, zin_nI, zg_true, ob_some, zm_none, zm_some, if_pos, if_neg, if_true, if_false, Bool.false_eq_true, d_t, d_f, ob_eta, ob_eta1, m_ltn, m_nlt, m_nle, m_len, m_ne, m_ne', m_mlt, m_mle, m_meq, m_neg, M_X5_allBits_B9]
  · simp (disch := omega) only [li, lo, c_le, c_lt, c_eq, c_cl, c_sub, nI_add, pk_mul, zin_nI, zg_true, ob_some, zm_none, zm_some, if_pos, if_neg, if_true, if_false, Bool.false_eq_true, d_t, d_f, ob_eta, ob_eta1, m_ltn, m_nlt, m_nle, m_len, m_ne, m_ne', m_mlt, m_mle, m_meq, m_neg, M_X5_allBits_B9, l_hasBits h hi]
theorem r_all_go (h : Rp T d p) (k : Kp d p) (hp : p < 6) : M_X12_all_B25 zF T (nI p) (nI 255) (nI (dou d p)) = some (sAll d p (zsc T 0 11), T) := by
  have ho := k.o
  unfold sAll
  refine lp (fun n acc i => M_X12_all_B25 n T (nI p) acc i) (fun acc c => acc &&& sHas d p (zsc T 0 11) c) (fun a => (a, T)) 6 (fun n acc => ?_) (fun n acc i hi => ?_) (6 - dou d p) (dou d p) zF (nI 255) (by omega) (by show _ < 4096; omega)
  · simp (disch := omega) only [li, lo, c_le, c_lt, c_eq, c_cl, c_sub, nI_add, pk_mul, zin_nI, zg_true, ob_some, zm_none, zm_some, if_pos, if_neg, if_true, if_false, Bool.false_eq_true, d_t, d_f, ob_eta, ob_eta1, m_ltn, m_nlt, m_nle, m_len, m_ne, m_ne', m_mlt, m_mle, m_meq, m_neg, M_X12_all_B25]
  · simp (disch := omega) only [li, lo, c_le, c_lt, c_eq, c_cl, c_sub, nI_add, pk_mul, zin_nI, zg_true, ob_some, zm_none, zm_some, if_pos, if_neg, if_true, if_false, Bool.false_eq_true, d_t, d_f, ob_eta, ob_eta1, m_ltn, m_nlt, m_nle, m_len, m_ne, m_ne', m_mlt, m_mle, m_meq, m_neg, M_X12_all_B25, r_hasAll h hp hi]
theorem nI_and1 {a : Nat} (h : a < 2147483648) : nI a &&& 1 = nI (a % 2) := by
  have := pk_andN (n := a) (by omega) (m := 1) 1 (by decide)
  simpa using this
theorem sLoss_of (k : Nat) (a t : Int32) (s : Nat) : (k = 0 → sLoss k a t s = t) ∧ (k = 1 → sLoss k a t s = if s = 1 then 0 else t) ∧ (k = 2 → sLoss k a t s = t + 2) ∧ (k = 3 → sLoss k a t s = if s = 5 then 2 * (t + 2) else t + 2) ∧ (k = 4 → sLoss k a t s = t / 2) ∧ (k = 5 → sLoss k a t s = t / 2 + (a &&& 1)) ∧ (k = 6 → sLoss k a t s = if s = 1 then 0 else if s = 3 then t + a else t) := by
  refine ⟨?_, ?_, ?_, ?_, ?_, ?_, ?_⟩ <;> intro e <;> subst e <;> rfl
theorem add0 (x : Int32) : x + 0 = x := Int32.add_zero x
theorem l_lossAt (h : Lp pk S q d p) (k : Kp d p) {s : Nat} (hs : s < 100) : V_lossAt pk S q (nI s) = some (dLoss d p s) := by
  have k1 := k.1
  have h5 : M_X5_lossAt pk S q (nI s) = some (dv d p 61) := by
    unfold M_X5_lossAt
    rw [h.th]
  have h6 := h.a
  have hh := h.pq
  obtain ⟨s0, s1, s2, s3, s4, s5, s6⟩ := sLoss_of (dk d p) (dv d p 60) (dv d p 61) s
  unfold V_lossAt dLoss
  rw [hh]
  have hk : dk d p = 0 ∨ dk d p = 1 ∨ dk d p = 2 ∨ dk d p = 3 ∨ dk d p = 4 ∨ dk d p = 5 ∨ dk d p = 6 := by omega
  rcases hk with e | e | e | e | e | e | e
  · rw [s0 e, e]; exact h5
  · rw [s1 e, e]
    show M_X8_lossAt pk S q (nI s) = _
    unfold M_X8_lossAt
    rw [h5]
    by_cases e1 : s = 1
    · subst e1; rfl
    · simp (disch := omega) only [li, lo, c_le, c_lt, c_eq, c_cl, c_sub, nI_add, pk_mul, zin_nI, zg_true, ob_some, zm_none, zm_some, if_pos, if_neg, if_true, if_false, Bool.false_eq_true, d_t, d_f, ob_eta, ob_eta1, m_ltn, m_nlt, m_nle, m_len, m_ne, m_ne', m_mlt, m_mle, m_meq, m_neg, e1]
  · rw [s2 e, e]
    show M_X2_lossAt pk S q (nI s) = _
    unfold M_X2_lossAt
    rw [h5]; rfl
  · rw [s3 e, e]
    show M_X10_lossAt pk S q (nI s) = _
    unfold M_X10_lossAt M_X2_lossAt
    rw [h5]
    by_cases e1 : s = 5
    · subst e1; rfl
    · simp (disch := omega) only [li, lo, c_le, c_lt, c_eq, c_cl, c_sub, nI_add, pk_mul, zin_nI, zg_true, ob_some, zm_none, zm_some, if_pos, if_neg, if_true, if_false, Bool.false_eq_true, d_t, d_f, ob_eta, ob_eta1, m_ltn, m_nlt, m_nle, m_len, m_ne, m_ne', m_mlt, m_mle, m_meq, m_neg, e1]
  · rw [s4 e, e]
    show M_X3_lossAt pk S q (nI s) = _
    unfold M_X3_lossAt
    rw [h5]; rfl
  · rw [s5 e, e]
    show M_X0_lossAt pk S q (nI s) = _
    unfold M_X0_lossAt M_X3_lossAt
    rw [h5, h6]; rfl
  · rw [s6 e, e]
    show M_X1_lossAt pk S q (nI s) = _
    unfold M_X1_lossAt M_X8_lossAt
    rw [h5, h6]
    by_cases e1 : s = 1
    · subst e1; rfl
    · by_cases e3 : s = 3
      · subst e3; rfl
      · simp (disch := omega) only [li, c_eq, if_neg, ob_some]
        rw [← li 0, add0]
theorem r_lossAt (h : Rp T d p) (k : Kp d p) (hp : p < 6) {s : Nat} (hs : s < 100) : M_X12_lossAt T (nI p) (nI s) = some (dLoss d p s) := by
  obtain ⟨k1, k2, a, ha, ea⟩ := k
  obtain ⟨s0, s1, s2, s3, s4, s5, s6⟩ := sLoss_of (dk d p) (dv d p 60) (dv d p 61) s
  have hk : dk d p = 0 ∨ dk d p = 1 ∨ dk d p = 2 ∨ dk d p = 3 ∨ dk d p = 4 ∨ dk d p = 5 ∨ dk d p = 6 := by omega
  have e5 : dv d p 60 - dv d p 60 / 2 * 2 = dv d p 60 &&& 1 := by
    rw [ea, nI_and1 (by omega)]
    exact pk_rem (by omega) (by decide) (by decide)
  unfold M_X12_lossAt dLoss
  rw [zin_nI hp (by decide), c_cl (by omega)]
  rw [h.knd, h.th, h.a, e5]
  rcases hk with e | e | e | e | e | e | e
  · rw [s0 e, e]; simp (disch := omega) only [li, lo, c_le, c_lt, c_eq, c_cl, c_sub, nI_add, pk_mul, zin_nI, zg_true, ob_some, zm_none, zm_some, if_pos, if_neg, if_true, if_false, Bool.false_eq_true, d_t, d_f, ob_eta, ob_eta1, m_ltn, m_nlt, m_nle, m_len, m_ne, m_ne', m_mlt, m_mle, m_meq, m_neg]
  · rw [s1 e, e]
    by_cases e1 : s = 1
    · simp (disch := omega) only [li, lo, c_le, c_lt, c_eq, c_cl, c_sub, nI_add, pk_mul, zin_nI, zg_true, ob_some, zm_none, zm_some, if_pos, if_neg, if_true, if_false, Bool.false_eq_true, d_t, d_f, ob_eta, ob_eta1, m_ltn, m_nlt, m_nle, m_len, m_ne, m_ne', m_mlt, m_mle, m_meq, m_neg, e1]
    · simp (disch := omega) only [li, lo, c_le, c_lt, c_eq, c_cl, c_sub, nI_add, pk_mul, zin_nI, zg_true, ob_some, zm_none, zm_some, if_pos, if_neg, if_true, if_false, Bool.false_eq_true, d_t, d_f, ob_eta, ob_eta1, m_ltn, m_nlt, m_nle, m_len, m_ne, m_ne', m_mlt, m_mle, m_meq, m_neg, e1]
  · rw [s2 e, e]; simp (disch := omega) only [li, lo, c_le, c_lt, c_eq, c_cl, c_sub, nI_add, pk_mul, zin_nI, zg_true, ob_some, zm_none, zm_some, if_pos, if_neg, if_true, if_false, Bool.false_eq_true, d_t, d_f, ob_eta, ob_eta1, m_ltn, m_nlt, m_nle, m_len, m_ne, m_ne', m_mlt, m_mle, m_meq, m_neg]
  · rw [s3 e, e]
    by_cases e1 : s = 5
    · simp (disch := omega) only [li, lo, c_le, c_lt, c_eq, c_cl, c_sub, nI_add, pk_mul, zin_nI, zg_true, ob_some, zm_none, zm_some, if_pos, if_neg, if_true, if_false, Bool.false_eq_true, d_t, d_f, ob_eta, ob_eta1, m_ltn, m_nlt, m_nle, m_len, m_ne, m_ne', m_mlt, m_mle, m_meq, m_neg, e1]
    · simp (disch := omega) only [li, lo, c_le, c_lt, c_eq, c_cl, c_sub, nI_add, pk_mul, zin_nI, zg_true, ob_some, zm_none, zm_some, if_pos, if_neg, if_true, if_false, Bool.false_eq_true, d_t, d_f, ob_eta, ob_eta1, m_ltn, m_nlt, m_nle, m_len, m_ne, m_ne', m_mlt, m_mle, m_meq, m_neg, e1]
  · rw [s4 e, e]; simp (disch := omega) only [li, lo, c_le, c_lt, c_eq, c_cl, c_sub, nI_add, pk_mul, zin_nI, zg_true, ob_some, zm_none, zm_some, if_pos, if_neg, if_true, if_false, Bool.false_eq_true, d_t, d_f, ob_eta, ob_eta1, m_ltn, m_nlt, m_nle, m_len, m_ne, m_ne', m_mlt, m_mle, m_meq, m_neg]
  · rw [s5 e, e]; simp (disch := omega) only [li, lo, c_le, c_lt, c_eq, c_cl, c_sub, nI_add, pk_mul, zin_nI, zg_true, ob_some, zm_none, zm_some, if_pos, if_neg, if_true, if_false, Bool.false_eq_true, d_t, d_f, ob_eta, ob_eta1, m_ltn, m_nlt, m_nle, m_len, m_ne, m_ne', m_mlt, m_mle, m_meq, m_neg]
  · rw [s6 e, e]
    by_cases e1 : s = 1
    · simp (disch := omega) only [li, lo, c_le, c_lt, c_eq, c_cl, c_sub, nI_add, pk_mul, zin_nI, zg_true, ob_some, zm_none, zm_some, if_pos, if_neg, if_true, if_false, Bool.false_eq_true, d_t, d_f, ob_eta, ob_eta1, m_ltn, m_nlt, m_nle, m_len, m_ne, m_ne', m_mlt, m_mle, m_meq, m_neg, e1]
    · by_cases e3 : s = 3
      · simp (disch := omega) only [li, lo, c_le, c_lt, c_eq, c_cl, c_sub, nI_add, pk_mul, zin_nI, zg_true, ob_some, zm_none, zm_some, if_pos, if_neg, if_true, if_false, Bool.false_eq_true, d_t, d_f, ob_eta, ob_eta1, m_ltn, m_nlt, m_nle, m_len, m_ne, m_ne', m_mlt, m_mle, m_meq, m_neg, e3]
      · simp (disch := omega) only [li, lo, c_le, c_lt, c_eq, c_cl, c_sub, nI_add, pk_mul, zin_nI, zg_true, ob_some, zm_none, zm_some, if_pos, if_neg, if_true, if_false, Bool.false_eq_true, d_t, d_f, ob_eta, ob_eta1, m_ltn, m_nlt, m_nle, m_len, m_ne, m_ne', m_mlt, m_mle, m_meq, m_neg, e1, e3]
theorem l_gotBy (h : Lp pk S q d p) (k : Kp d p) {c : Nat} (hc : c < 6) (ho : dou d p ≤ c) (f : Int32) : M_X5_gotBy pk S q (nI c) f = some (dGot d p f (c - dou d p)) := by
  have key := lp (fun n acc i => M_X5_gotBy_B5 pk S q n (nI c) acc i) (fun acc j => mx0 (acc - dLoss d p j)) (fun a => a) (c - dou d p + 1) (fun n acc => ?_) (fun n acc i hi => ?_)
  · have e : ∀ m, sFo (fun acc j => mx0 (acc - dLoss d p j)) 1 m f = dGot d p f m := by
      have g : ∀ m i, sFo (fun acc j => mx0 (acc - dLoss d p j)) (i + 1) m (sGot (dLoss d p) f i) = sGot (dLoss d p) f (i + m) := by
        intro m
        induction m with
        | zero => intro i; rfl
        | succ m ih =>
          intro i
          show sFo _ (i + 1 + 1) m (sGot (dLoss d p) f (i + 1)) = _
          rw [ih (i + 1)]
          congr 1
          omega
      intro m
      have := g m 0
      simp only [Nat.zero_add] at this
      exact this
    have := key (c - dou d p) 1 zF f (by omega) (by show _ < 4096; omega)
    unfold M_X5_gotBy
    rw [e] at this
    exact this
  · simp (disch := omega) only [li, lo, c_le, c_lt, c_eq, c_cl, c_sub, nI_add, pk_mul, zin_nI, zg_true, ob_some, zm_none, zm_some, if_pos, if_neg, if_true, if_false, Bool.false_eq_true, d_t, d_f, ob_eta, ob_eta1, m_ltn, m_nlt, m_nle, m_len, m_ne, m_ne', m_mlt, m_mle, m_meq, m_neg, M_X5_gotBy_B5, h.ou]
  · simp (disch := omega) only [li, lo, c_le, c_lt, c_eq, c_cl, c_sub, nI_add, pk_mul, zin_nI, zg_true, ob_some, zm_none, zm_some, if_pos, if_neg, if_true, if_false, Bool.false_eq_true, d_t, d_f, ob_eta, ob_eta1, m_ltn, m_nlt, m_nle, m_len, m_ne, m_ne', m_mlt, m_mle, m_meq, m_neg, M_X5_gotBy_B5, h.ou, l_lossAt h k (show i < 100 by omega), mx0]
/-- never below 0 -/
theorem mx0_n (x : Int32) : ¬ mx0 x < 0 := by
  unfold mx0
  split
  · rename_i h
    exact fun q => Int32.lt_irrefl (Int32.lt_trans h q)
  · decide
theorem got_n (d : zD) (p : Nat) {f : Int32} (hf : ¬ f < 0) (j : Nat) : ¬ dGot d p f j < 0 := by
  cases j with
  | zero => exact hf
  | succ j => exact mx0_n _
theorem got_0 (d : zD) (p : Nat) {f : Int32} (hf : ¬ f < 0) (j : Nat) : dGot d p f j ≤ 0 ↔ dGot d p f j = 0 := by
  have h := Int32.not_lt.mp (got_n d p hf j)
  constructor
  · intro q
    exact Int32.le_antisymm q h
  · intro q
    rw [q]
    exact Int32.le_refl 0
end LEAF
section LEAF2
variable {pk : Nat → Nat} {S T : zSt} {q p : Nat} {d : zD}
theorem l_readSum (h : Lp pk S q d p) : M_X5_readSum pk S q = some (sRead d p) := by
  unfold M_X5_readSum sRead
  refine lp (fun n acc i => M_X5_readSum_B4 pk S q n acc i) _ (fun a => a) 8 (fun n acc => ?_) (fun n acc i hi => ?_) 8 0 zF 0 rfl (by decide)
  · simp (disch := omega) only [li, lo, c_le, c_lt, c_eq, c_cl, c_sub, nI_add, pk_mul, zin_nI, zg_true, ob_some, zm_none, zm_some, if_pos, if_neg, if_true, if_false, Bool.false_eq_true, d_t, d_f, ob_eta, ob_eta1, m_ltn, m_nlt, m_nle, m_len, m_ne, m_ne', m_mlt, m_mle, m_meq, m_neg, M_X5_readSum_B4]
  · have := l_strengthOf h (show 5 < 6 by decide) hi
    simp (disch := omega) only [li, lo, c_le, c_lt, c_eq, c_cl, c_sub, nI_add, pk_mul, zin_nI, zg_true, ob_some, zm_none, zm_some, if_pos, if_neg, if_true, if_false, Bool.false_eq_true, d_t, d_f, ob_eta, ob_eta1, m_ltn, m_nlt, m_nle, m_len, m_ne, m_ne', m_mlt, m_mle, m_meq, m_neg, M_X5_readSum_B4, this]
theorem r_reads (h : Rp T d p) (hp : p < 6) : M_X12_reads T (nI p) = some (sRead d p) := by
  unfold M_X12_reads sRead
  refine lp (fun n acc i => M_X12_reads_B4 T n (nI p) acc i) _ (fun a => a) 8 (fun n acc => ?_) (fun n acc i hi => ?_) 8 0 zF 0 rfl (by decide)
  · simp (disch := omega) only [li, lo, c_le, c_lt, c_eq, c_cl, c_sub, nI_add, pk_mul, zin_nI, zg_true, ob_some, zm_none, zm_some, if_pos, if_neg, if_true, if_false, Bool.false_eq_true, d_t, d_f, ob_eta, ob_eta1, m_ltn, m_nlt, m_nle, m_len, m_ne, m_ne', m_mlt, m_mle, m_meq, m_neg, M_X12_reads_B4]
  · have := r_strengthOf h hp (show 5 < 6 by decide) hi
    simp (disch := omega) only [li, lo, c_le, c_lt, c_eq, c_cl, c_sub, nI_add, pk_mul, zin_nI, zg_true, ob_some, zm_none, zm_some, if_pos, if_neg, if_true, if_false, Bool.false_eq_true, d_t, d_f, ob_eta, ob_eta1, m_ltn, m_nlt, m_nle, m_len, m_ne, m_ne', m_mlt, m_mle, m_meq, m_neg, M_X12_reads_B4, this]
theorem l_smearSum (h : Lp pk S q d p) : M_X5_smearSum pk S q = some (sRubd d p) := by
  unfold M_X5_smearSum sRubd
  refine lp (fun n acc i => M_X5_smearSum_B13 pk S q n acc (nI 6) i) _ (fun a => a) 6 (fun n acc => ?_) (fun n acc i hi => ?_) 6 0 zF 0 rfl (by decide)
  · simp (disch := omega) only [li, lo, c_le, c_lt, c_eq, c_cl, c_sub, nI_add, pk_mul, zin_nI, zg_true, ob_some, zm_none, zm_some, if_pos, if_neg, if_true, if_false, Bool.false_eq_true, d_t, d_f, ob_eta, ob_eta1, m_ltn, m_nlt, m_nle, m_len, m_ne, m_ne', m_mlt, m_mle, m_meq, m_neg, M_X5_smearSum_B13]
  · simp (disch := omega) only [li, lo, c_le, c_lt, c_eq, c_cl, c_sub, nI_add, pk_mul, zin_nI, zg_true, ob_some, zm_none, zm_some, if_pos, if_neg, if_true, if_false, Bool.false_eq_true, d_t, d_f, ob_eta, ob_eta1, m_ltn, m_nlt, m_nle, m_len, m_ne, m_ne', m_mlt, m_mle, m_meq, m_neg, M_X5_smearSum_B13, h.sm hi]
theorem r_rubbed (h : Rp T d p) (hp : p < 6) : M_X12_rubbed T (nI p) = some (sRubd d p) := by
  unfold M_X12_rubbed sRubd
  refine lp (fun n acc i => M_X12_rubbed_B4 T n (nI p) acc i) _ (fun a => a) 6 (fun n acc => ?_) (fun n acc i hi => ?_) 6 0 zF 0 rfl (by decide)
  · simp (disch := omega) only [li, lo, c_le, c_lt, c_eq, c_cl, c_sub, nI_add, pk_mul, zin_nI, zg_true, ob_some, zm_none, zm_some, if_pos, if_neg, if_true, if_false, Bool.false_eq_true, d_t, d_f, ob_eta, ob_eta1, m_ltn, m_nlt, m_nle, m_len, m_ne, m_ne', m_mlt, m_mle, m_meq, m_neg, M_X12_rubbed_B4]
  · simp (disch := omega) only [li, lo, c_le, c_lt, c_eq, c_cl, c_sub, nI_add, pk_mul, zin_nI, zg_true, ob_some, zm_none, zm_some, if_pos, if_neg, if_true, if_false, Bool.false_eq_true, d_t, d_f, ob_eta, ob_eta1, m_ltn, m_nlt, m_nle, m_len, m_ne, m_ne', m_mlt, m_mle, m_meq, m_neg, M_X12_rubbed_B4, h.sm hi]
theorem l_strengthSum (h : Lp pk S q d p) : M_X5_strengthSum pk S q = some (sStr d p) := by
  unfold M_X5_strengthSum sStr
  refine lp (fun n acc i => M_X5_strengthSum_B13 pk S q n acc (nI 48) i) _ (fun a => a) 48 (fun n acc => ?_) (fun n acc i hi => ?_) 48 0 zF 0 rfl (by decide)
  · simp (disch := omega) only [li, lo, c_le, c_lt, c_eq, c_cl, c_sub, nI_add, pk_mul, zin_nI, zg_true, ob_some, zm_none, zm_some, if_pos, if_neg, if_true, if_false, Bool.false_eq_true, d_t, d_f, ob_eta, ob_eta1, m_ltn, m_nlt, m_nle, m_len, m_ne, m_ne', m_mlt, m_mle, m_meq, m_neg, M_X5_strengthSum_B13]
  · simp (disch := omega) only [li, lo, c_le, c_lt, c_eq, c_cl, c_sub, nI_add, pk_mul, zin_nI, zg_true, ob_some, zm_none, zm_some, if_pos, if_neg, if_true, if_false, Bool.false_eq_true, d_t, d_f, ob_eta, ob_eta1, m_ltn, m_nlt, m_nle, m_len, m_ne, m_ne', m_mlt, m_mle, m_meq, m_neg, M_X5_strengthSum_B13, h.st hi]
theorem l_trueBits (h : Lp pk S q d p) : M_X5_trueBits pk S q = some (sTru d p) := by
  unfold M_X5_trueBits sTru
  refine lp (fun n acc i => M_X5_trueBits_B4 pk S q n acc i) _ (fun a => a) 6 (fun n acc => ?_) (fun n acc i hi => ?_) 6 0 zF 0 rfl (by decide)
  · simp (disch := omega) only [li, lo, c_le, c_lt, c_eq, c_cl, c_sub, nI_add, pk_mul, zin_nI, zg_true, ob_some, zm_none, zm_some, if_pos, if_neg, if_true, if_false, Bool.false_eq_true, d_t, d_f, ob_eta, ob_eta1, m_ltn, m_nlt, m_nle, m_len, m_ne, m_ne', m_mlt, m_mle, m_meq, m_neg, M_X5_trueBits_B4]
  · by_cases e : dv d p (54 + i) = nI 0 <;> simp (disch := omega) only [li, lo, c_le, c_lt, c_eq, c_cl, c_sub, nI_add, pk_mul, zin_nI, zg_true, ob_some, zm_none, zm_some, if_pos, if_neg, if_true, if_false, Bool.false_eq_true, d_t, d_f, ob_eta, ob_eta1, m_ltn, m_nlt, m_nle, m_len, m_ne, m_ne', m_mlt, m_mle, m_meq, m_neg, M_X5_trueBits_B4, h.dr hi, e]
theorem l_rubsToMend (h : Lp pk S q d p) (k : Kp d p) {x : Nat} (hx : x < 8) (le : Int32) : M_X5_rubsToMend pk S q (nI x) le = some (sMend d p le x) := by
  have ho := k.o
  unfold M_X5_rubsToMend sMend
  rw [l_haveBits h k hx]
  by_cases e : bc (sHave d p le x) = nI (6 - dou d p) <;> simp (disch := omega) only [li, lo, c_le, c_lt, c_eq, c_cl, c_sub, nI_add, pk_mul, zin_nI, zg_true, ob_some, zm_none, zm_some, if_pos, if_neg, if_true, if_false, Bool.false_eq_true, d_t, d_f, ob_eta, ob_eta1, m_ltn, m_nlt, m_nle, m_len, m_ne, m_ne', m_mlt, m_mle, m_meq, m_neg, t_bc, h.ou, e]
theorem r_mends (h : Rp T d p) (k : Kp d p) (hp : p < 6) {x : Nat} (hx : x < 8) : M_X12_mends T (nI p) (nI x) = some (sMend d p (zsc T 0 11) x) := by
  have ho := k.o
  unfold M_X12_mends sMend
  rw [r_haveBits h k hp hx]
  by_cases e : bc (sHave d p (zsc T 0 11) x) = nI (6 - dou d p) <;> simp (disch := omega) only [li, lo, c_le, c_lt, c_eq, c_cl, c_sub, nI_add, pk_mul, zin_nI, zg_true, ob_some, zm_none, zm_some, if_pos, if_neg, if_true, if_false, Bool.false_eq_true, d_t, d_f, ob_eta, ob_eta1, m_ltn, m_nlt, m_nle, m_len, m_ne, m_ne', m_mlt, m_mle, m_meq, m_neg, t_bc, h.ou, e]
/-! how many dyings a deed is borne -/
def sBear (d : zD) (p : Nat) (le : Int32) (x : Nat) : Nat := sFo (fun acc c => if dv d p (8 * c + x) < le then acc else c - dou d p + 1) (dou d p) (6 - dou d p) 0
theorem sFo_snoc {α : Type} (g : α → Nat → α) : ∀ (m i : Nat) (acc : α), sFo g i (m + 1) acc = g (sFo g i m acc) (i + m) := by
  intro m
  induction m with
  | zero => intro i acc; rfl
  | succ m ih =>
    intro i acc
    show sFo g (i + 1) (m + 1) (g acc i) = g (sFo g (i + 1) m (g acc i)) (i + (m + 1))
    rw [ih, show i + 1 + m = i + (m + 1) by omega]
theorem l_bearing (h : Lp pk S q d p) (k : Kp d p) {x : Nat} (hx : x < 8) (le : Int32) : M_X5_bearing pk S q (nI x) le = some (nI (sBear d p le x)) := by
  have ho := k.o
  have stop : ∀ n i : Nat, i < dou d p → M_X5_bearing_B2 pk S q (n + 1) (nI x) le (nI i) = some (nI 0) := by
    intro n i hi
    simp (disch := omega) only [li, lo, c_le, c_lt, c_eq, c_cl, c_sub, nI_add, pk_mul, zin_nI, zg_true, ob_some, zm_none, zm_some, if_pos, if_neg, if_true, if_false, Bool.false_eq_true, d_t, d_f, ob_eta, ob_eta1, m_ltn, m_nlt, m_nle, m_len, m_ne, m_ne', m_mlt, m_mle, m_meq, m_neg, M_X5_bearing_B2, h.ou]
  have stop1 : ∀ n : Nat, dou d p = 0 → M_X5_bearing_B2 pk S q (n + 1) (nI x) le (-nI 1) = some (nI 0) := by
    intro n hi
    rw [M_X5_bearing_B2, h.ou, hi, if_pos (m_lt0 (by decide) (by decide))]
    rfl
  have go : ∀ m n : Nat, m ≤ 6 - dou d p → m < n → (if dou d p + m = 0 then M_X5_bearing_B2 pk S q n (nI x) le (-nI 1) else M_X5_bearing_B2 pk S q n (nI x) le (nI (dou d p + m - 1))) = some (nI (sFo (fun acc c => if dv d p (8 * c + x) < le then acc else c - dou d p + 1) (dou d p) m 0)) := by
    intro m
    induction m with
    | zero =>
      intro n hm hn
      obtain ⟨n, rfl⟩ : ∃ k, n = k + 1 := ⟨n - 1, by omega⟩
      split
      · exact stop1 n (by omega)
      · exact stop n _ (by omega)
    | succ m ih =>
      intro n hm hn
      obtain ⟨n, rfl⟩ : ∃ k, n = k + 1 := ⟨n - 1, by omega⟩
      have ih := ih n (by omega) (by omega)
      rw [if_neg (by omega), show dou d p + (m + 1) - 1 = dou d p + m by omega, sFo_snoc]
      by_cases e : dv d p (8 * (dou d p + m) + x) < le
      · rw [if_pos e, ← ih]
        rw [M_X5_bearing_B2, l_strengthOf h (show dou d p + m < 6 by omega) hx]
        simp (disch := omega) only [li, lo, c_le, c_lt, c_eq, c_cl, c_sub, nI_add, pk_mul, zin_nI, zg_true, ob_some, zm_none, zm_some, if_pos, if_neg, if_true, if_false, Bool.false_eq_true, d_t, d_f, ob_eta, ob_eta1, m_ltn, m_nlt, m_nle, m_len, m_ne, m_ne', m_mlt, m_mle, m_meq, m_neg, h.ou, e]
        by_cases z : dou d p + m = 0
        · rw [if_pos z, z]
          rfl
        · rw [if_neg z]
          obtain ⟨r, hr⟩ : ∃ r, dou d p + m = r + 1 := ⟨dou d p + m - 1, by omega⟩
          rw [hr, Nat.add_sub_cancel]
          exact congrArg (fun z => M_X5_bearing_B2 pk S q n (nI x) le z) (pk_m1 r)
      · rw [if_neg e]
        rw [M_X5_bearing_B2, l_strengthOf h (show dou d p + m < 6 by omega) hx]
        simp (disch := omega) only [li, lo, c_le, c_lt, c_eq, c_cl, c_sub, nI_add, pk_mul, zin_nI, zg_true, ob_some, zm_none, zm_some, if_pos, if_neg, if_true, if_false, Bool.false_eq_true, d_t, d_f, ob_eta, ob_eta1, m_ltn, m_nlt, m_nle, m_len, m_ne, m_ne', m_mlt, m_mle, m_meq, m_neg, h.ou, e]
  have := go (6 - dou d p) zF (by omega) (by show _ < 4096; omega)
  rw [if_neg (by omega), show dou d p + (6 - dou d p) - 1 = 5 by omega] at this
  exact this
theorem r_bears (h : Rp T d p) (k : Kp d p) (hp : p < 6) {x : Nat} (hx : x < 8) : M_X12_bears T (nI p) (nI x) = some (nI (sBear d p (zsc T 0 11) x)) := by
  have ho := k.o
  unfold M_X12_bears sBear
  simp (disch := omega) only [li, lo, c_le, c_lt, c_eq, c_cl, c_sub, nI_add, pk_mul, zin_nI, zg_true, ob_some, zm_none, zm_some, if_pos, if_neg, if_true, if_false, Bool.false_eq_true, d_t, d_f, ob_eta, ob_eta1, m_ltn, m_nlt, m_nle, m_len, m_ne, m_ne', m_mlt, m_mle, m_meq, m_neg, h.ou]
  refine lpR (fun n (acc : Int32) i => M_X12_bears_B10 T n (nI p) (nI x) acc i) (fun acc c => if dv d p (8 * c + x) < zsc T 0 11 then acc else c - dou d p + 1) (fun i a c => a = nI c ∧ dou d p ≤ i) (fun c o => o = some (nI c)) 6 (fun n a c hR => ?_) (fun n a c i hi hR => ?_) (6 - dou d p) (dou d p) zF 0 0 ⟨rfl, Nat.le_refl _⟩ (by omega) (by show _ < 4096; omega)
  · obtain ⟨rfl, -⟩ := hR
    simp (disch := omega) only [li, lo, c_le, c_lt, c_eq, c_cl, c_sub, nI_add, pk_mul, zin_nI, zg_true, ob_some, zm_none, zm_some, if_pos, if_neg, if_true, if_false, Bool.false_eq_true, d_t, d_f, ob_eta, ob_eta1, m_ltn, m_nlt, m_nle, m_len, m_ne, m_ne', m_mlt, m_mle, m_meq, m_neg, M_X12_bears_B10]
  · obtain ⟨rfl, hR⟩ := hR
    by_cases e : dv d p (8 * i + x) < zsc T 0 11
    · exact ⟨_, ⟨rfl, by omega⟩, by simp (disch := omega) only [li, lo, c_le, c_lt, c_eq, c_cl, c_sub, nI_add, pk_mul, zin_nI, zg_true, ob_some, zm_none, zm_some, if_pos, if_neg, if_true, if_false, Bool.false_eq_true, d_t, d_f, ob_eta, ob_eta1, m_ltn, m_nlt, m_nle, m_len, m_ne, m_ne', m_mlt, m_mle, m_meq, m_neg, M_X12_bears_B10, r_hasDeed h hp hi hx, e]⟩
    · exact ⟨_, ⟨rfl, by omega⟩, by simp (disch := omega) only [li, lo, c_le, c_lt, c_eq, c_cl, c_sub, nI_add, pk_mul, zin_nI, zg_true, ob_some, zm_none, zm_some, if_pos, if_neg, if_true, if_false, Bool.false_eq_true, d_t, d_f, ob_eta, ob_eta1, m_ltn, m_nlt, m_nle, m_len, m_ne, m_ne', m_mlt, m_mle, m_meq, m_neg, M_X12_bears_B10, r_hasDeed h hp hi hx, h.ou, e]⟩
/-! sheets out of true -/
def sMov (d : zD) (p : Nat) : Int32 × Int32 := sFo (fun acc c => (acc.1 + iabs (dv d p (54 + c) - acc.2), dv d p (54 + c))) 0 6 (0, 0)
def sAsk (d : zD) (p : Nat) : Int32 := sFo (fun (acc : Int32) c => if acc = -1 then (if dv d p (54 + c) = 0 then -1 else nI c) else acc) 0 6 (-1)
theorem l_moves (h : Lp pk S q d p) : M_X5_movesToStraight pk S q = some (sMov d p).1 := by
  unfold M_X5_movesToStraight sMov
  refine lp (fun n (acc : Int32 × Int32) i => M_X5_movesToStraight_B16 pk S q n acc.1 acc.2 (nI 6) i) _ (fun a => a.1) 6 (fun n acc => ?_) (fun n acc i hi => ?_) 6 0 zF (0, 0) rfl (by decide)
  · simp (disch := omega) only [li, lo, c_le, c_lt, c_eq, c_cl, c_sub, nI_add, pk_mul, zin_nI, zg_true, ob_some, zm_none, zm_some, if_pos, if_neg, if_true, if_false, Bool.false_eq_true, d_t, d_f, ob_eta, ob_eta1, m_ltn, m_nlt, m_nle, m_len, m_ne, m_ne', m_mlt, m_mle, m_meq, m_neg, M_X5_movesToStraight_B16]
  · simp (disch := omega) only [li, lo, c_le, c_lt, c_eq, c_cl, c_sub, nI_add, pk_mul, zin_nI, zg_true, ob_some, zm_none, zm_some, if_pos, if_neg, if_true, if_false, Bool.false_eq_true, d_t, d_f, ob_eta, ob_eta1, m_ltn, m_nlt, m_nle, m_len, m_ne, m_ne', m_mlt, m_mle, m_meq, m_neg, M_X5_movesToStraight_B16, h.dr hi, iabs]
theorem l_askew (h : Lp pk S q d p) : M_X5_firstAskew pk S q = some (sAsk d p) := by
  unfold M_X5_firstAskew sAsk
  have stay : ∀ (m i : Nat) (a : Int32), a ≠ -1 → sFo (fun (acc : Int32) c => if acc = -1 then (if dv d p (54 + c) = 0 then -1 else nI c) else acc) i m a = a := by
    intro m
    induction m with
    | zero => intro i a h; rfl
    | succ m ih =>
      intro i a h
      show sFo _ (i + 1) m (if a = -1 then _ else a) = a
      rw [if_neg h]
      exact ih _ a h
  have go : ∀ (m i n : Nat), i + m = 6 → m < n → M_X5_firstAskew_B2 pk S q n (nI i) = some (sFo (fun (acc : Int32) c => if acc = -1 then (if dv d p (54 + c) = 0 then -1 else nI c) else acc) i m (-1)) := by
    intro m
    induction m with
    | zero =>
      intro i n h1 h2
      obtain ⟨n, rfl⟩ : ∃ k, n = k + 1 := ⟨n - 1, by omega⟩
      obtain rfl : i = 6 := by omega
      rfl
    | succ m ih =>
      intro i n h1 h2
      obtain ⟨n, rfl⟩ : ∃ k, n = k + 1 := ⟨n - 1, by omega⟩
      show _ = some (sFo _ (i + 1) m (if (-1 : Int32) = -1 then (if dv d p (54 + i) = 0 then -1 else nI i) else -1))
      rw [if_pos rfl]
      by_cases e : dv d p (54 + i) = 0
      · rw [if_pos e, ← ih (i + 1) n (by omega) (by omega)]
        rw [M_X5_firstAskew_B2]
        have e : dv d p (54 + i) = nI 0 := e
        simp (disch := omega) only [li, lo, c_le, c_lt, c_eq, c_cl, c_sub, nI_add, pk_mul, zin_nI, zg_true, ob_some, zm_none, zm_some, if_pos, if_neg, if_true, if_false, Bool.false_eq_true, d_t, d_f, ob_eta, ob_eta1, m_ltn, m_nlt, m_nle, m_len, m_ne, m_ne', m_mlt, m_mle, m_meq, m_neg, h.dr (show i < 6 by omega), e]
      · rw [if_neg e, stay _ _ _ (by rw [show (-1 : Int32) = -nI 1 from rfl]; exact fun q => by rw [m_ne (by decide) (by decide) (by omega)] at q; exact q)]
        rw [M_X5_firstAskew_B2]
        have e : ¬ dv d p (54 + i) = nI 0 := e
        simp (disch := omega) only [li, lo, c_le, c_lt, c_eq, c_cl, c_sub, nI_add, pk_mul, zin_nI, zg_true, ob_some, zm_none, zm_some, if_pos, if_neg, if_true, if_false, Bool.false_eq_true, d_t, d_f, ob_eta, ob_eta1, m_ltn, m_nlt, m_nle, m_len, m_ne, m_ne', m_mlt, m_mle, m_meq, m_neg, h.dr (show i < 6 by omega), e]
  exact go 6 0 zF rfl (by decide)
theorem sFo_prod {α β : Type} (g1 : α → Nat → α) (g2 : β → Nat → β) : ∀ (m i : Nat) (a : α) (b : β), sFo (fun (c : α × β) j => (g1 c.1 j, g2 c.2 j)) i m (a, b) = (sFo g1 i m a, sFo g2 i m b) := by
  intro m
  induction m with
  | zero => intro i a b; rfl
  | succ m ih => intro i a b; exact ih (i + 1) _ _
theorem r_straight (h : Rp T d p) (hp : p < 6) (w : Int32) : M_X12_straight_B44 zF T (nI p) w (nI 0) (nI 0) (-nI 1) (nI 0) (nI 0) = some (if w = nI 0 then sTru d p else if w = nI 1 then (sMov d p).1 else sAsk d p, T) := by
  have key := lpR (fun n (a : Int32 × Int32 × Int32 × Int32) i => M_X12_straight_B44 n T (nI p) w a.1 a.2.1 a.2.2.1 a.2.2.2 i) (fun (c : Int32 × (Int32 × Int32) × Int32) i => (if dv d p (54 + i) = 0 then c.1 ||| ((1 : Int32) <<< (nI i &&& 31)) else c.1, (c.2.1.1 + iabs (dv d p (54 + i) - c.2.1.2), dv d p (54 + i)), if c.2.2 = -1 then (if dv d p (54 + i) = 0 then -1 else nI i) else c.2.2)) (fun i a c => a.1 = c.1 ∧ a.2.1 = c.2.1.1 ∧ a.2.2.1 = c.2.2 ∧ a.2.2.2 = c.2.1.2 ∧ (c.2.2 = -1 → c.2.1.2 = 0)) (fun c o => o = some (if w = nI 0 then c.1 else if w = nI 1 then c.2.1.1 else c.2.2, T)) 6 (fun n a c hR => ?_) (fun n a c i hi hR => ?_) 6 0 zF (nI 0, nI 0, -nI 1, nI 0) (0, (0, 0), -1) ⟨rfl, rfl, rfl, rfl, fun _ => rfl⟩ rfl (by decide)
  · have e : sFo (fun (c : Int32 × (Int32 × Int32) × Int32) i => (if dv d p (54 + i) = 0 then c.1 ||| ((1 : Int32) <<< (nI i &&& 31)) else c.1, (c.2.1.1 + iabs (dv d p (54 + i) - c.2.1.2), dv d p (54 + i)), if c.2.2 = -1 then (if dv d p (54 + i) = 0 then -1 else nI i) else c.2.2)) 0 6 (0, (0, 0), -1) = (sTru d p, sMov d p, sAsk d p) := by
      rw [sFo_prod (fun (acc : Int32) i => if dv d p (54 + i) = 0 then acc ||| ((1 : Int32) <<< (nI i &&& 31)) else acc) (fun (c : (Int32 × Int32) × Int32) i => ((c.1.1 + iabs (dv d p (54 + i) - c.1.2), dv d p (54 + i)), if c.2 = -1 then (if dv d p (54 + i) = 0 then -1 else nI i) else c.2))]
      rw [sFo_prod (fun (c : Int32 × Int32) i => (c.1 + iabs (dv d p (54 + i) - c.2), dv d p (54 + i))) (fun (c : Int32) i => if c = -1 then (if dv d p (54 + i) = 0 then -1 else nI i) else c)]
      rfl
    rw [e] at key
    dsimp only at key
    exact key
  · obtain ⟨h1, h2, h3, h4, -⟩ := hR
    show M_X12_straight_B44 (n + 1) T (nI p) w a.1 a.2.1 a.2.2.1 a.2.2.2 (nI 6) = _
    rw [h1, h2, h3, h4, M_X12_straight_B44]
    rw [if_pos (show (6 : Int32) ≤ nI 6 from Int32.le_refl 6)]
    by_cases w0 : w = nI 0
    · simp (disch := omega) only [li, lo, c_le, c_lt, c_eq, c_cl, c_sub, nI_add, pk_mul, zin_nI, zg_true, ob_some, zm_none, zm_some, if_pos, if_neg, if_true, if_false, Bool.false_eq_true, d_t, d_f, ob_eta, ob_eta1, m_ltn, m_nlt, m_nle, m_len, m_ne, m_ne', m_mlt, m_mle, m_meq, m_neg, w0]
    · by_cases w1 : w = nI 1
      · simp (disch := omega) only [li, lo, c_le, c_lt, c_eq, c_cl, c_sub, nI_add, pk_mul, zin_nI, zg_true, ob_some, zm_none, zm_some, if_pos, if_neg, if_true, if_false, Bool.false_eq_true, d_t, d_f, ob_eta, ob_eta1, m_ltn, m_nlt, m_nle, m_len, m_ne, m_ne', m_mlt, m_mle, m_meq, m_neg, w1]
      · simp (disch := omega) only [li, lo, c_le, c_lt, c_eq, c_cl, c_sub, nI_add, pk_mul, zin_nI, zg_true, ob_some, zm_none, zm_some, if_pos, if_neg, if_true, if_false, Bool.false_eq_true, d_t, d_f, ob_eta, ob_eta1, m_ltn, m_nlt, m_nle, m_len, m_ne, m_ne', m_mlt, m_mle, m_meq, m_neg, w0, w1]
  · obtain ⟨h1, h2, h3, h4, h5⟩ := hR
    show ∃ a' : Int32 × Int32 × Int32 × Int32, _ ∧ M_X12_straight_B44 (n + 1) T (nI p) w a.1 a.2.1 a.2.2.1 a.2.2.2 (nI i) = M_X12_straight_B44 n T (nI p) w a'.1 a'.2.1 a'.2.2.1 a'.2.2.2 (nI (i + 1))
    rw [h1, h2, h3, h4]
    refine ⟨(if dv d p (54 + i) = 0 then c.1 ||| ((1 : Int32) <<< (nI i &&& 31)) else c.1, c.2.1.1 + iabs (dv d p (54 + i) - c.2.1.2), if c.2.2 = -1 then (if dv d p (54 + i) = 0 then -1 else nI i) else c.2.2, dv d p (54 + i)), ⟨rfl, rfl, rfl, rfl, ?_⟩, ?_⟩
    · intro q
      by_cases e : c.2.2 = -1
      · by_cases e2 : dv d p (54 + i) = 0
        · exact e2
        · exfalso
          simp only [e, e2, if_true, if_false] at q
          have : (nI i = -nI 1) = False := m_ne (by decide) (by decide) (by omega)
          rw [← this]; exact q
      · exfalso
        simp only [e, if_false] at q
    · rw [M_X12_straight_B44]
      have e0 : ((0 : Int32) = nI 0) := rfl
      have e1 : ((-1 : Int32) = -nI 1) := rfl
      by_cases e2 : dv d p (54 + i) = nI 0 <;> by_cases e : c.2.2 = -nI 1
      · have h5 : c.2.1.2 = nI 0 := h5 e
        simp (disch := omega) only [li, lo, c_le, c_lt, c_eq, c_cl, c_sub, nI_add, pk_mul, zin_nI, zg_true, ob_some, zm_none, zm_some, if_pos, if_neg, if_true, if_false, Bool.false_eq_true, d_t, d_f, ob_eta, ob_eta1, m_ltn, m_nlt, m_nle, m_len, m_ne, m_ne', m_mlt, m_mle, m_meq, m_neg, M_X12_straight_B77, M_X12_straight_B94, h.dr hi, e2, e, h5, iabs]
      · by_cases e3 : nI 0 = c.2.1.2
        · simp (disch := omega) only [li, lo, c_le, c_lt, c_eq, c_cl, c_sub, nI_add, pk_mul, zin_nI, zg_true, ob_some, zm_none, zm_some, if_pos, if_neg, if_true, if_false, Bool.false_eq_true, d_t, d_f, ob_eta, ob_eta1, m_ltn, m_nlt, m_nle, m_len, m_ne, m_ne', m_mlt, m_mle, m_meq, m_neg, M_X12_straight_B77, M_X12_straight_B94, h.dr hi, e2, e, e3, iabs]
        · simp (disch := omega) only [li, lo, c_le, c_lt, c_eq, c_cl, c_sub, nI_add, pk_mul, zin_nI, zg_true, ob_some, zm_none, zm_some, if_pos, if_neg, if_true, if_false, Bool.false_eq_true, d_t, d_f, ob_eta, ob_eta1, m_ltn, m_nlt, m_nle, m_len, m_ne, m_ne', m_mlt, m_mle, m_meq, m_neg, M_X12_straight_B77, M_X12_straight_B94, h.dr hi, e2, e, e3, iabs]
          try rfl
      · have h5 : c.2.1.2 = nI 0 := h5 e
        simp (disch := omega) only [li, lo, c_le, c_lt, c_eq, c_cl, c_sub, nI_add, pk_mul, zin_nI, zg_true, ob_some, zm_none, zm_some, if_pos, if_neg, if_true, if_false, Bool.false_eq_true, d_t, d_f, ob_eta, ob_eta1, m_ltn, m_nlt, m_nle, m_len, m_ne, m_ne', m_mlt, m_mle, m_meq, m_neg, M_X12_straight_B77, M_X12_straight_B94, h.dr hi, e2, e, h5, iabs]
      · by_cases e3 : dv d p (54 + i) = c.2.1.2
        · have e4 : ¬ c.2.1.2 = nI 0 := e3 ▸ e2
          simp (disch := omega) only [li, lo, c_le, c_lt, c_eq, c_cl, c_sub, nI_add, pk_mul, zin_nI, zg_true, ob_some, zm_none, zm_some, if_pos, if_neg, if_true, if_false, Bool.false_eq_true, d_t, d_f, ob_eta, ob_eta1, m_ltn, m_nlt, m_nle, m_len, m_ne, m_ne', m_mlt, m_mle, m_meq, m_neg, M_X12_straight_B77, M_X12_straight_B94, h.dr hi, e4, e, e3, iabs]
          try rfl
        · simp (disch := omega) only [li, lo, c_le, c_lt, c_eq, c_cl, c_sub, nI_add, pk_mul, zin_nI, zg_true, ob_some, zm_none, zm_some, if_pos, if_neg, if_true, if_false, Bool.false_eq_true, d_t, d_f, ob_eta, ob_eta1, m_ltn, m_nlt, m_nle, m_len, m_ne, m_ne', m_mlt, m_mle, m_meq, m_neg, M_X12_straight_B77, M_X12_straight_B94, h.dr hi, e2, e, e3, iabs]
          try rfl
end LEAF2
