/-! A NEW PERSON IN A PLACE -/
theorem zH_intro {D : va_G} {Y : Nat → ClassId} {F : Nat → Nat} {A : Nat → Prop} {G : zG} {S : zSt} {H : Heap} (h1 : ∀ k, zE G k = true → va_at D vwCl (zad F G k, zB Y F G S k) H) (h2 : ∀ k, zE G k = true → A (zad F G k)) (h3 : ∀ k k', zE G k = true → zE G k' = true → zad F G k = zad F G k' → k = k') : zH D Y F A G S H := by
  have key : ∀ (i : Nat) (x : Nat × va_E), (zW Y F G S)[i]? = some x → ∃ k, (zIds G)[i]? = some k ∧ x = (zad F G k, zB Y F G S k) := by
    intro i x hx
    unfold zW at hx
    rw [List.getElem?_map] at hx
    cases hj : (zIds G)[i]? with
    | none => rw [hj] at hx; cases hx
    | some k => rw [hj] at hx; cases hx; exact ⟨k, rfl, rfl⟩
  refine ⟨fun i x hx => ?_, fun i j p q hp hq e => ?_, fun i x hx => ?_⟩
  · obtain ⟨k, hk, rfl⟩ := key i x hx
    exact h1 k (zIds_of (List.mem_of_getElem? hk))
  · obtain ⟨k, hk, rfl⟩ := key i p hp
    obtain ⟨k', hk', rfl⟩ := key j q hq
    have e2 := h3 k k' (zIds_of (List.mem_of_getElem? hk)) (zIds_of (List.mem_of_getElem? hk')) e
    subst e2
    obtain ⟨a1, b1⟩ := List.getElem?_eq_some_iff.mp hk
    obtain ⟨a2, b2⟩ := List.getElem?_eq_some_iff.mp hk'
    exact (List.getElem_inj (zIds_nodup G)).mp (b1.trans b2.symm)
  · obtain ⟨k, hk, rfl⟩ := key i x hx
    exact h2 k (zIds_of (List.mem_of_getElem? hk))
/-- the places' map with c in place q, at the addresses a, b1, b2, b3 -/
def zNewG (G : zG) (q c a b1 b2 b3 : Nat) : zG := (fun z => if z = q then c else G.1 z, fun k => if k = 100 + 4 * q then a else if k = 100 + 4 * q + 1 then b1 else if k = 100 + 4 * q + 2 then b2 else if k = 100 + 4 * q + 3 then b3 else G.2 k)
/-- the state with a new person in place q -/
def zNewS (S : zSt) (q : Nat) (kind number : Int32) : zSt := (fun k => if k = 100 + 4 * q then (fun f => if f = 0 then kind else if f = 1 then number else if f = 7 then 1 else 0) else S.1 k, fun k => if k = 100 + 4 * q + 1 ∨ k = 100 + 4 * q + 2 ∨ k = 100 + 4 * q + 3 then (fun _ => 0) else S.2.1 k, S.2.2)
theorem zNewG_E {G : zG} {q c a b1 b2 b3 k : Nat} (hc : c ≠ 0) (h : zE (zNewG G q c a b1 b2 b3) k = true) : (zE G k = true ∧ ¬ (100 + 4 * q ≤ k ∧ k < 100 + 4 * q + 4)) ∨ (k = 100 + 4 * q ∨ k = 100 + 4 * q + 1 ∨ k = 100 + 4 * q + 2 ∨ k = 100 + 4 * q + 3) := by
  by_cases hk : 100 + 4 * q ≤ k ∧ k < 100 + 4 * q + 4
  · right; omega
  · left
    refine ⟨?_, hk⟩
    simp only [zE, zNewG, Bool.or_eq_true, Bool.and_eq_true, decide_eq_true_eq, Bool.not_eq_true', beq_eq_false_iff_ne] at h ⊢
    rcases h with h | ⟨⟨h1, h2⟩, h3⟩
    · left; exact h
    · right
      refine ⟨⟨h1, h2⟩, ?_⟩
      have h3' : ¬ (if (k - 100) / 4 = q then c else G.1 ((k - 100) / 4)) = 0 := h3
      rw [if_neg (by omega)] at h3'
      exact h3'
theorem zNewG_ad {F : Nat → Nat} {G : zG} {q c a b1 b2 b3 k : Nat} (hk : ¬ (100 + 4 * q ≤ k ∧ k < 100 + 4 * q + 4)) : zad F (zNewG G q c a b1 b2 b3) k = zad F G k := by
  unfold zad zNewG
  by_cases h : k < 100
  · rw [if_pos h, if_pos h]
  · rw [if_neg h, if_neg h]
    show (if k = 100 + 4 * q then a else if k = 100 + 4 * q + 1 then b1 else if k = 100 + 4 * q + 2 then b2 else if k = 100 + 4 * q + 3 then b3 else G.2 k) = G.2 k
    rw [if_neg (by omega), if_neg (by omega), if_neg (by omega), if_neg (by omega)]
theorem zNewG_a0 {F : Nat → Nat} {G : zG} {q c a b1 b2 b3 : Nat} : zad F (zNewG G q c a b1 b2 b3) (100 + 4 * q) = a := by
  unfold zad zNewG
  rw [if_neg (by omega)]
  exact if_pos rfl
theorem zNewG_a1 {F : Nat → Nat} {G : zG} {q c a b1 b2 b3 : Nat} : zad F (zNewG G q c a b1 b2 b3) (100 + 4 * q + 1) = b1 := by
  unfold zad zNewG
  rw [if_neg (by omega)]
  show (if 100 + 4 * q + 1 = 100 + 4 * q then a else if 100 + 4 * q + 1 = 100 + 4 * q + 1 then b1 else _) = b1
  rw [if_neg (by omega), if_pos rfl]
theorem zNewG_a2 {F : Nat → Nat} {G : zG} {q c a b1 b2 b3 : Nat} : zad F (zNewG G q c a b1 b2 b3) (100 + 4 * q + 2) = b2 := by
  unfold zad zNewG
  rw [if_neg (by omega)]
  show (if 100 + 4 * q + 2 = 100 + 4 * q then a else if 100 + 4 * q + 2 = 100 + 4 * q + 1 then b1 else if 100 + 4 * q + 2 = 100 + 4 * q + 2 then b2 else _) = b2
  rw [if_neg (by omega), if_neg (by omega), if_pos rfl]
theorem zNewG_a3 {F : Nat → Nat} {G : zG} {q c a b1 b2 b3 : Nat} : zad F (zNewG G q c a b1 b2 b3) (100 + 4 * q + 3) = b3 := by
  unfold zad zNewG
  rw [if_neg (by omega)]
  show (if 100 + 4 * q + 3 = 100 + 4 * q then a else if 100 + 4 * q + 3 = 100 + 4 * q + 1 then b1 else if 100 + 4 * q + 3 = 100 + 4 * q + 2 then b2 else if 100 + 4 * q + 3 = 100 + 4 * q + 3 then b3 else _) = b3
  rw [if_neg (by omega), if_neg (by omega), if_neg (by omega), if_pos rfl]
theorem zNewG_pk {G : zG} {q c a b1 b2 b3 z : Nat} (h : z ≠ q) : zpk (zNewG G q c a b1 b2 b3) z = zpk G z := if_neg h
theorem zNewG_pq {G : zG} {q c a b1 b2 b3 : Nat} : zpk (zNewG G q c a b1 b2 b3) q = c := if_pos rfl
theorem zNewS_sc {S : zSt} {q : Nat} {x y : Int32} {k : Nat} (h : k ≠ 100 + 4 * q) : zsc (zNewS S q x y) k = zsc S k := if_neg h
theorem zNewS_ar {S : zSt} {q : Nat} {x y : Int32} {k : Nat} (h : ¬ (k = 100 + 4 * q + 1 ∨ k = 100 + 4 * q + 2 ∨ k = 100 + 4 * q + 3)) : zar (zNewS S q x y) k = zar S k := if_neg h
theorem zNewS_ar0 {S : zSt} {q : Nat} {x y : Int32} {k : Nat} (h : k = 100 + 4 * q + 1 ∨ k = 100 + 4 * q + 2 ∨ k = 100 + 4 * q + 3) : zar (zNewS S q x y) k = fun _ => 0 := if_pos h
theorem arrV_cong {c : ClassId} {N : Nat} {f g : Nat → Value} (h : ∀ j, j < N → f j = g j) : arrV c N f = arrV c N g := by
  unfold arrV
  have e : (Array.ofFn (n := N) fun j => f j.val) = Array.ofFn (n := N) fun j => g j.val := congrArg (fun z => Array.ofFn (n := N) z) (funext fun j => h j.val j.isLt)
  rw [e]
theorem va_at_refs {D : va_G} {cl : List vw_C} {x : Nat} {c : ClassId} {N : Nat} {f g : Nat → Option Nat} {H : Heap} (hfg : ∀ j, j < N → f j = g j) (h : va_at D cl (x, .inl (c, N, .inr (.inr (.inr (.inr f))))) H) : va_at D cl (x, .inl (c, N, .inr (.inr (.inr (.inr g))))) H := by
  have e : vp_cell c (N, .inr (.inr (.inr (.inr f)))) = vp_cell c (N, .inr (.inr (.inr (.inr g)))) := by
    show arrV c N (fun j => va_rf (f j)) = arrV c N (fun j => va_rf (g j))
    exact arrV_cong (fun j hj => by rw [hfg j hj])
  show H[x]? = some (vp_cell c (N, .inr (.inr (.inr (.inr g)))))
  rw [← e]
  exact h
/-- a fixed cell speaks of the fixed addresses alone, and a land's persons of its six places -/
theorem zBb_fix {D : va_G} {cl : List vw_C} {Y : Nat → ClassId} {av av' pv pv' : Nat → Nat} {k : Nat} {sv rv : Nat → Int32} {lv : Nat → Int64} {x : Nat} {H : Heap} (hk : k < 100) (e : ∀ n, n < 100 → av n = av' n) (hp : 60 ≤ k → k < 69 → k % 3 = 1 → ∀ j, j < 6 → (if pv (2 * (k - 61) + j) = 0 then none else some (av (100 + 4 * (2 * (k - 61) + j)))) = (if pv' (2 * (k - 61) + j) = 0 then none else some (av' (100 + 4 * (2 * (k - 61) + j))))) (hz : k < 72) (hz1 : k ≠ 58) (hz2 : k ≠ 69) (h : va_at D cl (x, zBb Y av pv k sv rv lv) H) : va_at D cl (x, zBb Y av' pv' k sv rv lv) H := by
  unfold zBb at h ⊢
  by_cases c0 : k = 0
  · rw [if_pos c0] at h ⊢
    rw [e 1 (by omega), e 2 (by omega), e 3 (by omega), e 4 (by omega), e 5 (by omega), e 6 (by omega), e 7 (by omega), e 8 (by omega), e 9 (by omega), e 10 (by omega), e 11 (by omega), e 12 (by omega), e 13 (by omega), e 14 (by omega), e 15 (by omega), e 16 (by omega), e 17 (by omega), e 18 (by omega)] at h
    exact h
  rw [if_neg c0] at h ⊢
  by_cases c1 : k = 3
  · rw [if_pos c1] at h ⊢; exact h
  rw [if_neg c1] at h ⊢
  by_cases c2 : k < 19
  · rw [if_pos c2] at h ⊢; exact h
  rw [if_neg c2] at h ⊢
  by_cases c3 : k = 20
  · rw [if_pos c3] at h ⊢
    rw [e 21 (by omega), e 22 (by omega), e 56 (by omega), e 60 (by omega), e 63 (by omega), e 66 (by omega), e 70 (by omega), e 23 (by omega), e 24 (by omega), e 25 (by omega), e 26 (by omega), e 27 (by omega)] at h
    exact h
  rw [if_neg c3] at h ⊢
  by_cases c4 : k = 21
  · rw [if_pos c4] at h ⊢
    exact va_at_refs (fun j hj => by rw [e (40 + 2 * j) (by omega)]) h
  rw [if_neg c4] at h ⊢
  by_cases c5 : k < 27
  · rw [if_pos c5] at h ⊢; exact h
  rw [if_neg c5] at h ⊢
  by_cases c6 : k = 27
  · rw [if_pos c6] at h ⊢
    exact va_at_refs (fun j hj => by rw [e (28 + j) (by omega)]) h
  rw [if_neg c6] at h ⊢
  by_cases c7 : k < 40
  · rw [if_pos c7] at h ⊢; exact h
  rw [if_neg c7] at h ⊢
  by_cases c8 : k < 56
  · rw [if_pos c8] at h ⊢
    by_cases d8 : k % 2 = 0
    · rw [if_pos d8] at h ⊢
      rw [e (k + 1) (by omega)] at h
      exact h
    · rw [if_neg d8] at h ⊢; exact h
  rw [if_neg c8] at h ⊢
  by_cases c9 : k = 56
  · rw [if_pos c9] at h ⊢
    rw [e 57 (by omega)] at h
    exact h
  rw [if_neg c9] at h ⊢
  by_cases c10 : k = 57
  · rw [if_pos c10] at h ⊢; exact h
  rw [if_neg c10] at h ⊢
  by_cases c11 : k < 69
  · rw [if_pos c11] at h ⊢
    by_cases d0 : k % 3 = 0
    · rw [if_pos d0] at h ⊢
      rw [e (k + 1) (by omega), e (k + 2) (by omega), e 56 (by omega)] at h
      exact h
    rw [if_neg d0] at h ⊢
    by_cases d1 : k % 3 = 1
    · rw [if_pos d1] at h ⊢
      by_cases d2 : 60 ≤ k
      · exact va_at_refs (fun j hj => hp d2 c11 d1 j hj) h
      · exfalso; omega
    · rw [if_neg d1] at h ⊢; exact h
  rw [if_neg c11] at h ⊢
  by_cases c12 : k = 70
  · rw [if_pos c12] at h ⊢
    rw [e 63 (by omega), e 71 (by omega)] at h
    exact h
  rw [if_neg c12] at h ⊢
  by_cases c13 : k = 71
  · rw [if_pos c13] at h ⊢; exact h
  · exfalso; omega
