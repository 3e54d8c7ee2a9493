theorem zBb_hi {Y : Nat → ClassId} {av pv : Nat → Nat} {k : Nat} {sv rv : Nat → Int32} {lv : Nat → Int64} (hk : 100 ≤ k) : zBb Y av pv k sv rv lv = if k % 4 = 0 then .inr (pv ((k - 100) / 4) - 1, [.int (sv 0), .int (sv 1), .ref (av 56), .ref (av (k + 1)), .ref (av (k + 2)), .ref (av (k + 3)), .int (sv 6), .int (sv 7), .int (sv 8)]) else if k % 4 = 1 then .inl (Y 0, 48, .inl rv) else .inl (Y 0, 6, .inl rv) := by
  unfold zBb
  rw [if_neg (by omega), if_neg (by omega), if_neg (by omega), if_neg (by omega), if_neg (by omega), if_neg (by omega), if_neg (by omega), if_neg (by omega), if_neg (by omega), if_neg (by omega), if_neg (by omega), if_neg (by omega), if_neg (by omega), if_neg (by omega)]
theorem zE_gap {G : zG} {k : Nat} (h : zE G k = true) : k ≠ 58 ∧ k ≠ 69 ∧ (k < 72 ∨ 100 ≤ k) := by
  simp only [zE, Bool.or_eq_true, Bool.and_eq_true, decide_eq_true_eq] at h
  omega
/-- the world's own cell, moved over to the new places' map -/
theorem z_place_old {D : va_G} {Y : Nat → ClassId} {F : Nat → Nat} {G : zG} {S : zSt} {H : Heap} {i j c a b1 b2 b3 k : Nat} {x y : Int32} (hk : zE G k = true) (hn : ¬ (100 + 4 * (6 * i + j) ≤ k ∧ k < 100 + 4 * (6 * i + j) + 4)) (hne : k ≠ 60 + 3 * i + 1) (hj : j < 6) (h : va_at D vwCl (zad F G k, zB Y F G S k) H) : va_at D vwCl (zad F (zNewG G (6 * i + j) c a b1 b2 b3) k, zB Y F (zNewG G (6 * i + j) c a b1 b2 b3) (zNewS S (6 * i + j) x y) k) H := by
  obtain ⟨g1, g2, g3⟩ := zE_gap hk
  rw [zNewG_ad hn]
  unfold zB at h ⊢
  rw [zNewS_sc (by omega), zNewS_ar (by omega)]
  rcases g3 with g3 | g3
  · refine zBb_fix (by omega) (fun n hn2 => (zNewG_ad (by omega)).symm) (fun h60 h69 h3 j' hj' => ?_) g3 g1 g2 h
    have e : 2 * (k - 61) + j' ≠ 6 * i + j := by omega
    rw [zNewG_pk e, zNewG_ad (by omega)]
  · rw [zBb_hi g3] at h ⊢
    by_cases h0 : k % 4 = 0
    · rw [if_pos h0] at h ⊢
      rw [zNewG_pk (by omega), zNewG_ad (k := 56) (by omega), zNewG_ad (k := k + 1) (by omega), zNewG_ad (k := k + 2) (by omega), zNewG_ad (k := k + 3) (by omega)]
      exact h
    · rw [if_neg h0] at h ⊢
      exact h
/-- a new person's four cells -/
def zN4 (Y : Nat → ClassId) (F : Nat → Nat) (ci : Nat) (x y : Int32) (a b1 b2 b3 : Nat) : va_W := [(a, .inr (ci, [.int x, .int y, .ref (F 56), .ref b1, .ref b2, .ref b3, .int 0, .int 1, .int 0])), (b1, .inl (Y 0, 48, .inl (fun _ => 0))), (b2, .inl (Y 0, 6, .inl (fun _ => 0))), (b3, .inl (Y 0, 6, .inl (fun _ => 0)))]
/-- the places' array with a new address at j -/
def zPV (Y : Nat → ClassId) (F : Nat → Nat) (G : zG) (i j a : Nat) : Nat × va_E := (zad F G (60 + 3 * i + 1), .inl (Y 2, 6, .inr (.inr (.inr (.inr (va_up (fun j => (zwho (zpk G) (6 * i + j)).map (zpa F G)) j (some a)))))))
theorem z_place {D : va_G} {Y : Nat → ClassId} {F : Nat → Nat} {A : Nat → Prop} {G : zG} {S : zSt} {H : Heap} {i j ci a b1 b2 b3 q0 : Nat} {x y : Int32} (hi : i < 3) (hj : j < 6) (hq0 : (zIds G)[q0]? = some (60 + 3 * i + 1))
    (hP : va_P D vwCl ((zW Y F G S ++ zN4 Y F ci x y a b1 b2 b3).set q0 (zPV Y F G i j a)) H)
    (hD : va_D A ((zW Y F G S ++ zN4 Y F ci x y a b1 b2 b3).set q0 (zPV Y F G i j a))) :
    zH D Y F A (zNewG G (6 * i + j) (ci + 1) a b1 b2 b3) (zNewS S (6 * i + j) x y) H := by
  have hL : (zW Y F G S).length = (zIds G).length := by unfold zW; rw [List.length_map]
  have hq1 : q0 < (zW Y F G S).length := by rw [hL]; exact (List.getElem?_eq_some_iff.mp hq0).1
  generalize hX : zN4 Y F ci x y a b1 b2 b3 = X at hP hD
  generalize hV : zPV Y F G i j a = V at hP hD
  have hnew : ∀ (n : Nat) (p : Nat × va_E), X[n]? = some p → ((zW Y F G S ++ X).set q0 V)[(zW Y F G S).length + n]? = some p := by
    intro n p hp
    rw [List.getElem?_set, if_neg (by omega)]
    exact x_at hp
  have hold : ∀ (n : Nat) (p : Nat × va_E), n ≠ q0 → (zW Y F G S)[n]? = some p → ((zW Y F G S ++ X).set q0 V)[n]? = some p := by
    intro n p hn hp
    rw [List.getElem?_set, if_neg (fun e => hn e.symm), List.getElem?_append_left (List.getElem?_eq_some_iff.mp hp).1]
    exact hp
  have hthe : ((zW Y F G S ++ X).set q0 V)[q0]? = some V := by
    rw [List.getElem?_set, if_pos rfl, if_pos (by rw [List.length_append]; omega)]
  have key : ∀ k, zE (zNewG G (6 * i + j) (ci + 1) a b1 b2 b3) k = true → ∃ (n : Nat) (p : Nat × va_E), ((zW Y F G S ++ X).set q0 V)[n]? = some p ∧ p.1 = zad F (zNewG G (6 * i + j) (ci + 1) a b1 b2 b3) k ∧ va_at D vwCl (zad F (zNewG G (6 * i + j) (ci + 1) a b1 b2 b3) k, zB Y F (zNewG G (6 * i + j) (ci + 1) a b1 b2 b3) (zNewS S (6 * i + j) x y) k) H ∧ ((n < (zW Y F G S).length ∧ (zIds G)[n]? = some k) ∨ (n = (zW Y F G S).length + (k - (100 + 4 * (6 * i + j))) ∧ 100 + 4 * (6 * i + j) ≤ k)) := by
    intro k hk
    rcases zNewG_E (by omega) hk with ⟨h1, h2⟩ | h1
    · by_cases hne : k = 60 + 3 * i + 1
      · subst hne
        refine ⟨q0, V, hthe, ?_, ?_, Or.inl ⟨hq1, hq0⟩⟩
        · subst hV; exact (zNewG_ad (by omega)).symm
        · have h3 := hP q0 V hthe
          subst hV
          rw [zNewG_ad (by omega), zld_BP hi]
          refine va_at_refs (fun j' hj' => ?_) h3
          by_cases e : j' = j
          · subst e
            rw [va_up_self]
            unfold zwho
            rw [zNewG_pq, if_neg (by omega)]
            exact congrArg some zNewG_a0.symm
          · rw [va_up_ne _ _ e]
            unfold zwho
            rw [zNewG_pk (by omega)]
            split
            · rfl
            · exact congrArg some (zNewG_ad (by omega)).symm
      · obtain ⟨n, hn, hn2⟩ := zAt (Y := Y) (F := F) (S := S) h1
        have hnq : n ≠ q0 := fun e => by subst e; rw [hn2] at hq0; exact hne (Option.some.inj hq0)
        refine ⟨n, _, hold n _ hnq hn, (zNewG_ad h2).symm, z_place_old h1 h2 hne hj (hP n _ (hold n _ hnq hn)), Or.inl ⟨(List.getElem?_eq_some_iff.mp hn).1, hn2⟩⟩
    · have hz : 100 ≤ k := by omega
      subst hX
      rcases h1 with h1 | h1 | h1 | h1
      · have h3 := hP _ _ (hnew 0 _ rfl)
        refine ⟨_, _, hnew 0 _ rfl, ?_, ?_, Or.inr ⟨by omega, by omega⟩⟩
        · rw [h1]; exact zNewG_a0.symm
        · have e : zB Y F (zNewG G (6 * i + j) (ci + 1) a b1 b2 b3) (zNewS S (6 * i + j) x y) k = .inr (ci, [.int x, .int y, .ref (F 56), .ref b1, .ref b2, .ref b3, .int 0, .int 1, .int 0]) := by
            unfold zB
            rw [zBb_hi hz, if_pos (by omega), h1, show (100 + 4 * (6 * i + j) - 100) / 4 = 6 * i + j by omega, zNewG_pq, zNewG_a1, zNewG_a2, zNewG_a3]
            have hs : zsc (zNewS S (6 * i + j) x y) (100 + 4 * (6 * i + j)) = fun f => if f = 0 then x else if f = 1 then y else if f = 7 then 1 else 0 := if_pos rfl
            rw [hs]
            rfl
          rw [e, h1, zNewG_a0]
          exact h3
      · have h3 := hP _ _ (hnew 1 _ rfl)
        refine ⟨_, _, hnew 1 _ rfl, ?_, ?_, Or.inr ⟨by omega, by omega⟩⟩
        · rw [h1]; exact zNewG_a1.symm
        · have e : zB Y F (zNewG G (6 * i + j) (ci + 1) a b1 b2 b3) (zNewS S (6 * i + j) x y) k = .inl (Y 0, 48, .inl (fun _ => 0)) := by
            unfold zB
            rw [zBb_hi hz, if_neg (by omega), if_pos (by omega), zNewS_ar0 (by omega)]
          rw [e, h1, zNewG_a1]
          exact h3
      · have h3 := hP _ _ (hnew 2 _ rfl)
        refine ⟨_, _, hnew 2 _ rfl, ?_, ?_, Or.inr ⟨by omega, by omega⟩⟩
        · rw [h1]; exact zNewG_a2.symm
        · have e : zB Y F (zNewG G (6 * i + j) (ci + 1) a b1 b2 b3) (zNewS S (6 * i + j) x y) k = .inl (Y 0, 6, .inl (fun _ => 0)) := by
            unfold zB
            rw [zBb_hi hz, if_neg (by omega), if_neg (by omega), zNewS_ar0 (by omega)]
          rw [e, h1, zNewG_a2]
          exact h3
      · have h3 := hP _ _ (hnew 3 _ rfl)
        refine ⟨_, _, hnew 3 _ rfl, ?_, ?_, Or.inr ⟨by omega, by omega⟩⟩
        · rw [h1]; exact zNewG_a3.symm
        · have e : zB Y F (zNewG G (6 * i + j) (ci + 1) a b1 b2 b3) (zNewS S (6 * i + j) x y) k = .inl (Y 0, 6, .inl (fun _ => 0)) := by
            unfold zB
            rw [zBb_hi hz, if_neg (by omega), if_neg (by omega), zNewS_ar0 (by omega)]
          rw [e, h1, zNewG_a3]
          exact h3
  refine zH_intro (fun k hk => ?_) (fun k hk => ?_) (fun k k' hk hk' e => ?_)
  · obtain ⟨n, p, -, -, h, -⟩ := key k hk
    exact h
  · obtain ⟨n, p, h1, h2, -, -⟩ := key k hk
    rw [← h2]
    exact hD.2 n p h1
  · obtain ⟨n, p, h1, h2, -, h4⟩ := key k hk
    obtain ⟨n', p', h1', h2', -, h4'⟩ := key k' hk'
    have en : n = n' := hD.1 n n' p p' h1 h1' (by rw [h2, h2', e])
    subst en
    rcases h4 with ⟨a1, a2⟩ | ⟨a1, a2⟩ <;> rcases h4' with ⟨c1, c2⟩ | ⟨c1, c2⟩
    · rw [a2] at c2; exact Option.some.inj c2
    · omega
    · omega
    · omega
/-! CALLS THAT MAY MAKE PERSONS: the places' map grows -/
def zQqG (D : va_G) (Y : Nat → ClassId) (F : Nat → Nat) (A : Nat → Prop) (G : zG) (i : Nat) (res : Option Nat × (Nat → Nat) × zSt) : Array Value → State → Outcome → State → Prop := va_Qq (fun r (G' : zG) => zpk G' = res.2.1 ∧ r = res.1.map (zpa F G') ∧ ∀ q, q / 6 ≠ i → G'.2 (100 + 4 * q) = G.2 (100 + 4 * q)) (fun G' t => zU D Y F A G' res.2.2 t) A
def zQiG (D : va_G) (Y : Nat → ClassId) (F : Nat → Nat) (A : Nat → Prop) (res : Int32 × (Nat → Nat) × zSt) : Array Value → State → Outcome → State → Prop := va_Qi (fun r (G' : zG) => zpk G' = res.2.1 ∧ r = res.1) (fun G' t => zU D Y F A G' res.2.2 t) A
def zQvG (D : va_G) (Y : Nat → ClassId) (F : Nat → Nat) (A : Nat → Prop) (res : (Nat → Nat) × zSt) : Array Value → State → Outcome → State → Prop := va_Qv (fun (G' : zG) => zpk G' = res.1) (fun G' t => zU D Y F A G' res.2 t) A
theorem zle {a b c : Nat} (h : a + b ≤ c) : a ≤ c := Nat.le_trans (Nat.le_add_right _ _) h
theorem zad_lo {F : Nat → Nat} {G G' : zG} {k : Nat} (h : k < 100) : zad F G k = zad F G' k := by
  unfold zad
  rw [if_pos h, if_pos h]
theorem zad_hi {F : Nat → Nat} {G G' : zG} {q : Nat} (h : G'.2 (100 + 4 * q) = G.2 (100 + 4 * q)) : zad F G (100 + 4 * q) = zad F G' (100 + 4 * q) := by
  unfold zad
  rw [if_neg (by omega), if_neg (by omega), h]
section ZGR
variable {p : Program} {l : Launch} {e : Env} {R : Room} {s : State} {m : MethodId} {args : Array Value} {below : List Frame} {meth : Method} {c : Code} {H : Heap} {locs : List Loc} {cells slots : Nat} {Q : State → Prop}
variable {cc : ByteArray} {nL : Nat} {ret : Option FieldType} {own : String} {ws : List Cond} {pc : Nat} {ls : Array Slot} {rest : List Value} {D : va_G} {Y : Nat → ClassId} {F : Nat → Nat} {A : Nat → Prop} {G : zG} {S : zSt} {mc ms : Nat}
theorem z_goiG (C0 : zCx p s m args meth c D Y F A own cc nL ret ws) (hw : zH D Y F A G S H) (hS : va_S A s.heap H locs) {res : Int32 × (Nat → Nat) × zSt} {st : List Value} {arr : Array Value} (hr : va_Run p l e R s m args below meth c H locs cells slots mc ms (F0 m pc ls st) rest (zQiG D Y F (zAo F G H.size) res arr) (zAo F G H.size))
    (kk : ∀ (G1 : zG) (H1 : Heap) (locs1 : List Loc), zpk G1 = res.2.1 → zH D Y F A G1 res.2.2 H1 → va_S A s.heap H1 locs1 → W p l e R s m args below meth c H1 locs1 (cells + mc) (slots + ms) Q (F0 m (pc + 3) ls (.int res.1 :: rest))) : W p l e R s m args below meth c H locs cells slots Q (F0 m pc ls st) := by
  obtain ⟨hx, hb, hml, hrt, hown, hts, hK, hA, hlk, hN⟩ := C0
  have hsub := zAo_sub hw hS hA
  refine va_calli hr hS (fun q _ h => hsub q h) hsub (fun r u t H1 locs1 ht hvm hp hU _ _ hS1 => ?_)
  obtain ⟨h1, rfl⟩ := hp
  subst ht
  exact kk u _ locs1 h1 (hU.1.weaken hsub) hS1
theorem z_govG (C0 : zCx p s m args meth c D Y F A own cc nL ret ws) (hw : zH D Y F A G S H) (hS : va_S A s.heap H locs) {res : (Nat → Nat) × zSt} {st : List Value} {arr : Array Value} (hr : va_Run p l e R s m args below meth c H locs cells slots mc ms (F0 m pc ls st) rest (zQvG D Y F (zAo F G H.size) res arr) (zAo F G H.size))
    (kk : ∀ (G1 : zG) (H1 : Heap) (locs1 : List Loc), zpk G1 = res.1 → zH D Y F A G1 res.2 H1 → va_S A s.heap H1 locs1 → W p l e R s m args below meth c H1 locs1 (cells + mc) (slots + ms) Q (F0 m (pc + 3) ls rest)) : W p l e R s m args below meth c H locs cells slots Q (F0 m pc ls st) := by
  obtain ⟨hx, hb, hml, hrt, hown, hts, hK, hA, hlk, hN⟩ := C0
  have hsub := zAo_sub hw hS hA
  refine va_callv hr hS (fun q _ h => hsub q h) hsub (fun u t H1 locs1 ht hvm hp hU _ _ hS1 => ?_)
  subst ht
  exact kk u _ locs1 hp (hU.1.weaken hsub) hS1
theorem z_goqG {i : Nat} (C0 : zCx p s m args meth c D Y F A own cc nL ret ws) (hw : zH D Y F A G S H) (hS : va_S A s.heap H locs) {res : Option Nat × (Nat → Nat) × zSt} {st : List Value} {arr : Array Value} (hr : va_Run p l e R s m args below meth c H locs cells slots mc ms (F0 m pc ls st) rest (zQqG D Y F (zAo F G H.size) G i res arr) (zAo F G H.size))
    (kk : ∀ (G1 : zG) (H1 : Heap) (locs1 : List Loc), zpk G1 = res.2.1 → (∀ q, q / 6 ≠ i → G1.2 (100 + 4 * q) = G.2 (100 + 4 * q)) → zH D Y F A G1 res.2.2 H1 → va_S A s.heap H1 locs1 → W p l e R s m args below meth c H1 locs1 (cells + mc) (slots + ms) Q (F0 m (pc + 3) ls (va_rf (res.1.map (zpa F G1)) :: rest))) : W p l e R s m args below meth c H locs cells slots Q (F0 m pc ls st) := by
  obtain ⟨hx, hb, hml, hrt, hown, hts, hK, hA, hlk, hN⟩ := C0
  have hsub := zAo_sub hw hS hA
  refine va_callq hr hS (fun q _ h => hsub q h) hsub (fun r u t H1 locs1 ht hvm hp hU _ _ hS1 => ?_)
  obtain ⟨h1, rfl, h3⟩ := hp
  subst ht
  exact kk u _ locs1 h1 h3 (hU.1.weaken hsub) hS1
theorem z_retiG (C0 : zCx p s m args meth c D Y F A own cc nL (some .int) ws) (hw : zH D Y F A G S H) (hS : va_S A s.heap H locs) {v : Int32} {res : Int32 × (Nat → Nat) × zSt} (hc : cells ≤ mc) (hs : slots ≤ ms) (hres : (v, zpk G, S) = res) (hdg : decode cc pc = .ok (.ireturn, 1)) : W p l e R s m args below meth c H locs cells slots (MQ below (zQiG D Y F A res) args s mc ms A) (F0 m pc ls [.int v]) := by
  obtain ⟨hx, hb, hml, hr, hown, hts, hK, hA, hlk, hN⟩ := C0
  subst hres
  exact W.widen hc hs (W.iret hx hb hr (fun t ht hW => ⟨⟨v, G, rfl, ⟨rfl, rfl⟩, by show zU D Y F A G S t; unfold zU; rw [ht]; exact ⟨hw, va_K.moved hW.alike hK⟩⟩, hS.F ht⟩) hS.2.2 hdg (hlocks := hlk))
theorem z_retvG (C0 : zCx p s m args meth c D Y F A own cc nL none ws) (hw : zH D Y F A G S H) (hS : va_S A s.heap H locs) {res : (Nat → Nat) × zSt} (hc : cells ≤ mc) (hs : slots ≤ ms) (hres : (zpk G, S) = res) (hdg : decode cc pc = .ok (.return_, 1)) : W p l e R s m args below meth c H locs cells slots (MQ below (zQvG D Y F A res) args s mc ms A) (F0 m pc ls []) := by
  obtain ⟨hx, hb, hml, hr, hown, hts, hK, hA, hlk, hN⟩ := C0
  subst hres
  exact W.widen hc hs (W.vret hx hb hr (fun t ht hW => ⟨⟨G, rfl, rfl, by show zU D Y F A G S t; unfold zU; rw [ht]; exact ⟨hw, va_K.moved hW.alike hK⟩⟩, hS.F ht⟩) hS.2.2 hdg (hlocks := hlk))
theorem z_retqG {i : Nat} {G0 : zG} {rtn : String} (C0 : zCx p s m args meth c D Y F A own cc nL (some (.object rtn)) ws) (hw : zH D Y F A G S H) (hS : va_S A s.heap H locs) (r0 : Option Nat) {v : Value} (hv : v = va_rf (r0.map (zpa F G))) {res : Option Nat × (Nat → Nat) × zSt} (hc : cells ≤ mc) (hs : slots ≤ ms) (hG : ∀ q, q / 6 ≠ i → G.2 (100 + 4 * q) = G0.2 (100 + 4 * q)) (hres : (r0, zpk G, S) = res) (hdg : decode cc pc = .ok (.areturn, 1)) : W p l e R s m args below meth c H locs cells slots (MQ below (zQqG D Y F A G0 i res) args s mc ms A) (F0 m pc ls [v]) := by
  obtain ⟨hx, hb, hml, hr, hown, hts, hK, hA, hlk, hN⟩ := C0
  subst hres
  exact W.widen hc hs (W.aret hx hb hr (Or.inl ⟨_, rfl⟩) (by rw [hv]; exact va_rf_or _) (fun t ht hW => ⟨⟨_, G, by rw [hv], ⟨rfl, rfl, hG⟩, by show zU D Y F A G S t; unfold zU; rw [ht]; exact ⟨hw, va_K.moved hW.alike hK⟩⟩, hS.F ht⟩) hS.2.2 hdg (hlocks := hlk))
end ZGR
