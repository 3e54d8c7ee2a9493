set_option maxRecDepth 20000 in
theorem inP_X0_lossAt : ∀ w ∈ wsPers, w ∈ wsX0_lossAt := by decide +kernel
set_option maxRecDepth 20000 in
theorem inP_X1_driftOver : ∀ w ∈ wsPers, w ∈ wsX1_driftOver := by decide +kernel
set_option maxRecDepth 20000 in
theorem inP_X1_lossAt : ∀ w ∈ wsPers, w ∈ wsX1_lossAt := by decide +kernel
set_option maxRecDepth 20000 in
theorem inP_X5_allBits : ∀ w ∈ wsPers, w ∈ wsX5_allBits := by decide +kernel
set_option maxRecDepth 20000 in
theorem inP_X5_bearing : ∀ w ∈ wsPers, w ∈ wsX5_bearing := by decide +kernel
set_option maxRecDepth 20000 in
theorem inP_X5_gotBy : ∀ w ∈ wsPers, w ∈ wsX5_gotBy := by decide +kernel
set_option maxRecDepth 20000 in
theorem inP_X5_haveBits : ∀ w ∈ wsPers, w ∈ wsX5_haveBits := by decide +kernel
set_option maxRecDepth 20000 in
theorem inP_X5_pressWith : ∀ w ∈ wsPers, w ∈ wsX5_pressWith := by decide +kernel
set_option maxRecDepth 20000 in
theorem inP_X5_rubOn : ∀ w ∈ wsPers, w ∈ wsX5_rubOn := by decide +kernel
set_option maxRecDepth 20000 in
theorem inP_X5_rubsToMend : ∀ w ∈ wsPers, w ∈ wsX5_rubsToMend := by decide +kernel
set_option maxRecDepth 20000 in
theorem inP_X5_smearSum : ∀ w ∈ wsPers, w ∈ wsX5_smearSum := by decide +kernel
set_option maxRecDepth 20000 in
theorem inP_X5_strengthSum : ∀ w ∈ wsPers, w ∈ wsX5_strengthSum := by decide +kernel
def M_X5_hasBits_B5 (pk : Nat → Nat) (S : zSt) (q0 : Nat) : Nat → Int32 → Int32 → Int32 → Int32 → Option (Int32)
  | 0, _, _, _, _ => none
  | n + 1, x1, x2, x3, x4 =>
  (if 8 ≤ x4 then some x3 else Option.bind (M_X5_strengthOf pk S q0 x1 x4) (fun w2 => (if w2 < x2 then M_X5_hasBits_B5 pk S q0 n x1 x2 x3 ((x4 + 1)) else Option.bind (some ((x3 ||| ((1 : Int32) <<< (x4 &&& 31))))) (fun v4 => M_X5_hasBits_B5 pk S q0 n x1 x2 v4 ((x4 + 1))))))
set_option maxHeartbeats 4000000 in
set_option maxRecDepth 100000 in
theorem t_X5_hasBits_B5 {p : Program} {l : Launch} {e : Env} {s : State} {m : MethodId} {args : Array Value} {below : List Frame} {meth : Method} {c : Code} {D : va_G} {Y : Nat → ClassId} {F : Nat → Nat} {A : Nat → Prop} {G : zG} (C0 : zCx p s m args meth c D Y F A RX5 cX5_hasBits 5 (some .int) wsX5_hasBits) (S : zSt) (q0 : Nat) (hq0 : zOKb (zpk G) q0 = true) (res : Int32) : ∀ (n : Nat), ∀ (x1 : Int32) (x2 : Int32) (x3 : Int32) (x4 : Int32), M_X5_hasBits_B5 (zpk G) S q0 n x1 x2 x3 x4 = some res → ∀ (H : Heap) (locs : List Loc) (ls : Array Slot), zH D Y F A G S H → va_S A s.heap H locs → lv_has ls 5 [(0, .ref (zad F G (100 + 4 * q0))), (1, .int x1), (2, .int x2), (3, .int x3), (4, .int x4)] → W p l e (zRm 2 42) s m args below meth c H locs 0 0 (MQ below (zQi D Y F A G (res, S)) args s 0 0 A) (F0 m 5 ls []) := by
  obtain ⟨hx, hb, hml, hr, hown, hts, hK, hA, hlk, hN⟩ := id C0
  intro n
  induction n with
  | zero =>
    intro x1 x2 x3 x4 h
    unfold M_X5_hasBits_B5 at h
    cases h
  | succ n ih =>
    intro x1 x2 x3 x4 h H locs ls hw hS hl
    rw [M_X5_hasBits_B5] at h
    refine lv_iload hx hb dX5_hasBits_5 (lv_at hl 4 rfl) ?_
    refine lv_bipush (v := 8) hx hb dX5_hasBits_7 (by decide) ?_
    refine lv_icmp_ge (tgt := 36) hx hb dX5_hasBits_9 (by decide) (fun c1 => ?_) (fun c1 => ?_)
    · replace h := z_ifp c1 h
      refine lv_iload_n hx hb dX5_hasBits_36 rfl (lv_at hl 3 rfl) ?_
      exact z_reti C0 hw hS (congrArg (fun z => (z, S)) (Option.some.inj h)) dX5_hasBits_37
    · replace h := z_ifn c1 h
      refine lv_aload_n hx hb dX5_hasBits_12 rfl (lv_at hl 0 rfl) ?_
      refine lv_iload_n hx hb dX5_hasBits_13 rfl (lv_at hl 1 rfl) ?_
      refine lv_iload hx hb dX5_hasBits_14 (lv_at hl 4 rfl) ?_
      obtain ⟨w2, ew2, h⟩ := z_bd h
      refine z_goi C0 hw hS (res := (w2, S)) (rest := []) (arr := (Value.ref (zad F G (100 + 4 * q0)) :: [.int x1, .int x4]).toArray) ?_ (fun H locs hw hS => ?_)
      · rcases zOK_cases hq0 with zz | zz | zz | zz | zz | zz | zz
        · exact va_runU (z_fix C0) (c_X5_strengthOf l D Y F G S _ q0 hq0 x1 x4 w2 ew2) (va_cwU 2 hts gX5_hasBits_X5_strengthOf_u73X0 rfl rfl rfl rfl (by decide +kernel) ⟨Nat.le_of_ble_eq_true rfl, Nat.le_of_ble_eq_true rfl⟩) ⟨zPc_blind, z_prec C0 hw hq0 (ci := 0) zz rfl, z_give C0 hw hS _⟩ rfl rfl hl.1 rfl (lv_room (Nat.le_of_ble_eq_true rfl)) dX5_hasBits_16 ⟨Nat.zero_le _, Nat.zero_le _⟩
        · exact va_runU (z_fix C0) (c_X5_strengthOf l D Y F G S _ q0 hq0 x1 x4 w2 ew2) (va_cwU 2 hts gX5_hasBits_X5_strengthOf_u73X1 rfl rfl rfl rfl (by decide +kernel) ⟨Nat.le_of_ble_eq_true rfl, Nat.le_of_ble_eq_true rfl⟩) ⟨zPc_blind, z_prec C0 hw hq0 (ci := 1) zz rfl, z_give C0 hw hS _⟩ rfl rfl hl.1 rfl (lv_room (Nat.le_of_ble_eq_true rfl)) dX5_hasBits_16 ⟨Nat.zero_le _, Nat.zero_le _⟩
        · exact va_runU (z_fix C0) (c_X5_strengthOf l D Y F G S _ q0 hq0 x1 x4 w2 ew2) (va_cwU 2 hts gX5_hasBits_X5_strengthOf_u73X2 rfl rfl rfl rfl (by decide +kernel) ⟨Nat.le_of_ble_eq_true rfl, Nat.le_of_ble_eq_true rfl⟩) ⟨zPc_blind, z_prec C0 hw hq0 (ci := 2) zz rfl, z_give C0 hw hS _⟩ rfl rfl hl.1 rfl (lv_room (Nat.le_of_ble_eq_true rfl)) dX5_hasBits_16 ⟨Nat.zero_le _, Nat.zero_le _⟩
        · exact va_runU (z_fix C0) (c_X5_strengthOf l D Y F G S _ q0 hq0 x1 x4 w2 ew2) (va_cwU 2 hts gX5_hasBits_X5_strengthOf_u73X3 rfl rfl rfl rfl (by decide +kernel) ⟨Nat.le_of_ble_eq_true rfl, Nat.le_of_ble_eq_true rfl⟩) ⟨zPc_blind, z_prec C0 hw hq0 (ci := 3) zz rfl, z_give C0 hw hS _⟩ rfl rfl hl.1 rfl (lv_room (Nat.le_of_ble_eq_true rfl)) dX5_hasBits_16 ⟨Nat.zero_le _, Nat.zero_le _⟩
        · exact va_runV (z_fix C0) (c_X5_strengthOf l D Y F G S _ q0 hq0 x1 x4 w2 ew2) (cwV 2 hts gX5_hasBits_X5_strengthOf rfl rfl rfl (by decide +kernel) ⟨Nat.le_of_ble_eq_true rfl, Nat.le_of_ble_eq_true rfl⟩) ⟨zPc_blind, z_prec C0 hw hq0 (ci := 5) zz rfl, z_give C0 hw hS _⟩ rfl rfl hl.1 rfl (lv_room (Nat.le_of_ble_eq_true rfl)) dX5_hasBits_16 ⟨Nat.zero_le _, Nat.zero_le _⟩
        · exact va_runU (z_fix C0) (c_X5_strengthOf l D Y F G S _ q0 hq0 x1 x4 w2 ew2) (va_cwU 2 hts gX5_hasBits_X5_strengthOf_u73X8 rfl rfl rfl rfl (by decide +kernel) ⟨Nat.le_of_ble_eq_true rfl, Nat.le_of_ble_eq_true rfl⟩) ⟨zPc_blind, z_prec C0 hw hq0 (ci := 8) zz rfl, z_give C0 hw hS _⟩ rfl rfl hl.1 rfl (lv_room (Nat.le_of_ble_eq_true rfl)) dX5_hasBits_16 ⟨Nat.zero_le _, Nat.zero_le _⟩
        · exact va_runU (z_fix C0) (c_X5_strengthOf l D Y F G S _ q0 hq0 x1 x4 w2 ew2) (va_cwU 2 hts gX5_hasBits_X5_strengthOf_u73X10 rfl rfl rfl rfl (by decide +kernel) ⟨Nat.le_of_ble_eq_true rfl, Nat.le_of_ble_eq_true rfl⟩) ⟨zPc_blind, z_prec C0 hw hq0 (ci := 10) zz rfl, z_give C0 hw hS _⟩ rfl rfl hl.1 rfl (lv_room (Nat.le_of_ble_eq_true rfl)) dX5_hasBits_16 ⟨Nat.zero_le _, Nat.zero_le _⟩
      refine lv_iload_n hx hb dX5_hasBits_19 rfl (lv_at hl 2 rfl) ?_
      refine lv_icmp_lt (tgt := 30) hx hb dX5_hasBits_20 (by decide) (fun c3 => ?_) (fun c3 => ?_)
      · replace h := z_ifp c3 h
        refine lv_iinc (v := (x4 + 1)) (lv' := [(4, .int ((x4 + 1))), (0, .ref (zad F G (100 + 4 * q0))), (1, .int x1), (2, .int x2), (3, .int x3)]) hx hb dX5_hasBits_30 hl (k := 4) rfl rfl (by decide) rfl (fun ls hl => ?_)
        refine lv_goto (tgt := 5) hx hb dX5_hasBits_33 (by decide) ?_
        exact ih x1 x2 x3 ((x4 + 1)) h _ _ _ hw hS (lv_sub hl [1, 2, 3, 4, 0] rfl)
      · replace h := z_ifn c3 h
        refine lv_iload_n hx hb dX5_hasBits_23 rfl (lv_at hl 3 rfl) ?_
        refine lv_iconst (v := 1) hx hb dX5_hasBits_24 (by decide) ?_
        refine lv_iload hx hb dX5_hasBits_25 (lv_at hl 4 rfl) ?_
        refine lv_ishl hx hb dX5_hasBits_27 ?_
        refine lv_ior hx hb dX5_hasBits_28 ?_
        obtain ⟨v4, ev4, h⟩ := z_bd h
        refine z_top (Option.some.inj ev4) ?_
        refine lv_istore_n (lv' := [(3, .int v4), (0, .ref (zad F G (100 + 4 * q0))), (1, .int x1), (2, .int x2), (4, .int x4)]) hx hb dX5_hasBits_29 rfl hl (by decide) rfl (fun ls hl => ?_)
        refine lv_iinc (v := (x4 + 1)) (lv' := [(4, .int ((x4 + 1))), (3, .int v4), (0, .ref (zad F G (100 + 4 * q0))), (1, .int x1), (2, .int x2)]) hx hb dX5_hasBits_30 hl (k := 4) rfl rfl (by decide) rfl (fun ls hl => ?_)
        refine lv_goto (tgt := 5) hx hb dX5_hasBits_33 (by decide) ?_
        exact ih x1 x2 v4 ((x4 + 1)) h _ _ _ hw hS (lv_sub hl [2, 3, 4, 1, 0] rfl)
def M_X5_hasBits (pk : Nat → Nat) (S : zSt) (q0 : Nat) (x1 : Int32) (x2 : Int32) : Option (Int32) :=
  M_X5_hasBits_B5 pk S q0 zF x1 x2 0 0
set_option maxHeartbeats 4000000 in
set_option maxRecDepth 100000 in
theorem c_X5_hasBits (l : Launch) (D : va_G) (Y : Nat → ClassId) (F : Nat → Nat) (G : zG) (S : zSt) (sz : Nat) (q0 : Nat) (hq0 : zOKb (zpk G) q0 = true) (x1 : Int32) (x2 : Int32) (res : Int32) (h : M_X5_hasBits (zpk G) S q0 x1 x2 = some res) : Met l yX5_hasBits wsX5_hasBits (zRm 2 42) (zPc D Y F G S sz [.ref (zad F G (100 + 4 * q0)), .int x1, .int x2]) (zQi D Y F (zAo F G sz) G (res, S)) 0 0 (zAo F G sz) := by
  unfold M_X5_hasBits at h
  refine zMet (cc := cX5_hasBits) (maxL := 5) (ret := (some .int)) (own := RX5) (by decide +kernel) rfl rfl (Nat.le_of_ble_eq_true rfl) ?_
  intro p e s m args below meth c C0 hin hw hS ls hl
  have hl : lv_has ls 5 [(0, .ref (zad F G (100 + 4 * q0))), (1, .int x1), (2, .int x2)] := hl
  generalize zAo F G sz = A at C0 hw hS ⊢
  obtain ⟨hx, hb, hml, hr, hown, hts, hK, hA, hlk, hN⟩ := id C0
  refine lv_iconst (v := 0) hx hb dX5_hasBits_0 (by decide) ?_
  refine lv_istore_n (lv' := [(3, .int 0), (0, .ref (zad F G (100 + 4 * q0))), (1, .int x1), (2, .int x2)]) hx hb dX5_hasBits_1 rfl hl (by decide) rfl (fun ls hl => ?_)
  refine lv_iconst (v := 0) hx hb dX5_hasBits_2 (by decide) ?_
  refine lv_istore (lv' := [(4, .int 0), (3, .int 0), (0, .ref (zad F G (100 + 4 * q0))), (1, .int x1), (2, .int x2)]) hx hb dX5_hasBits_3 hl (by decide) rfl (fun ls hl => ?_)
  exact t_X5_hasBits_B5 C0 S q0 hq0 res zF x1 x2 0 0 h _ _ _ hw hS (lv_sub hl [2, 3, 4, 1, 0] rfl)
def M_X5_haveBits_B8 (pk : Nat → Nat) (S : zSt) (q0 : Nat) : Nat → Int32 → Int32 → Int32 → Int32 → Option (Int32)
  | 0, _, _, _, _ => none
  | n + 1, x1, x2, x3, x4 =>
  (if 6 ≤ x4 then some x3 else Option.bind (M_X5_strengthOf pk S q0 x4 x1) (fun w2 => (if w2 < x2 then M_X5_haveBits_B8 pk S q0 n x1 x2 x3 ((x4 + 1)) else Option.bind (some ((x3 ||| ((1 : Int32) <<< (x4 &&& 31))))) (fun v4 => M_X5_haveBits_B8 pk S q0 n x1 x2 v4 ((x4 + 1))))))
set_option maxHeartbeats 4000000 in
set_option maxRecDepth 100000 in
theorem t_X5_haveBits_B8 {p : Program} {l : Launch} {e : Env} {s : State} {m : MethodId} {args : Array Value} {below : List Frame} {meth : Method} {c : Code} {D : va_G} {Y : Nat → ClassId} {F : Nat → Nat} {A : Nat → Prop} {G : zG} (C0 : zCx p s m args meth c D Y F A RX5 cX5_haveBits 5 (some .int) wsX5_haveBits) (S : zSt) (q0 : Nat) (hq0 : zOKb (zpk G) q0 = true) (res : Int32) : ∀ (n : Nat), ∀ (x1 : Int32) (x2 : Int32) (x3 : Int32) (x4 : Int32), M_X5_haveBits_B8 (zpk G) S q0 n x1 x2 x3 x4 = some res → ∀ (H : Heap) (locs : List Loc) (ls : Array Slot), zH D Y F A G S H → va_S A s.heap H locs → lv_has ls 5 [(0, .ref (zad F G (100 + 4 * q0))), (1, .int x1), (2, .int x2), (3, .int x3), (4, .int x4)] → W p l e (zRm 2 42) s m args below meth c H locs 0 0 (MQ below (zQi D Y F A G (res, S)) args s 0 0 A) (F0 m 8 ls []) := by
  obtain ⟨hx, hb, hml, hr, hown, hts, hK, hA, hlk, hN⟩ := id C0
  intro n
  induction n with
  | zero =>
    intro x1 x2 x3 x4 h
    unfold M_X5_haveBits_B8 at h
    cases h
  | succ n ih =>
    intro x1 x2 x3 x4 h H locs ls hw hS hl
    rw [M_X5_haveBits_B8] at h
    refine lv_iload hx hb dX5_haveBits_8 (lv_at hl 4 rfl) ?_
    refine lv_bipush (v := 6) hx hb dX5_haveBits_10 (by decide) ?_
    refine lv_icmp_ge (tgt := 39) hx hb dX5_haveBits_12 (by decide) (fun c1 => ?_) (fun c1 => ?_)
    · replace h := z_ifp c1 h
      refine lv_iload_n hx hb dX5_haveBits_39 rfl (lv_at hl 3 rfl) ?_
      exact z_reti C0 hw hS (congrArg (fun z => (z, S)) (Option.some.inj h)) dX5_haveBits_40
    · replace h := z_ifn c1 h
      refine lv_aload_n hx hb dX5_haveBits_15 rfl (lv_at hl 0 rfl) ?_
      refine lv_iload hx hb dX5_haveBits_16 (lv_at hl 4 rfl) ?_
      refine lv_iload_n hx hb dX5_haveBits_18 rfl (lv_at hl 1 rfl) ?_
      obtain ⟨w2, ew2, h⟩ := z_bd h
      refine z_goi C0 hw hS (res := (w2, S)) (rest := []) (arr := (Value.ref (zad F G (100 + 4 * q0)) :: [.int x4, .int x1]).toArray) ?_ (fun H locs hw hS => ?_)
      · rcases zOK_cases hq0 with zz | zz | zz | zz | zz | zz | zz
        · exact va_runU (z_fix C0) (c_X5_strengthOf l D Y F G S _ q0 hq0 x4 x1 w2 ew2) (va_cwU 2 hts gX5_haveBits_X5_strengthOf_u73X0 rfl rfl rfl rfl (by decide +kernel) ⟨Nat.le_of_ble_eq_true rfl, Nat.le_of_ble_eq_true rfl⟩) ⟨zPc_blind, z_prec C0 hw hq0 (ci := 0) zz rfl, z_give C0 hw hS _⟩ rfl rfl hl.1 rfl (lv_room (Nat.le_of_ble_eq_true rfl)) dX5_haveBits_19 ⟨Nat.zero_le _, Nat.zero_le _⟩
        · exact va_runU (z_fix C0) (c_X5_strengthOf l D Y F G S _ q0 hq0 x4 x1 w2 ew2) (va_cwU 2 hts gX5_haveBits_X5_strengthOf_u73X1 rfl rfl rfl rfl (by decide +kernel) ⟨Nat.le_of_ble_eq_true rfl, Nat.le_of_ble_eq_true rfl⟩) ⟨zPc_blind, z_prec C0 hw hq0 (ci := 1) zz rfl, z_give C0 hw hS _⟩ rfl rfl hl.1 rfl (lv_room (Nat.le_of_ble_eq_true rfl)) dX5_haveBits_19 ⟨Nat.zero_le _, Nat.zero_le _⟩
        · exact va_runU (z_fix C0) (c_X5_strengthOf l D Y F G S _ q0 hq0 x4 x1 w2 ew2) (va_cwU 2 hts gX5_haveBits_X5_strengthOf_u73X2 rfl rfl rfl rfl (by decide +kernel) ⟨Nat.le_of_ble_eq_true rfl, Nat.le_of_ble_eq_true rfl⟩) ⟨zPc_blind, z_prec C0 hw hq0 (ci := 2) zz rfl, z_give C0 hw hS _⟩ rfl rfl hl.1 rfl (lv_room (Nat.le_of_ble_eq_true rfl)) dX5_haveBits_19 ⟨Nat.zero_le _, Nat.zero_le _⟩
        · exact va_runU (z_fix C0) (c_X5_strengthOf l D Y F G S _ q0 hq0 x4 x1 w2 ew2) (va_cwU 2 hts gX5_haveBits_X5_strengthOf_u73X3 rfl rfl rfl rfl (by decide +kernel) ⟨Nat.le_of_ble_eq_true rfl, Nat.le_of_ble_eq_true rfl⟩) ⟨zPc_blind, z_prec C0 hw hq0 (ci := 3) zz rfl, z_give C0 hw hS _⟩ rfl rfl hl.1 rfl (lv_room (Nat.le_of_ble_eq_true rfl)) dX5_haveBits_19 ⟨Nat.zero_le _, Nat.zero_le _⟩
        · exact va_runV (z_fix C0) (c_X5_strengthOf l D Y F G S _ q0 hq0 x4 x1 w2 ew2) (cwV 2 hts gX5_haveBits_X5_strengthOf rfl rfl rfl (by decide +kernel) ⟨Nat.le_of_ble_eq_true rfl, Nat.le_of_ble_eq_true rfl⟩) ⟨zPc_blind, z_prec C0 hw hq0 (ci := 5) zz rfl, z_give C0 hw hS _⟩ rfl rfl hl.1 rfl (lv_room (Nat.le_of_ble_eq_true rfl)) dX5_haveBits_19 ⟨Nat.zero_le _, Nat.zero_le _⟩
        · exact va_runU (z_fix C0) (c_X5_strengthOf l D Y F G S _ q0 hq0 x4 x1 w2 ew2) (va_cwU 2 hts gX5_haveBits_X5_strengthOf_u73X8 rfl rfl rfl rfl (by decide +kernel) ⟨Nat.le_of_ble_eq_true rfl, Nat.le_of_ble_eq_true rfl⟩) ⟨zPc_blind, z_prec C0 hw hq0 (ci := 8) zz rfl, z_give C0 hw hS _⟩ rfl rfl hl.1 rfl (lv_room (Nat.le_of_ble_eq_true rfl)) dX5_haveBits_19 ⟨Nat.zero_le _, Nat.zero_le _⟩
        · exact va_runU (z_fix C0) (c_X5_strengthOf l D Y F G S _ q0 hq0 x4 x1 w2 ew2) (va_cwU 2 hts gX5_haveBits_X5_strengthOf_u73X10 rfl rfl rfl rfl (by decide +kernel) ⟨Nat.le_of_ble_eq_true rfl, Nat.le_of_ble_eq_true rfl⟩) ⟨zPc_blind, z_prec C0 hw hq0 (ci := 10) zz rfl, z_give C0 hw hS _⟩ rfl rfl hl.1 rfl (lv_room (Nat.le_of_ble_eq_true rfl)) dX5_haveBits_19 ⟨Nat.zero_le _, Nat.zero_le _⟩
      refine lv_iload_n hx hb dX5_haveBits_22 rfl (lv_at hl 2 rfl) ?_
      refine lv_icmp_lt (tgt := 33) hx hb dX5_haveBits_23 (by decide) (fun c3 => ?_) (fun c3 => ?_)
      · replace h := z_ifp c3 h
        refine lv_iinc (v := (x4 + 1)) (lv' := [(4, .int ((x4 + 1))), (0, .ref (zad F G (100 + 4 * q0))), (1, .int x1), (2, .int x2), (3, .int x3)]) hx hb dX5_haveBits_33 hl (k := 4) rfl rfl (by decide) rfl (fun ls hl => ?_)
        refine lv_goto (tgt := 8) hx hb dX5_haveBits_36 (by decide) ?_
        exact ih x1 x2 x3 ((x4 + 1)) h _ _ _ hw hS (lv_sub hl [1, 2, 3, 4, 0] rfl)
      · replace h := z_ifn c3 h
        refine lv_iload_n hx hb dX5_haveBits_26 rfl (lv_at hl 3 rfl) ?_
        refine lv_iconst (v := 1) hx hb dX5_haveBits_27 (by decide) ?_
        refine lv_iload hx hb dX5_haveBits_28 (lv_at hl 4 rfl) ?_
        refine lv_ishl hx hb dX5_haveBits_30 ?_
        refine lv_ior hx hb dX5_haveBits_31 ?_
        obtain ⟨v4, ev4, h⟩ := z_bd h
        refine z_top (Option.some.inj ev4) ?_
        refine lv_istore_n (lv' := [(3, .int v4), (0, .ref (zad F G (100 + 4 * q0))), (1, .int x1), (2, .int x2), (4, .int x4)]) hx hb dX5_haveBits_32 rfl hl (by decide) rfl (fun ls hl => ?_)
        refine lv_iinc (v := (x4 + 1)) (lv' := [(4, .int ((x4 + 1))), (3, .int v4), (0, .ref (zad F G (100 + 4 * q0))), (1, .int x1), (2, .int x2)]) hx hb dX5_haveBits_33 hl (k := 4) rfl rfl (by decide) rfl (fun ls hl => ?_)
        refine lv_goto (tgt := 8) hx hb dX5_haveBits_36 (by decide) ?_
        exact ih x1 x2 v4 ((x4 + 1)) h _ _ _ hw hS (lv_sub hl [2, 3, 4, 1, 0] rfl)
def M_X5_haveBits (pk : Nat → Nat) (S : zSt) (q0 : Nat) (x1 : Int32) (x2 : Int32) : Option (Int32) :=
  M_X5_haveBits_B8 pk S q0 zF x1 x2 0 ((zsc S (100 + 4 * q0) 8))
set_option maxHeartbeats 4000000 in
set_option maxRecDepth 100000 in
theorem c_X5_haveBits (l : Launch) (D : va_G) (Y : Nat → ClassId) (F : Nat → Nat) (G : zG) (S : zSt) (sz : Nat) (q0 : Nat) (hq0 : zOKb (zpk G) q0 = true) (x1 : Int32) (x2 : Int32) (res : Int32) (h : M_X5_haveBits (zpk G) S q0 x1 x2 = some res) : Met l yX5_haveBits wsX5_haveBits (zRm 2 42) (zPc D Y F G S sz [.ref (zad F G (100 + 4 * q0)), .int x1, .int x2]) (zQi D Y F (zAo F G sz) G (res, S)) 0 0 (zAo F G sz) := by
  unfold M_X5_haveBits at h
  refine zMet (cc := cX5_haveBits) (maxL := 5) (ret := (some .int)) (own := RX5) (by decide +kernel) rfl rfl (Nat.le_of_ble_eq_true rfl) ?_
  intro p e s m args below meth c C0 hin hw hS ls hl
  have hl : lv_has ls 5 [(0, .ref (zad F G (100 + 4 * q0))), (1, .int x1), (2, .int x2)] := hl
  generalize zAo F G sz = A at C0 hw hS ⊢
  obtain ⟨hx, hb, hml, hr, hown, hts, hK, hA, hlk, hN⟩ := id C0
  refine lv_iconst (v := 0) hx hb dX5_haveBits_0 (by decide) ?_
  refine lv_istore_n (lv' := [(3, .int 0), (0, .ref (zad F G (100 + 4 * q0))), (1, .int x1), (2, .int x2)]) hx hb dX5_haveBits_1 rfl hl (by decide) rfl (fun ls hl => ?_)
  refine lv_aload_n hx hb dX5_haveBits_2 rfl (lv_at hl 1 rfl) ?_
  refine z_getP C0 inP_X5_haveBits hw hq0 8 (by decide) (v := .int ((zsc S (100 + 4 * q0) 8))) rfl 1 rfl (Or.inl rfl) dX5_haveBits_3 ?_
  refine lv_istore (lv' := [(4, .int ((zsc S (100 + 4 * q0) 8))), (3, .int 0), (0, .ref (zad F G (100 + 4 * q0))), (1, .int x1), (2, .int x2)]) hx hb dX5_haveBits_6 hl (by decide) rfl (fun ls hl => ?_)
  exact t_X5_haveBits_B8 C0 S q0 hq0 res zF x1 x2 0 ((zsc S (100 + 4 * q0) 8)) h _ _ _ hw hS (lv_sub hl [2, 3, 4, 1, 0] rfl)
def M_X5_allBits_B9 (pk : Nat → Nat) (S : zSt) (q0 : Nat) : Nat → Int32 → Int32 → Int32 → Option (Int32)
  | 0, _, _, _ => none
  | n + 1, x1, x2, x3 =>
  (if 6 ≤ x3 then some x2 else Option.bind (M_X5_hasBits pk S q0 x3 x1) (fun w2 => M_X5_allBits_B9 pk S q0 n x1 ((x2 &&& w2)) ((x3 + 1))))
set_option maxHeartbeats 4000000 in
set_option maxRecDepth 100000 in
theorem t_X5_allBits_B9 {p : Program} {l : Launch} {e : Env} {s : State} {m : MethodId} {args : Array Value} {below : List Frame} {meth : Method} {c : Code} {D : va_G} {Y : Nat → ClassId} {F : Nat → Nat} {A : Nat → Prop} {G : zG} (C0 : zCx p s m args meth c D Y F A RX5 cX5_allBits 4 (some .int) wsX5_allBits) (S : zSt) (q0 : Nat) (hq0 : zOKb (zpk G) q0 = true) (res : Int32) : ∀ (n : Nat), ∀ (x1 : Int32) (x2 : Int32) (x3 : Int32), M_X5_allBits_B9 (zpk G) S q0 n x1 x2 x3 = some res → ∀ (H : Heap) (locs : List Loc) (ls : Array Slot), zH D Y F A G S H → va_S A s.heap H locs → lv_has ls 4 [(0, .ref (zad F G (100 + 4 * q0))), (1, .int x1), (2, .int x2), (3, .int x3)] → W p l e (zRm 3 66) s m args below meth c H locs 0 0 (MQ below (zQi D Y F A G (res, S)) args s 0 0 A) (F0 m 9 ls []) := by
  obtain ⟨hx, hb, hml, hr, hown, hts, hK, hA, hlk, hN⟩ := id C0
  intro n
  induction n with
  | zero =>
    intro x1 x2 x3 h
    unfold M_X5_allBits_B9 at h
    cases h
  | succ n ih =>
    intro x1 x2 x3 h H locs ls hw hS hl
    rw [M_X5_allBits_B9] at h
    refine lv_iload_n hx hb dX5_allBits_9 rfl (lv_at hl 3 rfl) ?_
    refine lv_bipush (v := 6) hx hb dX5_allBits_10 (by decide) ?_
    refine lv_icmp_ge (tgt := 30) hx hb dX5_allBits_12 (by decide) (fun c1 => ?_) (fun c1 => ?_)
    · replace h := z_ifp c1 h
      refine lv_iload_n hx hb dX5_allBits_30 rfl (lv_at hl 2 rfl) ?_
      exact z_reti C0 hw hS (congrArg (fun z => (z, S)) (Option.some.inj h)) dX5_allBits_31
    · replace h := z_ifn c1 h
      refine lv_iload_n hx hb dX5_allBits_15 rfl (lv_at hl 2 rfl) ?_
      refine lv_aload_n hx hb dX5_allBits_16 rfl (lv_at hl 0 rfl) ?_
      refine lv_iload_n hx hb dX5_allBits_17 rfl (lv_at hl 3 rfl) ?_
      refine lv_iload_n hx hb dX5_allBits_18 rfl (lv_at hl 1 rfl) ?_
      obtain ⟨w2, ew2, h⟩ := z_bd h
      refine z_goi C0 hw hS (res := (w2, S)) (rest := [.int x2]) (arr := (Value.ref (zad F G (100 + 4 * q0)) :: [.int x3, .int x1]).toArray) ?_ (fun H locs hw hS => ?_)
      · rcases zOK_cases hq0 with zz | zz | zz | zz | zz | zz | zz
        · exact va_runU (z_fix C0) (c_X5_hasBits l D Y F G S _ q0 hq0 x3 x1 w2 ew2) (va_cwU 2 hts gX5_allBits_X5_hasBits_u77X0 rfl rfl rfl rfl (by decide +kernel) ⟨Nat.le_of_ble_eq_true rfl, Nat.le_of_ble_eq_true rfl⟩) ⟨zPc_blind, z_prec C0 hw hq0 (ci := 0) zz rfl, z_give C0 hw hS _⟩ rfl rfl hl.1 rfl (lv_room (Nat.le_of_ble_eq_true rfl)) dX5_allBits_19 ⟨Nat.zero_le _, Nat.zero_le _⟩
        · exact va_runU (z_fix C0) (c_X5_hasBits l D Y F G S _ q0 hq0 x3 x1 w2 ew2) (va_cwU 2 hts gX5_allBits_X5_hasBits_u77X1 rfl rfl rfl rfl (by decide +kernel) ⟨Nat.le_of_ble_eq_true rfl, Nat.le_of_ble_eq_true rfl⟩) ⟨zPc_blind, z_prec C0 hw hq0 (ci := 1) zz rfl, z_give C0 hw hS _⟩ rfl rfl hl.1 rfl (lv_room (Nat.le_of_ble_eq_true rfl)) dX5_allBits_19 ⟨Nat.zero_le _, Nat.zero_le _⟩
        · exact va_runU (z_fix C0) (c_X5_hasBits l D Y F G S _ q0 hq0 x3 x1 w2 ew2) (va_cwU 2 hts gX5_allBits_X5_hasBits_u77X2 rfl rfl rfl rfl (by decide +kernel) ⟨Nat.le_of_ble_eq_true rfl, Nat.le_of_ble_eq_true rfl⟩) ⟨zPc_blind, z_prec C0 hw hq0 (ci := 2) zz rfl, z_give C0 hw hS _⟩ rfl rfl hl.1 rfl (lv_room (Nat.le_of_ble_eq_true rfl)) dX5_allBits_19 ⟨Nat.zero_le _, Nat.zero_le _⟩
        · exact va_runU (z_fix C0) (c_X5_hasBits l D Y F G S _ q0 hq0 x3 x1 w2 ew2) (va_cwU 2 hts gX5_allBits_X5_hasBits_u77X3 rfl rfl rfl rfl (by decide +kernel) ⟨Nat.le_of_ble_eq_true rfl, Nat.le_of_ble_eq_true rfl⟩) ⟨zPc_blind, z_prec C0 hw hq0 (ci := 3) zz rfl, z_give C0 hw hS _⟩ rfl rfl hl.1 rfl (lv_room (Nat.le_of_ble_eq_true rfl)) dX5_allBits_19 ⟨Nat.zero_le _, Nat.zero_le _⟩
        · exact va_runV (z_fix C0) (c_X5_hasBits l D Y F G S _ q0 hq0 x3 x1 w2 ew2) (cwV 2 hts gX5_allBits_X5_hasBits rfl rfl rfl (by decide +kernel) ⟨Nat.le_of_ble_eq_true rfl, Nat.le_of_ble_eq_true rfl⟩) ⟨zPc_blind, z_prec C0 hw hq0 (ci := 5) zz rfl, z_give C0 hw hS _⟩ rfl rfl hl.1 rfl (lv_room (Nat.le_of_ble_eq_true rfl)) dX5_allBits_19 ⟨Nat.zero_le _, Nat.zero_le _⟩
        · exact va_runU (z_fix C0) (c_X5_hasBits l D Y F G S _ q0 hq0 x3 x1 w2 ew2) (va_cwU 2 hts gX5_allBits_X5_hasBits_u77X8 rfl rfl rfl rfl (by decide +kernel) ⟨Nat.le_of_ble_eq_true rfl, Nat.le_of_ble_eq_true rfl⟩) ⟨zPc_blind, z_prec C0 hw hq0 (ci := 8) zz rfl, z_give C0 hw hS _⟩ rfl rfl hl.1 rfl (lv_room (Nat.le_of_ble_eq_true rfl)) dX5_allBits_19 ⟨Nat.zero_le _, Nat.zero_le _⟩
        · exact va_runU (z_fix C0) (c_X5_hasBits l D Y F G S _ q0 hq0 x3 x1 w2 ew2) (va_cwU 2 hts gX5_allBits_X5_hasBits_u77X10 rfl rfl rfl rfl (by decide +kernel) ⟨Nat.le_of_ble_eq_true rfl, Nat.le_of_ble_eq_true rfl⟩) ⟨zPc_blind, z_prec C0 hw hq0 (ci := 10) zz rfl, z_give C0 hw hS _⟩ rfl rfl hl.1 rfl (lv_room (Nat.le_of_ble_eq_true rfl)) dX5_allBits_19 ⟨Nat.zero_le _, Nat.zero_le _⟩
      refine lv_iand hx hb dX5_allBits_22 ?_
      refine lv_istore_n (lv' := [(2, .int ((x2 &&& w2))), (0, .ref (zad F G (100 + 4 * q0))), (1, .int x1), (3, .int x3)]) hx hb dX5_allBits_23 rfl hl (by decide) rfl (fun ls hl => ?_)
      refine lv_iinc (v := (x3 + 1)) (lv' := [(3, .int ((x3 + 1))), (2, .int ((x2 &&& w2))), (0, .ref (zad F G (100 + 4 * q0))), (1, .int x1)]) hx hb dX5_allBits_24 hl (k := 3) rfl rfl (by decide) rfl (fun ls hl => ?_)
      refine lv_goto (tgt := 9) hx hb dX5_allBits_27 (by decide) ?_
      exact ih x1 ((x2 &&& w2)) ((x3 + 1)) h _ _ _ hw hS (lv_sub hl [2, 3, 1, 0] rfl)
def M_X5_allBits (pk : Nat → Nat) (S : zSt) (q0 : Nat) (x1 : Int32) : Option (Int32) :=
  M_X5_allBits_B9 pk S q0 zF x1 255 ((zsc S (100 + 4 * q0) 8))
set_option maxHeartbeats 4000000 in
set_option maxRecDepth 100000 in
theorem c_X5_allBits (l : Launch) (D : va_G) (Y : Nat → ClassId) (F : Nat → Nat) (G : zG) (S : zSt) (sz : Nat) (q0 : Nat) (hq0 : zOKb (zpk G) q0 = true) (x1 : Int32) (res : Int32) (h : M_X5_allBits (zpk G) S q0 x1 = some res) : Met l yX5_allBits wsX5_allBits (zRm 3 66) (zPc D Y F G S sz [.ref (zad F G (100 + 4 * q0)), .int x1]) (zQi D Y F (zAo F G sz) G (res, S)) 0 0 (zAo F G sz) := by
  unfold M_X5_allBits at h
  refine zMet (cc := cX5_allBits) (maxL := 4) (ret := (some .int)) (own := RX5) (by decide +kernel) rfl rfl (Nat.le_of_ble_eq_true rfl) ?_
  intro p e s m args below meth c C0 hin hw hS ls hl
  have hl : lv_has ls 4 [(0, .ref (zad F G (100 + 4 * q0))), (1, .int x1)] := hl
  generalize zAo F G sz = A at C0 hw hS ⊢
  obtain ⟨hx, hb, hml, hr, hown, hts, hK, hA, hlk, hN⟩ := id C0
  refine lv_sipush (v := 255) hx hb dX5_allBits_0 (by decide) ?_
  refine lv_istore_n (lv' := [(2, .int 255), (0, .ref (zad F G (100 + 4 * q0))), (1, .int x1)]) hx hb dX5_allBits_3 rfl hl (by decide) rfl (fun ls hl => ?_)
  refine lv_aload_n hx hb dX5_allBits_4 rfl (lv_at hl 1 rfl) ?_
  refine z_getP C0 inP_X5_allBits hw hq0 8 (by decide) (v := .int ((zsc S (100 + 4 * q0) 8))) rfl 1 rfl (Or.inl rfl) dX5_allBits_5 ?_
  refine lv_istore_n (lv' := [(3, .int ((zsc S (100 + 4 * q0) 8))), (2, .int 255), (0, .ref (zad F G (100 + 4 * q0))), (1, .int x1)]) hx hb dX5_allBits_8 rfl hl (by decide) rfl (fun ls hl => ?_)
  exact t_X5_allBits_B9 C0 S q0 hq0 res zF x1 255 ((zsc S (100 + 4 * q0) 8)) h _ _ _ hw hS (lv_sub hl [2, 3, 1, 0] rfl)
def M_X3_lossAt (pk : Nat → Nat) (S : zSt) (q0 : Nat) (x1 : Int32) : Option (Int32) :=
  Option.bind (M_X5_lossAt pk S q0 x1) (fun w1 => some ((w1 / 2)))
set_option maxHeartbeats 4000000 in
set_option maxRecDepth 100000 in
theorem c_X3_lossAt (l : Launch) (D : va_G) (Y : Nat → ClassId) (F : Nat → Nat) (G : zG) (S : zSt) (sz : Nat) (q0 : Nat) (hq0 : zOKb (zpk G) q0 = true) (x1 : Int32) (res : Int32) (h : M_X3_lossAt (zpk G) S q0 x1 = some res) : Met l yX3_lossAt wsX3_lossAt (zRm 1 21) (zPc D Y F G S sz [.ref (zad F G (100 + 4 * q0)), .int x1]) (zQi D Y F (zAo F G sz) G (res, S)) 0 0 (zAo F G sz) := by
  unfold M_X3_lossAt at h
  refine zMet (cc := cX3_lossAt) (maxL := 2) (ret := (some .int)) (own := RX3) (by decide +kernel) rfl rfl (Nat.le_of_ble_eq_true rfl) ?_
  intro p e s m args below meth c C0 hin hw hS ls hl
  have hl : lv_has ls 2 [(0, .ref (zad F G (100 + 4 * q0))), (1, .int x1)] := hl
  generalize zAo F G sz = A at C0 hw hS ⊢
  obtain ⟨hx, hb, hml, hr, hown, hts, hK, hA, hlk, hN⟩ := id C0
  refine lv_aload_n hx hb dX3_lossAt_0 rfl (lv_at hl 0 rfl) ?_
  refine lv_iload_n hx hb dX3_lossAt_1 rfl (lv_at hl 1 rfl) ?_
  obtain ⟨w1, ew1, h⟩ := z_bd h
  refine z_goi C0 hw hS (res := (w1, S)) (rest := []) (arr := (Value.ref (zad F G (100 + 4 * q0)) :: [.int x1]).toArray) ?_ (fun H locs hw hS => ?_)
  · rcases zOK_cases hq0 with zz | zz | zz | zz | zz | zz | zz
    · exact va_runSU (z_pat C0 (ci := 0) rfl) (z_fix C0) (c_X5_lossAt l D Y F G S _ q0 hq0 x1 w1 ew1) (va_cwSU 1 hts gX3_lossAt_X5_lossAt_s7 rfl rfl rfl (by decide +kernel) ⟨Nat.le_of_ble_eq_true rfl, Nat.le_of_ble_eq_true rfl⟩) ⟨zPc_blind, z_prec C0 hw hq0 (ci := 0) zz rfl, z_give C0 hw hS _⟩ rfl rfl hl.1 rfl (lv_room (Nat.le_of_ble_eq_true rfl)) dX3_lossAt_2 ⟨Nat.zero_le _, Nat.zero_le _⟩
    · exact va_runSU (z_pat C0 (ci := 1) rfl) (z_fix C0) (c_X5_lossAt l D Y F G S _ q0 hq0 x1 w1 ew1) (va_cwSU 1 hts gX3_lossAt_X5_lossAt_s7 rfl rfl rfl (by decide +kernel) ⟨Nat.le_of_ble_eq_true rfl, Nat.le_of_ble_eq_true rfl⟩) ⟨zPc_blind, z_prec C0 hw hq0 (ci := 1) zz rfl, z_give C0 hw hS _⟩ rfl rfl hl.1 rfl (lv_room (Nat.le_of_ble_eq_true rfl)) dX3_lossAt_2 ⟨Nat.zero_le _, Nat.zero_le _⟩
    · exact va_runSU (z_pat C0 (ci := 2) rfl) (z_fix C0) (c_X5_lossAt l D Y F G S _ q0 hq0 x1 w1 ew1) (va_cwSU 1 hts gX3_lossAt_X5_lossAt_s7 rfl rfl rfl (by decide +kernel) ⟨Nat.le_of_ble_eq_true rfl, Nat.le_of_ble_eq_true rfl⟩) ⟨zPc_blind, z_prec C0 hw hq0 (ci := 2) zz rfl, z_give C0 hw hS _⟩ rfl rfl hl.1 rfl (lv_room (Nat.le_of_ble_eq_true rfl)) dX3_lossAt_2 ⟨Nat.zero_le _, Nat.zero_le _⟩
    · exact va_runSU (z_pat C0 (ci := 3) rfl) (z_fix C0) (c_X5_lossAt l D Y F G S _ q0 hq0 x1 w1 ew1) (va_cwSU 1 hts gX3_lossAt_X5_lossAt_s7 rfl rfl rfl (by decide +kernel) ⟨Nat.le_of_ble_eq_true rfl, Nat.le_of_ble_eq_true rfl⟩) ⟨zPc_blind, z_prec C0 hw hq0 (ci := 3) zz rfl, z_give C0 hw hS _⟩ rfl rfl hl.1 rfl (lv_room (Nat.le_of_ble_eq_true rfl)) dX3_lossAt_2 ⟨Nat.zero_le _, Nat.zero_le _⟩
    · exact va_runSU (z_pat C0 (ci := 5) rfl) (z_fix C0) (c_X5_lossAt l D Y F G S _ q0 hq0 x1 w1 ew1) (va_cwSU 1 hts gX3_lossAt_X5_lossAt_s7 rfl rfl rfl (by decide +kernel) ⟨Nat.le_of_ble_eq_true rfl, Nat.le_of_ble_eq_true rfl⟩) ⟨zPc_blind, z_prec C0 hw hq0 (ci := 5) zz rfl, z_give C0 hw hS _⟩ rfl rfl hl.1 rfl (lv_room (Nat.le_of_ble_eq_true rfl)) dX3_lossAt_2 ⟨Nat.zero_le _, Nat.zero_le _⟩
    · exact va_runSU (z_pat C0 (ci := 8) rfl) (z_fix C0) (c_X5_lossAt l D Y F G S _ q0 hq0 x1 w1 ew1) (va_cwSU 1 hts gX3_lossAt_X5_lossAt_s7 rfl rfl rfl (by decide +kernel) ⟨Nat.le_of_ble_eq_true rfl, Nat.le_of_ble_eq_true rfl⟩) ⟨zPc_blind, z_prec C0 hw hq0 (ci := 8) zz rfl, z_give C0 hw hS _⟩ rfl rfl hl.1 rfl (lv_room (Nat.le_of_ble_eq_true rfl)) dX3_lossAt_2 ⟨Nat.zero_le _, Nat.zero_le _⟩
    · exact va_runSU (z_pat C0 (ci := 10) rfl) (z_fix C0) (c_X5_lossAt l D Y F G S _ q0 hq0 x1 w1 ew1) (va_cwSU 1 hts gX3_lossAt_X5_lossAt_s7 rfl rfl rfl (by decide +kernel) ⟨Nat.le_of_ble_eq_true rfl, Nat.le_of_ble_eq_true rfl⟩) ⟨zPc_blind, z_prec C0 hw hq0 (ci := 10) zz rfl, z_give C0 hw hS _⟩ rfl rfl hl.1 rfl (lv_room (Nat.le_of_ble_eq_true rfl)) dX3_lossAt_2 ⟨Nat.zero_le _, Nat.zero_le _⟩
  refine lv_iconst (v := 2) hx hb dX3_lossAt_5 (by decide) ?_
  refine lv_idiv hx hb dX3_lossAt_6 (by decide) ?_
  exact z_reti C0 hw hS (congrArg (fun z => (z, S)) (Option.some.inj h)) dX3_lossAt_7
def M_X0_lossAt (pk : Nat → Nat) (S : zSt) (q0 : Nat) (x1 : Int32) : Option (Int32) :=
  Option.bind (M_X3_lossAt pk S q0 x1) (fun w1 => some ((w1 + ((zsc S (100 + 4 * q0) 6) &&& 1))))
set_option maxHeartbeats 4000000 in
set_option maxRecDepth 100000 in
theorem c_X0_lossAt (l : Launch) (D : va_G) (Y : Nat → ClassId) (F : Nat → Nat) (G : zG) (S : zSt) (sz : Nat) (q0 : Nat) (hq0 : zOKb (zpk G) q0 = true) (x1 : Int32) (res : Int32) (h : M_X0_lossAt (zpk G) S q0 x1 = some res) : Met l yX0_lossAt wsX0_lossAt (zRm 2 42) (zPc D Y F G S sz [.ref (zad F G (100 + 4 * q0)), .int x1]) (zQi D Y F (zAo F G sz) G (res, S)) 0 0 (zAo F G sz) := by
  unfold M_X0_lossAt at h
  refine zMet (cc := cX0_lossAt) (maxL := 2) (ret := (some .int)) (own := RX0) (by decide +kernel) rfl rfl (Nat.le_of_ble_eq_true rfl) ?_
  intro p e s m args below meth c C0 hin hw hS ls hl
  have hl : lv_has ls 2 [(0, .ref (zad F G (100 + 4 * q0))), (1, .int x1)] := hl
  generalize zAo F G sz = A at C0 hw hS ⊢
  obtain ⟨hx, hb, hml, hr, hown, hts, hK, hA, hlk, hN⟩ := id C0
  refine lv_aload_n hx hb dX0_lossAt_0 rfl (lv_at hl 0 rfl) ?_
  refine lv_iload_n hx hb dX0_lossAt_1 rfl (lv_at hl 1 rfl) ?_
  obtain ⟨w1, ew1, h⟩ := z_bd h
  refine z_goi C0 hw hS (res := (w1, S)) (rest := []) (arr := (Value.ref (zad F G (100 + 4 * q0)) :: [.int x1]).toArray) ?_ (fun H locs hw hS => ?_)
  · rcases zOK_cases hq0 with zz | zz | zz | zz | zz | zz | zz
    · exact va_runSU (z_pat C0 (ci := 0) rfl) (z_fix C0) (c_X3_lossAt l D Y F G S _ q0 hq0 x1 w1 ew1) (va_cwSU 1 hts gX0_lossAt_X3_lossAt_s7 rfl rfl rfl (by decide +kernel) ⟨Nat.le_of_ble_eq_true rfl, Nat.le_of_ble_eq_true rfl⟩) ⟨zPc_blind, z_prec C0 hw hq0 (ci := 0) zz rfl, z_give C0 hw hS _⟩ rfl rfl hl.1 rfl (lv_room (Nat.le_of_ble_eq_true rfl)) dX0_lossAt_2 ⟨Nat.zero_le _, Nat.zero_le _⟩
    · exact va_runSU (z_pat C0 (ci := 1) rfl) (z_fix C0) (c_X3_lossAt l D Y F G S _ q0 hq0 x1 w1 ew1) (va_cwSU 1 hts gX0_lossAt_X3_lossAt_s7 rfl rfl rfl (by decide +kernel) ⟨Nat.le_of_ble_eq_true rfl, Nat.le_of_ble_eq_true rfl⟩) ⟨zPc_blind, z_prec C0 hw hq0 (ci := 1) zz rfl, z_give C0 hw hS _⟩ rfl rfl hl.1 rfl (lv_room (Nat.le_of_ble_eq_true rfl)) dX0_lossAt_2 ⟨Nat.zero_le _, Nat.zero_le _⟩
    · exact va_runSU (z_pat C0 (ci := 2) rfl) (z_fix C0) (c_X3_lossAt l D Y F G S _ q0 hq0 x1 w1 ew1) (va_cwSU 1 hts gX0_lossAt_X3_lossAt_s7 rfl rfl rfl (by decide +kernel) ⟨Nat.le_of_ble_eq_true rfl, Nat.le_of_ble_eq_true rfl⟩) ⟨zPc_blind, z_prec C0 hw hq0 (ci := 2) zz rfl, z_give C0 hw hS _⟩ rfl rfl hl.1 rfl (lv_room (Nat.le_of_ble_eq_true rfl)) dX0_lossAt_2 ⟨Nat.zero_le _, Nat.zero_le _⟩
    · exact va_runSU (z_pat C0 (ci := 3) rfl) (z_fix C0) (c_X3_lossAt l D Y F G S _ q0 hq0 x1 w1 ew1) (va_cwSU 1 hts gX0_lossAt_X3_lossAt_s7 rfl rfl rfl (by decide +kernel) ⟨Nat.le_of_ble_eq_true rfl, Nat.le_of_ble_eq_true rfl⟩) ⟨zPc_blind, z_prec C0 hw hq0 (ci := 3) zz rfl, z_give C0 hw hS _⟩ rfl rfl hl.1 rfl (lv_room (Nat.le_of_ble_eq_true rfl)) dX0_lossAt_2 ⟨Nat.zero_le _, Nat.zero_le _⟩
    · exact va_runSU (z_pat C0 (ci := 5) rfl) (z_fix C0) (c_X3_lossAt l D Y F G S _ q0 hq0 x1 w1 ew1) (va_cwSU 1 hts gX0_lossAt_X3_lossAt_s7 rfl rfl rfl (by decide +kernel) ⟨Nat.le_of_ble_eq_true rfl, Nat.le_of_ble_eq_true rfl⟩) ⟨zPc_blind, z_prec C0 hw hq0 (ci := 5) zz rfl, z_give C0 hw hS _⟩ rfl rfl hl.1 rfl (lv_room (Nat.le_of_ble_eq_true rfl)) dX0_lossAt_2 ⟨Nat.zero_le _, Nat.zero_le _⟩
    · exact va_runSU (z_pat C0 (ci := 8) rfl) (z_fix C0) (c_X3_lossAt l D Y F G S _ q0 hq0 x1 w1 ew1) (va_cwSU 1 hts gX0_lossAt_X3_lossAt_s7 rfl rfl rfl (by decide +kernel) ⟨Nat.le_of_ble_eq_true rfl, Nat.le_of_ble_eq_true rfl⟩) ⟨zPc_blind, z_prec C0 hw hq0 (ci := 8) zz rfl, z_give C0 hw hS _⟩ rfl rfl hl.1 rfl (lv_room (Nat.le_of_ble_eq_true rfl)) dX0_lossAt_2 ⟨Nat.zero_le _, Nat.zero_le _⟩
    · exact va_runSU (z_pat C0 (ci := 10) rfl) (z_fix C0) (c_X3_lossAt l D Y F G S _ q0 hq0 x1 w1 ew1) (va_cwSU 1 hts gX0_lossAt_X3_lossAt_s7 rfl rfl rfl (by decide +kernel) ⟨Nat.le_of_ble_eq_true rfl, Nat.le_of_ble_eq_true rfl⟩) ⟨zPc_blind, z_prec C0 hw hq0 (ci := 10) zz rfl, z_give C0 hw hS _⟩ rfl rfl hl.1 rfl (lv_room (Nat.le_of_ble_eq_true rfl)) dX0_lossAt_2 ⟨Nat.zero_le _, Nat.zero_le _⟩
  refine lv_aload_n hx hb dX0_lossAt_5 rfl (lv_at hl 0 rfl) ?_
  refine z_getP C0 inP_X0_lossAt hw hq0 6 (by decide) (v := .int ((zsc S (100 + 4 * q0) 6))) rfl 1 rfl (Or.inr ⟨2, rfl⟩) dX0_lossAt_6 ?_
  refine lv_iconst (v := 1) hx hb dX0_lossAt_9 (by decide) ?_
  refine lv_iand hx hb dX0_lossAt_10 ?_
  refine lv_iadd hx hb dX0_lossAt_11 ?_
  exact z_reti C0 hw hS (congrArg (fun z => (z, S)) (Option.some.inj h)) dX0_lossAt_12
def M_X8_lossAt (pk : Nat → Nat) (S : zSt) (q0 : Nat) (x1 : Int32) : Option (Int32) :=
  (if x1 = 1 then some 0 else Option.bind (M_X5_lossAt pk S q0 x1) (fun w2 => some w2))
set_option maxHeartbeats 4000000 in
set_option maxRecDepth 100000 in
theorem c_X8_lossAt (l : Launch) (D : va_G) (Y : Nat → ClassId) (F : Nat → Nat) (G : zG) (S : zSt) (sz : Nat) (q0 : Nat) (hq0 : zOKb (zpk G) q0 = true) (x1 : Int32) (res : Int32) (h : M_X8_lossAt (zpk G) S q0 x1 = some res) : Met l yX8_lossAt wsX8_lossAt (zRm 1 21) (zPc D Y F G S sz [.ref (zad F G (100 + 4 * q0)), .int x1]) (zQi D Y F (zAo F G sz) G (res, S)) 0 0 (zAo F G sz) := by
  unfold M_X8_lossAt at h
  refine zMet (cc := cX8_lossAt) (maxL := 2) (ret := (some .int)) (own := RX8) (by decide +kernel) rfl rfl (Nat.le_of_ble_eq_true rfl) ?_
  intro p e s m args below meth c C0 hin hw hS ls hl
  have hl : lv_has ls 2 [(0, .ref (zad F G (100 + 4 * q0))), (1, .int x1)] := hl
  generalize zAo F G sz = A at C0 hw hS ⊢
  obtain ⟨hx, hb, hml, hr, hown, hts, hK, hA, hlk, hN⟩ := id C0
  refine lv_iload_n hx hb dX8_lossAt_0 rfl (lv_at hl 1 rfl) ?_
  refine lv_iconst (v := 1) hx hb dX8_lossAt_1 (by decide) ?_
  refine lv_icmp_ne (tgt := 9) hx hb dX8_lossAt_2 (by decide) (fun c1 => ?_) (fun c1 => ?_)
  · replace h := z_ifn c1 h
    refine lv_aload_n hx hb dX8_lossAt_9 rfl (lv_at hl 0 rfl) ?_
    refine lv_iload_n hx hb dX8_lossAt_10 rfl (lv_at hl 1 rfl) ?_
    obtain ⟨w2, ew2, h⟩ := z_bd h
    refine z_goi C0 hw hS (res := (w2, S)) (rest := []) (arr := (Value.ref (zad F G (100 + 4 * q0)) :: [.int x1]).toArray) ?_ (fun H locs hw hS => ?_)
    · rcases zOK_cases hq0 with zz | zz | zz | zz | zz | zz | zz
      · exact va_runSU (z_pat C0 (ci := 0) rfl) (z_fix C0) (c_X5_lossAt l D Y F G S _ q0 hq0 x1 w2 ew2) (va_cwSU 1 hts gX8_lossAt_X5_lossAt_s7 rfl rfl rfl (by decide +kernel) ⟨Nat.le_of_ble_eq_true rfl, Nat.le_of_ble_eq_true rfl⟩) ⟨zPc_blind, z_prec C0 hw hq0 (ci := 0) zz rfl, z_give C0 hw hS _⟩ rfl rfl hl.1 rfl (lv_room (Nat.le_of_ble_eq_true rfl)) dX8_lossAt_11 ⟨Nat.zero_le _, Nat.zero_le _⟩
      · exact va_runSU (z_pat C0 (ci := 1) rfl) (z_fix C0) (c_X5_lossAt l D Y F G S _ q0 hq0 x1 w2 ew2) (va_cwSU 1 hts gX8_lossAt_X5_lossAt_s7 rfl rfl rfl (by decide +kernel) ⟨Nat.le_of_ble_eq_true rfl, Nat.le_of_ble_eq_true rfl⟩) ⟨zPc_blind, z_prec C0 hw hq0 (ci := 1) zz rfl, z_give C0 hw hS _⟩ rfl rfl hl.1 rfl (lv_room (Nat.le_of_ble_eq_true rfl)) dX8_lossAt_11 ⟨Nat.zero_le _, Nat.zero_le _⟩
      · exact va_runSU (z_pat C0 (ci := 2) rfl) (z_fix C0) (c_X5_lossAt l D Y F G S _ q0 hq0 x1 w2 ew2) (va_cwSU 1 hts gX8_lossAt_X5_lossAt_s7 rfl rfl rfl (by decide +kernel) ⟨Nat.le_of_ble_eq_true rfl, Nat.le_of_ble_eq_true rfl⟩) ⟨zPc_blind, z_prec C0 hw hq0 (ci := 2) zz rfl, z_give C0 hw hS _⟩ rfl rfl hl.1 rfl (lv_room (Nat.le_of_ble_eq_true rfl)) dX8_lossAt_11 ⟨Nat.zero_le _, Nat.zero_le _⟩
      · exact va_runSU (z_pat C0 (ci := 3) rfl) (z_fix C0) (c_X5_lossAt l D Y F G S _ q0 hq0 x1 w2 ew2) (va_cwSU 1 hts gX8_lossAt_X5_lossAt_s7 rfl rfl rfl (by decide +kernel) ⟨Nat.le_of_ble_eq_true rfl, Nat.le_of_ble_eq_true rfl⟩) ⟨zPc_blind, z_prec C0 hw hq0 (ci := 3) zz rfl, z_give C0 hw hS _⟩ rfl rfl hl.1 rfl (lv_room (Nat.le_of_ble_eq_true rfl)) dX8_lossAt_11 ⟨Nat.zero_le _, Nat.zero_le _⟩
      · exact va_runSU (z_pat C0 (ci := 5) rfl) (z_fix C0) (c_X5_lossAt l D Y F G S _ q0 hq0 x1 w2 ew2) (va_cwSU 1 hts gX8_lossAt_X5_lossAt_s7 rfl rfl rfl (by decide +kernel) ⟨Nat.le_of_ble_eq_true rfl, Nat.le_of_ble_eq_true rfl⟩) ⟨zPc_blind, z_prec C0 hw hq0 (ci := 5) zz rfl, z_give C0 hw hS _⟩ rfl rfl hl.1 rfl (lv_room (Nat.le_of_ble_eq_true rfl)) dX8_lossAt_11 ⟨Nat.zero_le _, Nat.zero_le _⟩
      · exact va_runSU (z_pat C0 (ci := 8) rfl) (z_fix C0) (c_X5_lossAt l D Y F G S _ q0 hq0 x1 w2 ew2) (va_cwSU 1 hts gX8_lossAt_X5_lossAt_s7 rfl rfl rfl (by decide +kernel) ⟨Nat.le_of_ble_eq_true rfl, Nat.le_of_ble_eq_true rfl⟩) ⟨zPc_blind, z_prec C0 hw hq0 (ci := 8) zz rfl, z_give C0 hw hS _⟩ rfl rfl hl.1 rfl (lv_room (Nat.le_of_ble_eq_true rfl)) dX8_lossAt_11 ⟨Nat.zero_le _, Nat.zero_le _⟩
      · exact va_runSU (z_pat C0 (ci := 10) rfl) (z_fix C0) (c_X5_lossAt l D Y F G S _ q0 hq0 x1 w2 ew2) (va_cwSU 1 hts gX8_lossAt_X5_lossAt_s7 rfl rfl rfl (by decide +kernel) ⟨Nat.le_of_ble_eq_true rfl, Nat.le_of_ble_eq_true rfl⟩) ⟨zPc_blind, z_prec C0 hw hq0 (ci := 10) zz rfl, z_give C0 hw hS _⟩ rfl rfl hl.1 rfl (lv_room (Nat.le_of_ble_eq_true rfl)) dX8_lossAt_11 ⟨Nat.zero_le _, Nat.zero_le _⟩
    exact z_reti C0 hw hS (congrArg (fun z => (z, S)) (Option.some.inj h)) dX8_lossAt_14
  · replace h := z_ifp c1 h
    refine lv_iconst (v := 0) hx hb dX8_lossAt_5 (by decide) ?_
    refine lv_goto (tgt := 14) hx hb dX8_lossAt_6 (by decide) ?_
    exact z_reti C0 hw hS (congrArg (fun z => (z, S)) (Option.some.inj h)) dX8_lossAt_14
def M_X1_lossAt (pk : Nat → Nat) (S : zSt) (q0 : Nat) (x1 : Int32) : Option (Int32) :=
  Option.bind (M_X8_lossAt pk S q0 x1) (fun w1 => (if x1 = 3 then some ((w1 + (zsc S (100 + 4 * q0) 6))) else some ((w1 + 0))))
set_option maxHeartbeats 4000000 in
set_option maxRecDepth 100000 in
theorem c_X1_lossAt (l : Launch) (D : va_G) (Y : Nat → ClassId) (F : Nat → Nat) (G : zG) (S : zSt) (sz : Nat) (q0 : Nat) (hq0 : zOKb (zpk G) q0 = true) (x1 : Int32) (res : Int32) (h : M_X1_lossAt (zpk G) S q0 x1 = some res) : Met l yX1_lossAt wsX1_lossAt (zRm 2 42) (zPc D Y F G S sz [.ref (zad F G (100 + 4 * q0)), .int x1]) (zQi D Y F (zAo F G sz) G (res, S)) 0 0 (zAo F G sz) := by
  unfold M_X1_lossAt at h
  refine zMet (cc := cX1_lossAt) (maxL := 2) (ret := (some .int)) (own := RX1) (by decide +kernel) rfl rfl (Nat.le_of_ble_eq_true rfl) ?_
  intro p e s m args below meth c C0 hin hw hS ls hl
  have hl : lv_has ls 2 [(0, .ref (zad F G (100 + 4 * q0))), (1, .int x1)] := hl
  generalize zAo F G sz = A at C0 hw hS ⊢
  obtain ⟨hx, hb, hml, hr, hown, hts, hK, hA, hlk, hN⟩ := id C0
  refine lv_aload_n hx hb dX1_lossAt_0 rfl (lv_at hl 0 rfl) ?_
  refine lv_iload_n hx hb dX1_lossAt_1 rfl (lv_at hl 1 rfl) ?_
  obtain ⟨w1, ew1, h⟩ := z_bd h
  refine z_goi C0 hw hS (res := (w1, S)) (rest := []) (arr := (Value.ref (zad F G (100 + 4 * q0)) :: [.int x1]).toArray) ?_ (fun H locs hw hS => ?_)
  · rcases zOK_cases hq0 with zz | zz | zz | zz | zz | zz | zz
    · exact va_runSU (z_pat C0 (ci := 0) rfl) (z_fix C0) (c_X8_lossAt l D Y F G S _ q0 hq0 x1 w1 ew1) (va_cwSU 1 hts gX1_lossAt_X8_lossAt_s7 rfl rfl rfl (by decide +kernel) ⟨Nat.le_of_ble_eq_true rfl, Nat.le_of_ble_eq_true rfl⟩) ⟨zPc_blind, z_prec C0 hw hq0 (ci := 0) zz rfl, z_give C0 hw hS _⟩ rfl rfl hl.1 rfl (lv_room (Nat.le_of_ble_eq_true rfl)) dX1_lossAt_2 ⟨Nat.zero_le _, Nat.zero_le _⟩
    · exact va_runSU (z_pat C0 (ci := 1) rfl) (z_fix C0) (c_X8_lossAt l D Y F G S _ q0 hq0 x1 w1 ew1) (va_cwSU 1 hts gX1_lossAt_X8_lossAt_s7 rfl rfl rfl (by decide +kernel) ⟨Nat.le_of_ble_eq_true rfl, Nat.le_of_ble_eq_true rfl⟩) ⟨zPc_blind, z_prec C0 hw hq0 (ci := 1) zz rfl, z_give C0 hw hS _⟩ rfl rfl hl.1 rfl (lv_room (Nat.le_of_ble_eq_true rfl)) dX1_lossAt_2 ⟨Nat.zero_le _, Nat.zero_le _⟩
    · exact va_runSU (z_pat C0 (ci := 2) rfl) (z_fix C0) (c_X8_lossAt l D Y F G S _ q0 hq0 x1 w1 ew1) (va_cwSU 1 hts gX1_lossAt_X8_lossAt_s7 rfl rfl rfl (by decide +kernel) ⟨Nat.le_of_ble_eq_true rfl, Nat.le_of_ble_eq_true rfl⟩) ⟨zPc_blind, z_prec C0 hw hq0 (ci := 2) zz rfl, z_give C0 hw hS _⟩ rfl rfl hl.1 rfl (lv_room (Nat.le_of_ble_eq_true rfl)) dX1_lossAt_2 ⟨Nat.zero_le _, Nat.zero_le _⟩
    · exact va_runSU (z_pat C0 (ci := 3) rfl) (z_fix C0) (c_X8_lossAt l D Y F G S _ q0 hq0 x1 w1 ew1) (va_cwSU 1 hts gX1_lossAt_X8_lossAt_s7 rfl rfl rfl (by decide +kernel) ⟨Nat.le_of_ble_eq_true rfl, Nat.le_of_ble_eq_true rfl⟩) ⟨zPc_blind, z_prec C0 hw hq0 (ci := 3) zz rfl, z_give C0 hw hS _⟩ rfl rfl hl.1 rfl (lv_room (Nat.le_of_ble_eq_true rfl)) dX1_lossAt_2 ⟨Nat.zero_le _, Nat.zero_le _⟩
    · exact va_runSU (z_pat C0 (ci := 5) rfl) (z_fix C0) (c_X8_lossAt l D Y F G S _ q0 hq0 x1 w1 ew1) (va_cwSU 1 hts gX1_lossAt_X8_lossAt_s7 rfl rfl rfl (by decide +kernel) ⟨Nat.le_of_ble_eq_true rfl, Nat.le_of_ble_eq_true rfl⟩) ⟨zPc_blind, z_prec C0 hw hq0 (ci := 5) zz rfl, z_give C0 hw hS _⟩ rfl rfl hl.1 rfl (lv_room (Nat.le_of_ble_eq_true rfl)) dX1_lossAt_2 ⟨Nat.zero_le _, Nat.zero_le _⟩
    · exact va_runSU (z_pat C0 (ci := 8) rfl) (z_fix C0) (c_X8_lossAt l D Y F G S _ q0 hq0 x1 w1 ew1) (va_cwSU 1 hts gX1_lossAt_X8_lossAt_s7 rfl rfl rfl (by decide +kernel) ⟨Nat.le_of_ble_eq_true rfl, Nat.le_of_ble_eq_true rfl⟩) ⟨zPc_blind, z_prec C0 hw hq0 (ci := 8) zz rfl, z_give C0 hw hS _⟩ rfl rfl hl.1 rfl (lv_room (Nat.le_of_ble_eq_true rfl)) dX1_lossAt_2 ⟨Nat.zero_le _, Nat.zero_le _⟩
    · exact va_runSU (z_pat C0 (ci := 10) rfl) (z_fix C0) (c_X8_lossAt l D Y F G S _ q0 hq0 x1 w1 ew1) (va_cwSU 1 hts gX1_lossAt_X8_lossAt_s7 rfl rfl rfl (by decide +kernel) ⟨Nat.le_of_ble_eq_true rfl, Nat.le_of_ble_eq_true rfl⟩) ⟨zPc_blind, z_prec C0 hw hq0 (ci := 10) zz rfl, z_give C0 hw hS _⟩ rfl rfl hl.1 rfl (lv_room (Nat.le_of_ble_eq_true rfl)) dX1_lossAt_2 ⟨Nat.zero_le _, Nat.zero_le _⟩
  refine lv_iload_n hx hb dX1_lossAt_5 rfl (lv_at hl 1 rfl) ?_
  refine lv_iconst (v := 3) hx hb dX1_lossAt_6 (by decide) ?_
  refine lv_icmp_ne (tgt := 17) hx hb dX1_lossAt_7 (by decide) (fun c2 => ?_) (fun c2 => ?_)
  · replace h := z_ifn c2 h
    refine lv_iconst (v := 0) hx hb dX1_lossAt_17 (by decide) ?_
    refine lv_iadd hx hb dX1_lossAt_18 ?_
    exact z_reti C0 hw hS (congrArg (fun z => (z, S)) (Option.some.inj h)) dX1_lossAt_19
  · replace h := z_ifp c2 h
    refine lv_aload_n hx hb dX1_lossAt_10 rfl (lv_at hl 0 rfl) ?_
    refine z_getP C0 inP_X1_lossAt hw hq0 6 (by decide) (v := .int ((zsc S (100 + 4 * q0) 6))) rfl 1 rfl (Or.inr ⟨2, rfl⟩) dX1_lossAt_11 ?_
    refine lv_goto (tgt := 18) hx hb dX1_lossAt_14 (by decide) ?_
    refine lv_iadd hx hb dX1_lossAt_18 ?_
    exact z_reti C0 hw hS (congrArg (fun z => (z, S)) (Option.some.inj h)) dX1_lossAt_19
def M_X2_lossAt (pk : Nat → Nat) (S : zSt) (q0 : Nat) (x1 : Int32) : Option (Int32) :=
  Option.bind (M_X5_lossAt pk S q0 x1) (fun w1 => some ((w1 + 2)))
set_option maxHeartbeats 4000000 in
set_option maxRecDepth 100000 in
theorem c_X2_lossAt (l : Launch) (D : va_G) (Y : Nat → ClassId) (F : Nat → Nat) (G : zG) (S : zSt) (sz : Nat) (q0 : Nat) (hq0 : zOKb (zpk G) q0 = true) (x1 : Int32) (res : Int32) (h : M_X2_lossAt (zpk G) S q0 x1 = some res) : Met l yX2_lossAt wsX2_lossAt (zRm 1 21) (zPc D Y F G S sz [.ref (zad F G (100 + 4 * q0)), .int x1]) (zQi D Y F (zAo F G sz) G (res, S)) 0 0 (zAo F G sz) := by
  unfold M_X2_lossAt at h
  refine zMet (cc := cX2_lossAt) (maxL := 2) (ret := (some .int)) (own := RX2) (by decide +kernel) rfl rfl (Nat.le_of_ble_eq_true rfl) ?_
  intro p e s m args below meth c C0 hin hw hS ls hl
  have hl : lv_has ls 2 [(0, .ref (zad F G (100 + 4 * q0))), (1, .int x1)] := hl
  generalize zAo F G sz = A at C0 hw hS ⊢
  obtain ⟨hx, hb, hml, hr, hown, hts, hK, hA, hlk, hN⟩ := id C0
  refine lv_aload_n hx hb dX2_lossAt_0 rfl (lv_at hl 0 rfl) ?_
  refine lv_iload_n hx hb dX2_lossAt_1 rfl (lv_at hl 1 rfl) ?_
  obtain ⟨w1, ew1, h⟩ := z_bd h
  refine z_goi C0 hw hS (res := (w1, S)) (rest := []) (arr := (Value.ref (zad F G (100 + 4 * q0)) :: [.int x1]).toArray) ?_ (fun H locs hw hS => ?_)
  · rcases zOK_cases hq0 with zz | zz | zz | zz | zz | zz | zz
    · exact va_runSU (z_pat C0 (ci := 0) rfl) (z_fix C0) (c_X5_lossAt l D Y F G S _ q0 hq0 x1 w1 ew1) (va_cwSU 1 hts gX2_lossAt_X5_lossAt_s7 rfl rfl rfl (by decide +kernel) ⟨Nat.le_of_ble_eq_true rfl, Nat.le_of_ble_eq_true rfl⟩) ⟨zPc_blind, z_prec C0 hw hq0 (ci := 0) zz rfl, z_give C0 hw hS _⟩ rfl rfl hl.1 rfl (lv_room (Nat.le_of_ble_eq_true rfl)) dX2_lossAt_2 ⟨Nat.zero_le _, Nat.zero_le _⟩
    · exact va_runSU (z_pat C0 (ci := 1) rfl) (z_fix C0) (c_X5_lossAt l D Y F G S _ q0 hq0 x1 w1 ew1) (va_cwSU 1 hts gX2_lossAt_X5_lossAt_s7 rfl rfl rfl (by decide +kernel) ⟨Nat.le_of_ble_eq_true rfl, Nat.le_of_ble_eq_true rfl⟩) ⟨zPc_blind, z_prec C0 hw hq0 (ci := 1) zz rfl, z_give C0 hw hS _⟩ rfl rfl hl.1 rfl (lv_room (Nat.le_of_ble_eq_true rfl)) dX2_lossAt_2 ⟨Nat.zero_le _, Nat.zero_le _⟩
    · exact va_runSU (z_pat C0 (ci := 2) rfl) (z_fix C0) (c_X5_lossAt l D Y F G S _ q0 hq0 x1 w1 ew1) (va_cwSU 1 hts gX2_lossAt_X5_lossAt_s7 rfl rfl rfl (by decide +kernel) ⟨Nat.le_of_ble_eq_true rfl, Nat.le_of_ble_eq_true rfl⟩) ⟨zPc_blind, z_prec C0 hw hq0 (ci := 2) zz rfl, z_give C0 hw hS _⟩ rfl rfl hl.1 rfl (lv_room (Nat.le_of_ble_eq_true rfl)) dX2_lossAt_2 ⟨Nat.zero_le _, Nat.zero_le _⟩
    · exact va_runSU (z_pat C0 (ci := 3) rfl) (z_fix C0) (c_X5_lossAt l D Y F G S _ q0 hq0 x1 w1 ew1) (va_cwSU 1 hts gX2_lossAt_X5_lossAt_s7 rfl rfl rfl (by decide +kernel) ⟨Nat.le_of_ble_eq_true rfl, Nat.le_of_ble_eq_true rfl⟩) ⟨zPc_blind, z_prec C0 hw hq0 (ci := 3) zz rfl, z_give C0 hw hS _⟩ rfl rfl hl.1 rfl (lv_room (Nat.le_of_ble_eq_true rfl)) dX2_lossAt_2 ⟨Nat.zero_le _, Nat.zero_le _⟩
    · exact va_runSU (z_pat C0 (ci := 5) rfl) (z_fix C0) (c_X5_lossAt l D Y F G S _ q0 hq0 x1 w1 ew1) (va_cwSU 1 hts gX2_lossAt_X5_lossAt_s7 rfl rfl rfl (by decide +kernel) ⟨Nat.le_of_ble_eq_true rfl, Nat.le_of_ble_eq_true rfl⟩) ⟨zPc_blind, z_prec C0 hw hq0 (ci := 5) zz rfl, z_give C0 hw hS _⟩ rfl rfl hl.1 rfl (lv_room (Nat.le_of_ble_eq_true rfl)) dX2_lossAt_2 ⟨Nat.zero_le _, Nat.zero_le _⟩
    · exact va_runSU (z_pat C0 (ci := 8) rfl) (z_fix C0) (c_X5_lossAt l D Y F G S _ q0 hq0 x1 w1 ew1) (va_cwSU 1 hts gX2_lossAt_X5_lossAt_s7 rfl rfl rfl (by decide +kernel) ⟨Nat.le_of_ble_eq_true rfl, Nat.le_of_ble_eq_true rfl⟩) ⟨zPc_blind, z_prec C0 hw hq0 (ci := 8) zz rfl, z_give C0 hw hS _⟩ rfl rfl hl.1 rfl (lv_room (Nat.le_of_ble_eq_true rfl)) dX2_lossAt_2 ⟨Nat.zero_le _, Nat.zero_le _⟩
    · exact va_runSU (z_pat C0 (ci := 10) rfl) (z_fix C0) (c_X5_lossAt l D Y F G S _ q0 hq0 x1 w1 ew1) (va_cwSU 1 hts gX2_lossAt_X5_lossAt_s7 rfl rfl rfl (by decide +kernel) ⟨Nat.le_of_ble_eq_true rfl, Nat.le_of_ble_eq_true rfl⟩) ⟨zPc_blind, z_prec C0 hw hq0 (ci := 10) zz rfl, z_give C0 hw hS _⟩ rfl rfl hl.1 rfl (lv_room (Nat.le_of_ble_eq_true rfl)) dX2_lossAt_2 ⟨Nat.zero_le _, Nat.zero_le _⟩
  refine lv_iconst (v := 2) hx hb dX2_lossAt_5 (by decide) ?_
  refine lv_iadd hx hb dX2_lossAt_6 ?_
  exact z_reti C0 hw hS (congrArg (fun z => (z, S)) (Option.some.inj h)) dX2_lossAt_7
def M_X10_lossAt (pk : Nat → Nat) (S : zSt) (q0 : Nat) (x1 : Int32) : Option (Int32) :=
  Option.bind (M_X2_lossAt pk S q0 x1) (fun w1 => (if x1 = 5 then some (((2 : Int32) * w1)) else some w1))
set_option maxHeartbeats 4000000 in
set_option maxRecDepth 100000 in
theorem c_X10_lossAt (l : Launch) (D : va_G) (Y : Nat → ClassId) (F : Nat → Nat) (G : zG) (S : zSt) (sz : Nat) (q0 : Nat) (hq0 : zOKb (zpk G) q0 = true) (x1 : Int32) (res : Int32) (h : M_X10_lossAt (zpk G) S q0 x1 = some res) : Met l yX10_lossAt wsX10_lossAt (zRm 2 42) (zPc D Y F G S sz [.ref (zad F G (100 + 4 * q0)), .int x1]) (zQi D Y F (zAo F G sz) G (res, S)) 0 0 (zAo F G sz) := by
  unfold M_X10_lossAt at h
  refine zMet (cc := cX10_lossAt) (maxL := 3) (ret := (some .int)) (own := RX10) (by decide +kernel) rfl rfl (Nat.le_of_ble_eq_true rfl) ?_
  intro p e s m args below meth c C0 hin hw hS ls hl
  have hl : lv_has ls 3 [(0, .ref (zad F G (100 + 4 * q0))), (1, .int x1)] := hl
  generalize zAo F G sz = A at C0 hw hS ⊢
  obtain ⟨hx, hb, hml, hr, hown, hts, hK, hA, hlk, hN⟩ := id C0
  refine lv_aload_n hx hb dX10_lossAt_0 rfl (lv_at hl 0 rfl) ?_
  refine lv_iload_n hx hb dX10_lossAt_1 rfl (lv_at hl 1 rfl) ?_
  obtain ⟨w1, ew1, h⟩ := z_bd h
  refine z_goi C0 hw hS (res := (w1, S)) (rest := []) (arr := (Value.ref (zad F G (100 + 4 * q0)) :: [.int x1]).toArray) ?_ (fun H locs hw hS => ?_)
  · rcases zOK_cases hq0 with zz | zz | zz | zz | zz | zz | zz
    · exact va_runSU (z_pat C0 (ci := 0) rfl) (z_fix C0) (c_X2_lossAt l D Y F G S _ q0 hq0 x1 w1 ew1) (va_cwSU 1 hts gX10_lossAt_X2_lossAt_s9 rfl rfl rfl (by decide +kernel) ⟨Nat.le_of_ble_eq_true rfl, Nat.le_of_ble_eq_true rfl⟩) ⟨zPc_blind, z_prec C0 hw hq0 (ci := 0) zz rfl, z_give C0 hw hS _⟩ rfl rfl hl.1 rfl (lv_room (Nat.le_of_ble_eq_true rfl)) dX10_lossAt_2 ⟨Nat.zero_le _, Nat.zero_le _⟩
    · exact va_runSU (z_pat C0 (ci := 1) rfl) (z_fix C0) (c_X2_lossAt l D Y F G S _ q0 hq0 x1 w1 ew1) (va_cwSU 1 hts gX10_lossAt_X2_lossAt_s9 rfl rfl rfl (by decide +kernel) ⟨Nat.le_of_ble_eq_true rfl, Nat.le_of_ble_eq_true rfl⟩) ⟨zPc_blind, z_prec C0 hw hq0 (ci := 1) zz rfl, z_give C0 hw hS _⟩ rfl rfl hl.1 rfl (lv_room (Nat.le_of_ble_eq_true rfl)) dX10_lossAt_2 ⟨Nat.zero_le _, Nat.zero_le _⟩
    · exact va_runSU (z_pat C0 (ci := 2) rfl) (z_fix C0) (c_X2_lossAt l D Y F G S _ q0 hq0 x1 w1 ew1) (va_cwSU 1 hts gX10_lossAt_X2_lossAt_s9 rfl rfl rfl (by decide +kernel) ⟨Nat.le_of_ble_eq_true rfl, Nat.le_of_ble_eq_true rfl⟩) ⟨zPc_blind, z_prec C0 hw hq0 (ci := 2) zz rfl, z_give C0 hw hS _⟩ rfl rfl hl.1 rfl (lv_room (Nat.le_of_ble_eq_true rfl)) dX10_lossAt_2 ⟨Nat.zero_le _, Nat.zero_le _⟩
    · exact va_runSU (z_pat C0 (ci := 3) rfl) (z_fix C0) (c_X2_lossAt l D Y F G S _ q0 hq0 x1 w1 ew1) (va_cwSU 1 hts gX10_lossAt_X2_lossAt_s9 rfl rfl rfl (by decide +kernel) ⟨Nat.le_of_ble_eq_true rfl, Nat.le_of_ble_eq_true rfl⟩) ⟨zPc_blind, z_prec C0 hw hq0 (ci := 3) zz rfl, z_give C0 hw hS _⟩ rfl rfl hl.1 rfl (lv_room (Nat.le_of_ble_eq_true rfl)) dX10_lossAt_2 ⟨Nat.zero_le _, Nat.zero_le _⟩
    · exact va_runSU (z_pat C0 (ci := 5) rfl) (z_fix C0) (c_X2_lossAt l D Y F G S _ q0 hq0 x1 w1 ew1) (va_cwSU 1 hts gX10_lossAt_X2_lossAt_s9 rfl rfl rfl (by decide +kernel) ⟨Nat.le_of_ble_eq_true rfl, Nat.le_of_ble_eq_true rfl⟩) ⟨zPc_blind, z_prec C0 hw hq0 (ci := 5) zz rfl, z_give C0 hw hS _⟩ rfl rfl hl.1 rfl (lv_room (Nat.le_of_ble_eq_true rfl)) dX10_lossAt_2 ⟨Nat.zero_le _, Nat.zero_le _⟩
    · exact va_runSU (z_pat C0 (ci := 8) rfl) (z_fix C0) (c_X2_lossAt l D Y F G S _ q0 hq0 x1 w1 ew1) (va_cwSU 1 hts gX10_lossAt_X2_lossAt_s9 rfl rfl rfl (by decide +kernel) ⟨Nat.le_of_ble_eq_true rfl, Nat.le_of_ble_eq_true rfl⟩) ⟨zPc_blind, z_prec C0 hw hq0 (ci := 8) zz rfl, z_give C0 hw hS _⟩ rfl rfl hl.1 rfl (lv_room (Nat.le_of_ble_eq_true rfl)) dX10_lossAt_2 ⟨Nat.zero_le _, Nat.zero_le _⟩
    · exact va_runSU (z_pat C0 (ci := 10) rfl) (z_fix C0) (c_X2_lossAt l D Y F G S _ q0 hq0 x1 w1 ew1) (va_cwSU 1 hts gX10_lossAt_X2_lossAt_s9 rfl rfl rfl (by decide +kernel) ⟨Nat.le_of_ble_eq_true rfl, Nat.le_of_ble_eq_true rfl⟩) ⟨zPc_blind, z_prec C0 hw hq0 (ci := 10) zz rfl, z_give C0 hw hS _⟩ rfl rfl hl.1 rfl (lv_room (Nat.le_of_ble_eq_true rfl)) dX10_lossAt_2 ⟨Nat.zero_le _, Nat.zero_le _⟩
  refine lv_istore_n (lv' := [(2, .int w1), (0, .ref (zad F G (100 + 4 * q0))), (1, .int x1)]) hx hb dX10_lossAt_5 rfl hl (by decide) rfl (fun ls hl => ?_)
  refine lv_iload_n hx hb dX10_lossAt_6 rfl (lv_at hl 2 rfl) ?_
  refine lv_iconst (v := 5) hx hb dX10_lossAt_7 (by decide) ?_
  refine lv_icmp_ne (tgt := 17) hx hb dX10_lossAt_8 (by decide) (fun c2 => ?_) (fun c2 => ?_)
  · replace h := z_ifn c2 h
    refine lv_iload_n hx hb dX10_lossAt_17 rfl (lv_at hl 0 rfl) ?_
    exact z_reti C0 hw hS (congrArg (fun z => (z, S)) (Option.some.inj h)) dX10_lossAt_18
  · replace h := z_ifp c2 h
    refine lv_iconst (v := 2) hx hb dX10_lossAt_11 (by decide) ?_
    refine lv_iload_n hx hb dX10_lossAt_12 rfl (lv_at hl 0 rfl) ?_
    refine lv_imul hx hb dX10_lossAt_13 ?_
    refine lv_goto (tgt := 18) hx hb dX10_lossAt_14 (by decide) ?_
    exact z_reti C0 hw hS (congrArg (fun z => (z, S)) (Option.some.inj h)) dX10_lossAt_18
def V_lossAt (pk : Nat → Nat) (S : zSt) (q : Nat) (x1 : Int32) : Option (Int32) :=
  if pk q = 1 then M_X0_lossAt pk S q x1 else if pk q = 2 then M_X1_lossAt pk S q x1 else if pk q = 3 then M_X2_lossAt pk S q x1 else if pk q = 4 then M_X3_lossAt pk S q x1 else if pk q = 6 then M_X5_lossAt pk S q x1 else if pk q = 9 then M_X8_lossAt pk S q x1 else if pk q = 11 then M_X10_lossAt pk S q x1 else none
theorem V_lossAt_X0 {pk : Nat → Nat} {S : zSt} {q : Nat} {x1 : Int32} {w : Int32} (hp : pk q = 1) (hv : V_lossAt pk S q x1 = some w) : M_X0_lossAt pk S q x1 = some w := by
  unfold V_lossAt at hv
  rw [if_pos hp] at hv
  exact hv
theorem V_lossAt_X1 {pk : Nat → Nat} {S : zSt} {q : Nat} {x1 : Int32} {w : Int32} (hp : pk q = 2) (hv : V_lossAt pk S q x1 = some w) : M_X1_lossAt pk S q x1 = some w := by
  unfold V_lossAt at hv
  rw [if_neg (show ¬ (pk q = 1) by omega)] at hv
  rw [if_pos hp] at hv
  exact hv
theorem V_lossAt_X2 {pk : Nat → Nat} {S : zSt} {q : Nat} {x1 : Int32} {w : Int32} (hp : pk q = 3) (hv : V_lossAt pk S q x1 = some w) : M_X2_lossAt pk S q x1 = some w := by
  unfold V_lossAt at hv
  rw [if_neg (show ¬ (pk q = 1) by omega)] at hv
  rw [if_neg (show ¬ (pk q = 2) by omega)] at hv
  rw [if_pos hp] at hv
  exact hv
theorem V_lossAt_X3 {pk : Nat → Nat} {S : zSt} {q : Nat} {x1 : Int32} {w : Int32} (hp : pk q = 4) (hv : V_lossAt pk S q x1 = some w) : M_X3_lossAt pk S q x1 = some w := by
  unfold V_lossAt at hv
  rw [if_neg (show ¬ (pk q = 1) by omega)] at hv
  rw [if_neg (show ¬ (pk q = 2) by omega)] at hv
  rw [if_neg (show ¬ (pk q = 3) by omega)] at hv
  rw [if_pos hp] at hv
  exact hv
theorem V_lossAt_X5 {pk : Nat → Nat} {S : zSt} {q : Nat} {x1 : Int32} {w : Int32} (hp : pk q = 6) (hv : V_lossAt pk S q x1 = some w) : M_X5_lossAt pk S q x1 = some w := by
  unfold V_lossAt at hv
  rw [if_neg (show ¬ (pk q = 1) by omega)] at hv
  rw [if_neg (show ¬ (pk q = 2) by omega)] at hv
  rw [if_neg (show ¬ (pk q = 3) by omega)] at hv
  rw [if_neg (show ¬ (pk q = 4) by omega)] at hv
  rw [if_pos hp] at hv
  exact hv
theorem V_lossAt_X8 {pk : Nat → Nat} {S : zSt} {q : Nat} {x1 : Int32} {w : Int32} (hp : pk q = 9) (hv : V_lossAt pk S q x1 = some w) : M_X8_lossAt pk S q x1 = some w := by
  unfold V_lossAt at hv
  rw [if_neg (show ¬ (pk q = 1) by omega)] at hv
  rw [if_neg (show ¬ (pk q = 2) by omega)] at hv
  rw [if_neg (show ¬ (pk q = 3) by omega)] at hv
  rw [if_neg (show ¬ (pk q = 4) by omega)] at hv
  rw [if_neg (show ¬ (pk q = 6) by omega)] at hv
  rw [if_pos hp] at hv
  exact hv
theorem V_lossAt_X10 {pk : Nat → Nat} {S : zSt} {q : Nat} {x1 : Int32} {w : Int32} (hp : pk q = 11) (hv : V_lossAt pk S q x1 = some w) : M_X10_lossAt pk S q x1 = some w := by
  unfold V_lossAt at hv
  rw [if_neg (show ¬ (pk q = 1) by omega)] at hv
  rw [if_neg (show ¬ (pk q = 2) by omega)] at hv
  rw [if_neg (show ¬ (pk q = 3) by omega)] at hv
  rw [if_neg (show ¬ (pk q = 4) by omega)] at hv
  rw [if_neg (show ¬ (pk q = 6) by omega)] at hv
  rw [if_neg (show ¬ (pk q = 9) by omega)] at hv
  rw [if_pos hp] at hv
  exact hv
def M_X5_gotBy_B5 (pk : Nat → Nat) (S : zSt) (q0 : Nat) : Nat → Int32 → Int32 → Int32 → Option (Int32)
  | 0, _, _, _ => none
  | n + 1, x1, x3, x4 =>
  (if (x1 - (zsc S (100 + 4 * q0) 8)) < x4 then some x3 else (if 5 < x4 then some x3 else Option.bind (V_lossAt pk S q0 x4) (fun w3 => Option.bind (some ((if (0 : Int32) < (x3 - w3) then (x3 - w3) else (0 : Int32)))) (fun v4 => M_X5_gotBy_B5 pk S q0 n x1 v4 ((x4 + 1))))))
set_option maxHeartbeats 4000000 in
set_option maxRecDepth 100000 in
theorem t_X5_gotBy_B5 {p : Program} {l : Launch} {e : Env} {s : State} {m : MethodId} {args : Array Value} {below : List Frame} {meth : Method} {c : Code} {D : va_G} {Y : Nat → ClassId} {F : Nat → Nat} {A : Nat → Prop} {G : zG} (C0 : zCx p s m args meth c D Y F A RX5 cX5_gotBy 5 (some .int) wsX5_gotBy) (S : zSt) (q0 : Nat) (hq0 : zOKb (zpk G) q0 = true) (res : Int32) : ∀ (n : Nat), ∀ (x1 : Int32) (x3 : Int32) (x4 : Int32), M_X5_gotBy_B5 (zpk G) S q0 n x1 x3 x4 = some res → ∀ (H : Heap) (locs : List Loc) (ls : Array Slot), zH D Y F A G S H → va_S A s.heap H locs → lv_has ls 5 [(0, .ref (zad F G (100 + 4 * q0))), (1, .int x1), (3, .int x3), (4, .int x4)] → W p l e (zRm 3 64) s m args below meth c H locs 0 0 (MQ below (zQi D Y F A G (res, S)) args s 0 0 A) (F0 m 5 ls []) := by
  obtain ⟨hx, hb, hml, hr, hown, hts, hK, hA, hlk, hN⟩ := id C0
  intro n
  induction n with
  | zero =>
    intro x1 x3 x4 h
    unfold M_X5_gotBy_B5 at h
    cases h
  | succ n ih =>
    intro x1 x3 x4 h H locs ls hw hS hl
    rw [M_X5_gotBy_B5] at h
    refine lv_iload hx hb dX5_gotBy_5 (lv_at hl 3 rfl) ?_
    refine lv_iload_n hx hb dX5_gotBy_7 rfl (lv_at hl 1 rfl) ?_
    refine lv_aload_n hx hb dX5_gotBy_8 rfl (lv_at hl 0 rfl) ?_
    refine z_getP C0 inP_X5_gotBy hw hq0 8 (by decide) (v := .int ((zsc S (100 + 4 * q0) 8))) rfl 1 rfl (Or.inl rfl) dX5_gotBy_9 ?_
    refine lv_isub hx hb dX5_gotBy_12 ?_
    refine lv_icmp_gt (tgt := 41) hx hb dX5_gotBy_13 (by decide) (fun c1 => ?_) (fun c1 => ?_)
    · replace h := z_ifp c1 h
      refine lv_iload_n hx hb dX5_gotBy_41 rfl (lv_at hl 2 rfl) ?_
      exact z_reti C0 hw hS (congrArg (fun z => (z, S)) (Option.some.inj h)) dX5_gotBy_42
    · replace h := z_ifn c1 h
      refine lv_iload hx hb dX5_gotBy_16 (lv_at hl 3 rfl) ?_
      refine lv_iconst (v := 5) hx hb dX5_gotBy_18 (by decide) ?_
      refine lv_icmp_gt (tgt := 41) hx hb dX5_gotBy_19 (by decide) (fun c2 => ?_) (fun c2 => ?_)
      · replace h := z_ifp c2 h
        refine lv_iload_n hx hb dX5_gotBy_41 rfl (lv_at hl 2 rfl) ?_
        exact z_reti C0 hw hS (congrArg (fun z => (z, S)) (Option.some.inj h)) dX5_gotBy_42
      · replace h := z_ifn c2 h
        refine lv_iconst (v := 0) hx hb dX5_gotBy_22 (by decide) ?_
        refine lv_iload_n hx hb dX5_gotBy_23 rfl (lv_at hl 2 rfl) ?_
        refine lv_aload_n hx hb dX5_gotBy_24 rfl (lv_at hl 0 rfl) ?_
        refine lv_iload hx hb dX5_gotBy_25 (lv_at hl 3 rfl) ?_
        obtain ⟨w3, ew3, h⟩ := z_bd h
        refine z_goi C0 hw hS (res := (w3, S)) (rest := [.int x3, .int 0]) (arr := (Value.ref (zad F G (100 + 4 * q0)) :: [.int x4]).toArray) ?_ (fun H locs hw hS => ?_)
        · rcases zOK_cases hq0 with zz | zz | zz | zz | zz | zz | zz
          · exact va_runU (z_fix C0) (c_X0_lossAt l D Y F G S _ q0 hq0 x4 w3 (V_lossAt_X0 zz ew3)) (va_cwO 1 hts gX5_gotBy_X0_lossAt_u80X0 rfl rfl rfl (List.mem_of_getElem? (i := 25) rfl) (by decide +kernel) ⟨Nat.le_of_ble_eq_true rfl, Nat.le_of_ble_eq_true rfl⟩) ⟨zPc_blind, z_prec C0 hw hq0 (ci := 0) zz rfl, z_give C0 hw hS _⟩ rfl rfl hl.1 rfl (lv_room (Nat.le_of_ble_eq_true rfl)) dX5_gotBy_27 ⟨Nat.zero_le _, Nat.zero_le _⟩
          · exact va_runU (z_fix C0) (c_X1_lossAt l D Y F G S _ q0 hq0 x4 w3 (V_lossAt_X1 zz ew3)) (va_cwO 1 hts gX5_gotBy_X1_lossAt_u80X1 rfl rfl rfl (List.mem_of_getElem? (i := 25) rfl) (by decide +kernel) ⟨Nat.le_of_ble_eq_true rfl, Nat.le_of_ble_eq_true rfl⟩) ⟨zPc_blind, z_prec C0 hw hq0 (ci := 1) zz rfl, z_give C0 hw hS _⟩ rfl rfl hl.1 rfl (lv_room (Nat.le_of_ble_eq_true rfl)) dX5_gotBy_27 ⟨Nat.zero_le _, Nat.zero_le _⟩
          · exact va_runU (z_fix C0) (c_X2_lossAt l D Y F G S _ q0 hq0 x4 w3 (V_lossAt_X2 zz ew3)) (va_cwO 1 hts gX5_gotBy_X2_lossAt_u80X2 rfl rfl rfl (List.mem_of_getElem? (i := 25) rfl) (by decide +kernel) ⟨Nat.le_of_ble_eq_true rfl, Nat.le_of_ble_eq_true rfl⟩) ⟨zPc_blind, z_prec C0 hw hq0 (ci := 2) zz rfl, z_give C0 hw hS _⟩ rfl rfl hl.1 rfl (lv_room (Nat.le_of_ble_eq_true rfl)) dX5_gotBy_27 ⟨Nat.zero_le _, Nat.zero_le _⟩
          · exact va_runU (z_fix C0) (c_X3_lossAt l D Y F G S _ q0 hq0 x4 w3 (V_lossAt_X3 zz ew3)) (va_cwO 1 hts gX5_gotBy_X3_lossAt_u80X3 rfl rfl rfl (List.mem_of_getElem? (i := 25) rfl) (by decide +kernel) ⟨Nat.le_of_ble_eq_true rfl, Nat.le_of_ble_eq_true rfl⟩) ⟨zPc_blind, z_prec C0 hw hq0 (ci := 3) zz rfl, z_give C0 hw hS _⟩ rfl rfl hl.1 rfl (lv_room (Nat.le_of_ble_eq_true rfl)) dX5_gotBy_27 ⟨Nat.zero_le _, Nat.zero_le _⟩
          · exact va_runV (z_fix C0) (c_X5_lossAt l D Y F G S _ q0 hq0 x4 w3 (V_lossAt_X5 zz ew3)) (cwV 1 hts gX5_gotBy_X5_lossAt rfl rfl rfl (by decide +kernel) ⟨Nat.le_of_ble_eq_true rfl, Nat.le_of_ble_eq_true rfl⟩) ⟨zPc_blind, z_prec C0 hw hq0 (ci := 5) zz rfl, z_give C0 hw hS _⟩ rfl rfl hl.1 rfl (lv_room (Nat.le_of_ble_eq_true rfl)) dX5_gotBy_27 ⟨Nat.zero_le _, Nat.zero_le _⟩
          · exact va_runU (z_fix C0) (c_X8_lossAt l D Y F G S _ q0 hq0 x4 w3 (V_lossAt_X8 zz ew3)) (va_cwO 1 hts gX5_gotBy_X8_lossAt_u80X8 rfl rfl rfl (List.mem_of_getElem? (i := 25) rfl) (by decide +kernel) ⟨Nat.le_of_ble_eq_true rfl, Nat.le_of_ble_eq_true rfl⟩) ⟨zPc_blind, z_prec C0 hw hq0 (ci := 8) zz rfl, z_give C0 hw hS _⟩ rfl rfl hl.1 rfl (lv_room (Nat.le_of_ble_eq_true rfl)) dX5_gotBy_27 ⟨Nat.zero_le _, Nat.zero_le _⟩
          · exact va_runU (z_fix C0) (c_X10_lossAt l D Y F G S _ q0 hq0 x4 w3 (V_lossAt_X10 zz ew3)) (va_cwO 1 hts gX5_gotBy_X10_lossAt_u80X10 rfl rfl rfl (List.mem_of_getElem? (i := 25) rfl) (by decide +kernel) ⟨Nat.le_of_ble_eq_true rfl, Nat.le_of_ble_eq_true rfl⟩) ⟨zPc_blind, z_prec C0 hw hq0 (ci := 10) zz rfl, z_give C0 hw hS _⟩ rfl rfl hl.1 rfl (lv_room (Nat.le_of_ble_eq_true rfl)) dX5_gotBy_27 ⟨Nat.zero_le _, Nat.zero_le _⟩
        refine lv_isub hx hb dX5_gotBy_30 ?_
        refine va_mmax hx hb (hml.trans hl.1.symm) hown (hts _ (List.mem_of_getElem? (i := 2) rfl)) (hts _ (List.mem_of_getElem? (i := 3) rfl)) (hts _ (List.mem_of_getElem? (i := 4) rfl)) (hts _ (List.mem_of_getElem? (i := 5) rfl)) (Nat.le_of_ble_eq_true rfl) (Nat.le_of_ble_eq_true rfl) (Nat.zero_le _) (Nat.zero_le _) dX5_gotBy_31 ?_
        obtain ⟨v4, ev4, h⟩ := z_bd h
        refine z_top (Option.some.inj ev4) ?_
        refine lv_istore_n (lv' := [(3, .int v4), (0, .ref (zad F G (100 + 4 * q0))), (1, .int x1), (4, .int x4)]) hx hb dX5_gotBy_34 rfl hl (by decide) rfl (fun ls hl => ?_)
        refine lv_iinc (v := (x4 + 1)) (lv' := [(4, .int ((x4 + 1))), (3, .int v4), (0, .ref (zad F G (100 + 4 * q0))), (1, .int x1)]) hx hb dX5_gotBy_35 hl (k := 3) rfl rfl (by decide) rfl (fun ls hl => ?_)
        refine lv_goto (tgt := 5) hx hb dX5_gotBy_38 (by decide) ?_
        exact ih x1 v4 ((x4 + 1)) h _ _ _ hw hS (lv_sub hl [2, 3, 1, 0] rfl)
def M_X5_gotBy (pk : Nat → Nat) (S : zSt) (q0 : Nat) (x1 : Int32) (x2 : Int32) : Option (Int32) :=
  M_X5_gotBy_B5 pk S q0 zF x1 x2 1
set_option maxHeartbeats 4000000 in
set_option maxRecDepth 100000 in
theorem c_X5_gotBy (l : Launch) (D : va_G) (Y : Nat → ClassId) (F : Nat → Nat) (G : zG) (S : zSt) (sz : Nat) (q0 : Nat) (hq0 : zOKb (zpk G) q0 = true) (x1 : Int32) (x2 : Int32) (res : Int32) (h : M_X5_gotBy (zpk G) S q0 x1 x2 = some res) : Met l yX5_gotBy wsX5_gotBy (zRm 3 64) (zPc D Y F G S sz [.ref (zad F G (100 + 4 * q0)), .int x1, .int x2]) (zQi D Y F (zAo F G sz) G (res, S)) 0 0 (zAo F G sz) := by
  unfold M_X5_gotBy at h
  refine zMet (cc := cX5_gotBy) (maxL := 5) (ret := (some .int)) (own := RX5) (by decide +kernel) rfl rfl (Nat.le_of_ble_eq_true rfl) ?_
  intro p e s m args below meth c C0 hin hw hS ls hl
  have hl : lv_has ls 5 [(0, .ref (zad F G (100 + 4 * q0))), (1, .int x1), (2, .int x2)] := hl
  generalize zAo F G sz = A at C0 hw hS ⊢
  obtain ⟨hx, hb, hml, hr, hown, hts, hK, hA, hlk, hN⟩ := id C0
  refine lv_iload_n hx hb dX5_gotBy_0 rfl (lv_at hl 2 rfl) ?_
  refine lv_istore_n (lv' := [(3, .int x2), (0, .ref (zad F G (100 + 4 * q0))), (1, .int x1), (2, .int x2)]) hx hb dX5_gotBy_1 rfl hl (by decide) rfl (fun ls hl => ?_)
  refine lv_iconst (v := 1) hx hb dX5_gotBy_2 (by decide) ?_
  refine lv_istore (lv' := [(4, .int 1), (3, .int x2), (0, .ref (zad F G (100 + 4 * q0))), (1, .int x1), (2, .int x2)]) hx hb dX5_gotBy_3 hl (by decide) rfl (fun ls hl => ?_)
  exact t_X5_gotBy_B5 C0 S q0 hq0 res zF x1 x2 1 h _ _ _ hw hS (lv_sub hl [2, 3, 1, 0] rfl)
def M_X5_haveDown_B6 (pk : Nat → Nat) (S : zSt) (q0 : Nat) : Nat → Int32 → Int32 → Int32 → Int32 → Int32 → Int32 → Option (Int32)
  | 0, _, _, _, _, _, _ => none
  | n + 1, x1, x3, x4, x5, x6, x7 =>
  (if x3 < x7 then some x6 else (if 6 ≤ x7 then some x6 else Option.bind (M_X5_strengthOf pk S q0 x7 x1) (fun w3 => Option.bind (M_X5_gotBy pk S q0 x7 x4) (fun w4 => (if (w3 + w4) < x5 then M_X5_haveDown_B6 pk S q0 n x1 x3 x4 x5 x6 ((x7 + 1)) else M_X5_haveDown_B6 pk S q0 n x1 x3 x4 x5 ((x6 + 1)) ((x7 + 1)))))))
set_option maxHeartbeats 4000000 in
set_option maxRecDepth 100000 in
theorem t_X5_haveDown_B6 {p : Program} {l : Launch} {e : Env} {s : State} {m : MethodId} {args : Array Value} {below : List Frame} {meth : Method} {c : Code} {D : va_G} {Y : Nat → ClassId} {F : Nat → Nat} {A : Nat → Prop} {G : zG} (C0 : zCx p s m args meth c D Y F A RX5 cX5_haveDown 8 (some .int) wsX5_haveDown) (S : zSt) (q0 : Nat) (hq0 : zOKb (zpk G) q0 = true) (res : Int32) : ∀ (n : Nat), ∀ (x1 : Int32) (x3 : Int32) (x4 : Int32) (x5 : Int32) (x6 : Int32) (x7 : Int32), M_X5_haveDown_B6 (zpk G) S q0 n x1 x3 x4 x5 x6 x7 = some res → ∀ (H : Heap) (locs : List Loc) (ls : Array Slot), zH D Y F A G S H → va_S A s.heap H locs → lv_has ls 8 [(0, .ref (zad F G (100 + 4 * q0))), (1, .int x1), (3, .int x3), (4, .int x4), (5, .int x5), (6, .int x6), (7, .int x7)] → W p l e (zRm 4 88) s m args below meth c H locs 0 0 (MQ below (zQi D Y F A G (res, S)) args s 0 0 A) (F0 m 6 ls []) := by
  obtain ⟨hx, hb, hml, hr, hown, hts, hK, hA, hlk, hN⟩ := id C0
  intro n
  induction n with
  | zero =>
    intro x1 x3 x4 x5 x6 x7 h
    unfold M_X5_haveDown_B6 at h
    cases h
  | succ n ih =>
    intro x1 x3 x4 x5 x6 x7 h H locs ls hw hS hl
    rw [M_X5_haveDown_B6] at h
    refine lv_iload hx hb dX5_haveDown_6 (lv_at hl 6 rfl) ?_
    refine lv_iload_n hx hb dX5_haveDown_8 rfl (lv_at hl 2 rfl) ?_
    refine lv_icmp_gt (tgt := 49) hx hb dX5_haveDown_9 (by decide) (fun c1 => ?_) (fun c1 => ?_)
    · replace h := z_ifp c1 h
      refine lv_iload hx hb dX5_haveDown_49 (lv_at hl 5 rfl) ?_
      exact z_reti C0 hw hS (congrArg (fun z => (z, S)) (Option.some.inj h)) dX5_haveDown_51
    · replace h := z_ifn c1 h
      refine lv_iload hx hb dX5_haveDown_12 (lv_at hl 6 rfl) ?_
      refine lv_bipush (v := 6) hx hb dX5_haveDown_14 (by decide) ?_
      refine lv_icmp_ge (tgt := 49) hx hb dX5_haveDown_16 (by decide) (fun c2 => ?_) (fun c2 => ?_)
      · replace h := z_ifp c2 h
        refine lv_iload hx hb dX5_haveDown_49 (lv_at hl 5 rfl) ?_
        exact z_reti C0 hw hS (congrArg (fun z => (z, S)) (Option.some.inj h)) dX5_haveDown_51
      · replace h := z_ifn c2 h
        refine lv_aload_n hx hb dX5_haveDown_19 rfl (lv_at hl 0 rfl) ?_
        refine lv_iload hx hb dX5_haveDown_20 (lv_at hl 6 rfl) ?_
        refine lv_iload_n hx hb dX5_haveDown_22 rfl (lv_at hl 1 rfl) ?_
        obtain ⟨w3, ew3, h⟩ := z_bd h
        refine z_goi C0 hw hS (res := (w3, S)) (rest := []) (arr := (Value.ref (zad F G (100 + 4 * q0)) :: [.int x7, .int x1]).toArray) ?_ (fun H locs hw hS => ?_)
        · rcases zOK_cases hq0 with zz | zz | zz | zz | zz | zz | zz
          · exact va_runU (z_fix C0) (c_X5_strengthOf l D Y F G S _ q0 hq0 x7 x1 w3 ew3) (va_cwU 2 hts gX5_haveDown_X5_strengthOf_u73X0 rfl rfl rfl rfl (by decide +kernel) ⟨Nat.le_of_ble_eq_true rfl, Nat.le_of_ble_eq_true rfl⟩) ⟨zPc_blind, z_prec C0 hw hq0 (ci := 0) zz rfl, z_give C0 hw hS _⟩ rfl rfl hl.1 rfl (lv_room (Nat.le_of_ble_eq_true rfl)) dX5_haveDown_23 ⟨Nat.zero_le _, Nat.zero_le _⟩
          · exact va_runU (z_fix C0) (c_X5_strengthOf l D Y F G S _ q0 hq0 x7 x1 w3 ew3) (va_cwU 2 hts gX5_haveDown_X5_strengthOf_u73X1 rfl rfl rfl rfl (by decide +kernel) ⟨Nat.le_of_ble_eq_true rfl, Nat.le_of_ble_eq_true rfl⟩) ⟨zPc_blind, z_prec C0 hw hq0 (ci := 1) zz rfl, z_give C0 hw hS _⟩ rfl rfl hl.1 rfl (lv_room (Nat.le_of_ble_eq_true rfl)) dX5_haveDown_23 ⟨Nat.zero_le _, Nat.zero_le _⟩
          · exact va_runU (z_fix C0) (c_X5_strengthOf l D Y F G S _ q0 hq0 x7 x1 w3 ew3) (va_cwU 2 hts gX5_haveDown_X5_strengthOf_u73X2 rfl rfl rfl rfl (by decide +kernel) ⟨Nat.le_of_ble_eq_true rfl, Nat.le_of_ble_eq_true rfl⟩) ⟨zPc_blind, z_prec C0 hw hq0 (ci := 2) zz rfl, z_give C0 hw hS _⟩ rfl rfl hl.1 rfl (lv_room (Nat.le_of_ble_eq_true rfl)) dX5_haveDown_23 ⟨Nat.zero_le _, Nat.zero_le _⟩
          · exact va_runU (z_fix C0) (c_X5_strengthOf l D Y F G S _ q0 hq0 x7 x1 w3 ew3) (va_cwU 2 hts gX5_haveDown_X5_strengthOf_u73X3 rfl rfl rfl rfl (by decide +kernel) ⟨Nat.le_of_ble_eq_true rfl, Nat.le_of_ble_eq_true rfl⟩) ⟨zPc_blind, z_prec C0 hw hq0 (ci := 3) zz rfl, z_give C0 hw hS _⟩ rfl rfl hl.1 rfl (lv_room (Nat.le_of_ble_eq_true rfl)) dX5_haveDown_23 ⟨Nat.zero_le _, Nat.zero_le _⟩
          · exact va_runV (z_fix C0) (c_X5_strengthOf l D Y F G S _ q0 hq0 x7 x1 w3 ew3) (cwV 2 hts gX5_haveDown_X5_strengthOf rfl rfl rfl (by decide +kernel) ⟨Nat.le_of_ble_eq_true rfl, Nat.le_of_ble_eq_true rfl⟩) ⟨zPc_blind, z_prec C0 hw hq0 (ci := 5) zz rfl, z_give C0 hw hS _⟩ rfl rfl hl.1 rfl (lv_room (Nat.le_of_ble_eq_true rfl)) dX5_haveDown_23 ⟨Nat.zero_le _, Nat.zero_le _⟩
          · exact va_runU (z_fix C0) (c_X5_strengthOf l D Y F G S _ q0 hq0 x7 x1 w3 ew3) (va_cwU 2 hts gX5_haveDown_X5_strengthOf_u73X8 rfl rfl rfl rfl (by decide +kernel) ⟨Nat.le_of_ble_eq_true rfl, Nat.le_of_ble_eq_true rfl⟩) ⟨zPc_blind, z_prec C0 hw hq0 (ci := 8) zz rfl, z_give C0 hw hS _⟩ rfl rfl hl.1 rfl (lv_room (Nat.le_of_ble_eq_true rfl)) dX5_haveDown_23 ⟨Nat.zero_le _, Nat.zero_le _⟩
          · exact va_runU (z_fix C0) (c_X5_strengthOf l D Y F G S _ q0 hq0 x7 x1 w3 ew3) (va_cwU 2 hts gX5_haveDown_X5_strengthOf_u73X10 rfl rfl rfl rfl (by decide +kernel) ⟨Nat.le_of_ble_eq_true rfl, Nat.le_of_ble_eq_true rfl⟩) ⟨zPc_blind, z_prec C0 hw hq0 (ci := 10) zz rfl, z_give C0 hw hS _⟩ rfl rfl hl.1 rfl (lv_room (Nat.le_of_ble_eq_true rfl)) dX5_haveDown_23 ⟨Nat.zero_le _, Nat.zero_le _⟩
        refine lv_aload_n hx hb dX5_haveDown_26 rfl (lv_at hl 0 rfl) ?_
        refine lv_iload hx hb dX5_haveDown_27 (lv_at hl 6 rfl) ?_
        refine lv_iload hx hb dX5_haveDown_29 (lv_at hl 3 rfl) ?_
        obtain ⟨w4, ew4, h⟩ := z_bd h
        refine z_goi C0 hw hS (res := (w4, S)) (rest := [.int w3]) (arr := (Value.ref (zad F G (100 + 4 * q0)) :: [.int x7, .int x4]).toArray) ?_ (fun H locs hw hS => ?_)
        · rcases zOK_cases hq0 with zz | zz | zz | zz | zz | zz | zz
          · exact va_runU (z_fix C0) (c_X5_gotBy l D Y F G S _ q0 hq0 x7 x4 w4 ew4) (va_cwU 2 hts gX5_haveDown_X5_gotBy_u88X0 rfl rfl rfl rfl (by decide +kernel) ⟨Nat.le_of_ble_eq_true rfl, Nat.le_of_ble_eq_true rfl⟩) ⟨zPc_blind, z_prec C0 hw hq0 (ci := 0) zz rfl, z_give C0 hw hS _⟩ rfl rfl hl.1 rfl (lv_room (Nat.le_of_ble_eq_true rfl)) dX5_haveDown_31 ⟨Nat.zero_le _, Nat.zero_le _⟩
          · exact va_runU (z_fix C0) (c_X5_gotBy l D Y F G S _ q0 hq0 x7 x4 w4 ew4) (va_cwU 2 hts gX5_haveDown_X5_gotBy_u88X1 rfl rfl rfl rfl (by decide +kernel) ⟨Nat.le_of_ble_eq_true rfl, Nat.le_of_ble_eq_true rfl⟩) ⟨zPc_blind, z_prec C0 hw hq0 (ci := 1) zz rfl, z_give C0 hw hS _⟩ rfl rfl hl.1 rfl (lv_room (Nat.le_of_ble_eq_true rfl)) dX5_haveDown_31 ⟨Nat.zero_le _, Nat.zero_le _⟩
          · exact va_runU (z_fix C0) (c_X5_gotBy l D Y F G S _ q0 hq0 x7 x4 w4 ew4) (va_cwU 2 hts gX5_haveDown_X5_gotBy_u88X2 rfl rfl rfl rfl (by decide +kernel) ⟨Nat.le_of_ble_eq_true rfl, Nat.le_of_ble_eq_true rfl⟩) ⟨zPc_blind, z_prec C0 hw hq0 (ci := 2) zz rfl, z_give C0 hw hS _⟩ rfl rfl hl.1 rfl (lv_room (Nat.le_of_ble_eq_true rfl)) dX5_haveDown_31 ⟨Nat.zero_le _, Nat.zero_le _⟩
          · exact va_runU (z_fix C0) (c_X5_gotBy l D Y F G S _ q0 hq0 x7 x4 w4 ew4) (va_cwU 2 hts gX5_haveDown_X5_gotBy_u88X3 rfl rfl rfl rfl (by decide +kernel) ⟨Nat.le_of_ble_eq_true rfl, Nat.le_of_ble_eq_true rfl⟩) ⟨zPc_blind, z_prec C0 hw hq0 (ci := 3) zz rfl, z_give C0 hw hS _⟩ rfl rfl hl.1 rfl (lv_room (Nat.le_of_ble_eq_true rfl)) dX5_haveDown_31 ⟨Nat.zero_le _, Nat.zero_le _⟩
          · exact va_runV (z_fix C0) (c_X5_gotBy l D Y F G S _ q0 hq0 x7 x4 w4 ew4) (cwV 2 hts gX5_haveDown_X5_gotBy rfl rfl rfl (by decide +kernel) ⟨Nat.le_of_ble_eq_true rfl, Nat.le_of_ble_eq_true rfl⟩) ⟨zPc_blind, z_prec C0 hw hq0 (ci := 5) zz rfl, z_give C0 hw hS _⟩ rfl rfl hl.1 rfl (lv_room (Nat.le_of_ble_eq_true rfl)) dX5_haveDown_31 ⟨Nat.zero_le _, Nat.zero_le _⟩
          · exact va_runU (z_fix C0) (c_X5_gotBy l D Y F G S _ q0 hq0 x7 x4 w4 ew4) (va_cwU 2 hts gX5_haveDown_X5_gotBy_u88X8 rfl rfl rfl rfl (by decide +kernel) ⟨Nat.le_of_ble_eq_true rfl, Nat.le_of_ble_eq_true rfl⟩) ⟨zPc_blind, z_prec C0 hw hq0 (ci := 8) zz rfl, z_give C0 hw hS _⟩ rfl rfl hl.1 rfl (lv_room (Nat.le_of_ble_eq_true rfl)) dX5_haveDown_31 ⟨Nat.zero_le _, Nat.zero_le _⟩
          · exact va_runU (z_fix C0) (c_X5_gotBy l D Y F G S _ q0 hq0 x7 x4 w4 ew4) (va_cwU 2 hts gX5_haveDown_X5_gotBy_u88X10 rfl rfl rfl rfl (by decide +kernel) ⟨Nat.le_of_ble_eq_true rfl, Nat.le_of_ble_eq_true rfl⟩) ⟨zPc_blind, z_prec C0 hw hq0 (ci := 10) zz rfl, z_give C0 hw hS _⟩ rfl rfl hl.1 rfl (lv_room (Nat.le_of_ble_eq_true rfl)) dX5_haveDown_31 ⟨Nat.zero_le _, Nat.zero_le _⟩
        refine lv_iadd hx hb dX5_haveDown_34 ?_
        refine lv_iload hx hb dX5_haveDown_35 (lv_at hl 4 rfl) ?_
        refine lv_icmp_lt (tgt := 43) hx hb dX5_haveDown_37 (by decide) (fun c5 => ?_) (fun c5 => ?_)
        · replace h := z_ifp c5 h
          refine lv_iinc (v := (x7 + 1)) (lv' := [(7, .int ((x7 + 1))), (0, .ref (zad F G (100 + 4 * q0))), (1, .int x1), (3, .int x3), (4, .int x4), (5, .int x5), (6, .int x6)]) hx hb dX5_haveDown_43 hl (k := 6) rfl rfl (by decide) rfl (fun ls hl => ?_)
          refine lv_goto (tgt := 6) hx hb dX5_haveDown_46 (by decide) ?_
          exact ih x1 x3 x4 x5 x6 ((x7 + 1)) h _ _ _ hw hS (lv_sub hl [1, 2, 3, 4, 5, 6, 0] rfl)
        · replace h := z_ifn c5 h
          refine lv_iinc (v := (x6 + 1)) (lv' := [(6, .int ((x6 + 1))), (0, .ref (zad F G (100 + 4 * q0))), (1, .int x1), (3, .int x3), (4, .int x4), (5, .int x5), (7, .int x7)]) hx hb dX5_haveDown_40 hl (k := 5) rfl rfl (by decide) rfl (fun ls hl => ?_)
          refine lv_iinc (v := (x7 + 1)) (lv' := [(7, .int ((x7 + 1))), (6, .int ((x6 + 1))), (0, .ref (zad F G (100 + 4 * q0))), (1, .int x1), (3, .int x3), (4, .int x4), (5, .int x5)]) hx hb dX5_haveDown_43 hl (k := 6) rfl rfl (by decide) rfl (fun ls hl => ?_)
          refine lv_goto (tgt := 6) hx hb dX5_haveDown_46 (by decide) ?_
          exact ih x1 x3 x4 x5 ((x6 + 1)) ((x7 + 1)) h _ _ _ hw hS (lv_sub hl [2, 3, 4, 5, 6, 1, 0] rfl)
def M_X5_haveDown (pk : Nat → Nat) (S : zSt) (q0 : Nat) (x1 : Int32) (x2 : Int32) (x3 : Int32) (x4 : Int32) (x5 : Int32) : Option (Int32) :=
  M_X5_haveDown_B6 pk S q0 zF x1 x3 x4 x5 0 x2
set_option maxHeartbeats 4000000 in
set_option maxRecDepth 100000 in
theorem c_X5_haveDown (l : Launch) (D : va_G) (Y : Nat → ClassId) (F : Nat → Nat) (G : zG) (S : zSt) (sz : Nat) (q0 : Nat) (hq0 : zOKb (zpk G) q0 = true) (x1 : Int32) (x2 : Int32) (x3 : Int32) (x4 : Int32) (x5 : Int32) (res : Int32) (h : M_X5_haveDown (zpk G) S q0 x1 x2 x3 x4 x5 = some res) : Met l yX5_haveDown wsX5_haveDown (zRm 4 88) (zPc D Y F G S sz [.ref (zad F G (100 + 4 * q0)), .int x1, .int x2, .int x3, .int x4, .int x5]) (zQi D Y F (zAo F G sz) G (res, S)) 0 0 (zAo F G sz) := by
  unfold M_X5_haveDown at h
  refine zMet (cc := cX5_haveDown) (maxL := 8) (ret := (some .int)) (own := RX5) (by decide +kernel) rfl rfl (Nat.le_of_ble_eq_true rfl) ?_
  intro p e s m args below meth c C0 hin hw hS ls hl
  have hl : lv_has ls 8 [(0, .ref (zad F G (100 + 4 * q0))), (1, .int x1), (2, .int x2), (3, .int x3), (4, .int x4), (5, .int x5)] := hl
  generalize zAo F G sz = A at C0 hw hS ⊢
  obtain ⟨hx, hb, hml, hr, hown, hts, hK, hA, hlk, hN⟩ := id C0
  refine lv_iconst (v := 0) hx hb dX5_haveDown_0 (by decide) ?_
  refine lv_istore (lv' := [(6, .int 0), (0, .ref (zad F G (100 + 4 * q0))), (1, .int x1), (2, .int x2), (3, .int x3), (4, .int x4), (5, .int x5)]) hx hb dX5_haveDown_1 hl (by decide) rfl (fun ls hl => ?_)
  refine lv_iload_n hx hb dX5_haveDown_3 rfl (lv_at hl 3 rfl) ?_
  refine lv_istore (lv' := [(7, .int x2), (6, .int 0), (0, .ref (zad F G (100 + 4 * q0))), (1, .int x1), (2, .int x2), (3, .int x3), (4, .int x4), (5, .int x5)]) hx hb dX5_haveDown_4 hl (by decide) rfl (fun ls hl => ?_)
  exact t_X5_haveDown_B6 C0 S q0 hq0 res zF x1 x3 x4 x5 0 x2 h _ _ _ hw hS (lv_sub hl [2, 3, 5, 6, 7, 1, 0] rfl)
def M_X1_driftOver (pk : Nat → Nat) (S : zSt) (q0 : Nat) (x1 : Int32) : Option (Int32) :=
  (if x1 < 3 then some ((((zsc S (100 + 4 * q0) 6) * x1) + 0)) else some ((((zsc S (100 + 4 * q0) 6) * x1) + 1)))
set_option maxHeartbeats 4000000 in
set_option maxRecDepth 100000 in
theorem c_X1_driftOver (l : Launch) (D : va_G) (Y : Nat → ClassId) (F : Nat → Nat) (G : zG) (S : zSt) (sz : Nat) (q0 : Nat) (hq0 : zOKb (zpk G) q0 = true) (x1 : Int32) (res : Int32) (h : M_X1_driftOver (zpk G) S q0 x1 = some res) : Met l yX1_driftOver wsX1_driftOver (zRm 0 0) (zPc D Y F G S sz [.ref (zad F G (100 + 4 * q0)), .int x1]) (zQi D Y F (zAo F G sz) G (res, S)) 0 0 (zAo F G sz) := by
  unfold M_X1_driftOver at h
  refine zMet (cc := cX1_driftOver) (maxL := 2) (ret := (some .int)) (own := RX1) (by decide +kernel) rfl rfl (Nat.le_of_ble_eq_true rfl) ?_
  intro p e s m args below meth c C0 hin hw hS ls hl
  have hl : lv_has ls 2 [(0, .ref (zad F G (100 + 4 * q0))), (1, .int x1)] := hl
  generalize zAo F G sz = A at C0 hw hS ⊢
  obtain ⟨hx, hb, hml, hr, hown, hts, hK, hA, hlk, hN⟩ := id C0
  refine lv_aload_n hx hb dX1_driftOver_0 rfl (lv_at hl 0 rfl) ?_
  refine z_getP C0 inP_X1_driftOver hw hq0 6 (by decide) (v := .int ((zsc S (100 + 4 * q0) 6))) rfl 1 rfl (Or.inr ⟨2, rfl⟩) dX1_driftOver_1 ?_
  refine lv_iload_n hx hb dX1_driftOver_4 rfl (lv_at hl 1 rfl) ?_
  refine lv_imul hx hb dX1_driftOver_5 ?_
  refine lv_iload_n hx hb dX1_driftOver_6 rfl (lv_at hl 1 rfl) ?_
  refine lv_iconst (v := 3) hx hb dX1_driftOver_7 (by decide) ?_
  refine lv_icmp_lt (tgt := 15) hx hb dX1_driftOver_8 (by decide) (fun c1 => ?_) (fun c1 => ?_)
  · replace h := z_ifp c1 h
    refine lv_iconst (v := 0) hx hb dX1_driftOver_15 (by decide) ?_
    refine lv_iadd hx hb dX1_driftOver_16 ?_
    exact z_reti C0 hw hS (congrArg (fun z => (z, S)) (Option.some.inj h)) dX1_driftOver_17
  · replace h := z_ifn c1 h
    refine lv_iconst (v := 1) hx hb dX1_driftOver_11 (by decide) ?_
    refine lv_goto (tgt := 16) hx hb dX1_driftOver_12 (by decide) ?_
    refine lv_iadd hx hb dX1_driftOver_16 ?_
    exact z_reti C0 hw hS (congrArg (fun z => (z, S)) (Option.some.inj h)) dX1_driftOver_17
def V_driftOver (pk : Nat → Nat) (S : zSt) (q : Nat) (x1 : Int32) : Option (Int32) :=
  if pk q = 1 then M_X5_driftOver pk S q x1 else if pk q = 2 then M_X1_driftOver pk S q x1 else if pk q = 3 then M_X5_driftOver pk S q x1 else if pk q = 4 then M_X5_driftOver pk S q x1 else if pk q = 6 then M_X5_driftOver pk S q x1 else if pk q = 9 then M_X5_driftOver pk S q x1 else if pk q = 11 then M_X5_driftOver pk S q x1 else none
theorem V_driftOver_X0 {pk : Nat → Nat} {S : zSt} {q : Nat} {x1 : Int32} {w : Int32} (hp : pk q = 1) (hv : V_driftOver pk S q x1 = some w) : M_X5_driftOver pk S q x1 = some w := by
  unfold V_driftOver at hv
  rw [if_pos hp] at hv
  exact hv
theorem V_driftOver_X1 {pk : Nat → Nat} {S : zSt} {q : Nat} {x1 : Int32} {w : Int32} (hp : pk q = 2) (hv : V_driftOver pk S q x1 = some w) : M_X1_driftOver pk S q x1 = some w := by
  unfold V_driftOver at hv
  rw [if_neg (show ¬ (pk q = 1) by omega)] at hv
  rw [if_pos hp] at hv
  exact hv
theorem V_driftOver_X2 {pk : Nat → Nat} {S : zSt} {q : Nat} {x1 : Int32} {w : Int32} (hp : pk q = 3) (hv : V_driftOver pk S q x1 = some w) : M_X5_driftOver pk S q x1 = some w := by
  unfold V_driftOver at hv
  rw [if_neg (show ¬ (pk q = 1) by omega)] at hv
  rw [if_neg (show ¬ (pk q = 2) by omega)] at hv
  rw [if_pos hp] at hv
  exact hv
theorem V_driftOver_X3 {pk : Nat → Nat} {S : zSt} {q : Nat} {x1 : Int32} {w : Int32} (hp : pk q = 4) (hv : V_driftOver pk S q x1 = some w) : M_X5_driftOver pk S q x1 = some w := by
  unfold V_driftOver at hv
  rw [if_neg (show ¬ (pk q = 1) by omega)] at hv
  rw [if_neg (show ¬ (pk q = 2) by omega)] at hv
  rw [if_neg (show ¬ (pk q = 3) by omega)] at hv
  rw [if_pos hp] at hv
  exact hv
theorem V_driftOver_X5 {pk : Nat → Nat} {S : zSt} {q : Nat} {x1 : Int32} {w : Int32} (hp : pk q = 6) (hv : V_driftOver pk S q x1 = some w) : M_X5_driftOver pk S q x1 = some w := by
  unfold V_driftOver at hv
  rw [if_neg (show ¬ (pk q = 1) by omega)] at hv
  rw [if_neg (show ¬ (pk q = 2) by omega)] at hv
  rw [if_neg (show ¬ (pk q = 3) by omega)] at hv
  rw [if_neg (show ¬ (pk q = 4) by omega)] at hv
  rw [if_pos hp] at hv
  exact hv
theorem V_driftOver_X8 {pk : Nat → Nat} {S : zSt} {q : Nat} {x1 : Int32} {w : Int32} (hp : pk q = 9) (hv : V_driftOver pk S q x1 = some w) : M_X5_driftOver pk S q x1 = some w := by
  unfold V_driftOver at hv
  rw [if_neg (show ¬ (pk q = 1) by omega)] at hv
  rw [if_neg (show ¬ (pk q = 2) by omega)] at hv
  rw [if_neg (show ¬ (pk q = 3) by omega)] at hv
  rw [if_neg (show ¬ (pk q = 4) by omega)] at hv
  rw [if_neg (show ¬ (pk q = 6) by omega)] at hv
  rw [if_pos hp] at hv
  exact hv
theorem V_driftOver_X10 {pk : Nat → Nat} {S : zSt} {q : Nat} {x1 : Int32} {w : Int32} (hp : pk q = 11) (hv : V_driftOver pk S q x1 = some w) : M_X5_driftOver pk S q x1 = some w := by
  unfold V_driftOver at hv
  rw [if_neg (show ¬ (pk q = 1) by omega)] at hv
  rw [if_neg (show ¬ (pk q = 2) by omega)] at hv
  rw [if_neg (show ¬ (pk q = 3) by omega)] at hv
  rw [if_neg (show ¬ (pk q = 4) by omega)] at hv
  rw [if_neg (show ¬ (pk q = 6) by omega)] at hv
  rw [if_neg (show ¬ (pk q = 9) by omega)] at hv
  rw [if_pos hp] at hv
  exact hv
def M_X5_pressWith_B12 (pk : Nat → Nat) (q0 : Nat) : Nat → zSt → Int32 → Int32 → Int32 → Int32 → Option (Int32 × zSt)
  | 0, _, _, _, _, _ => none
  | n + 1, S, x1, x2, x3, x4 =>
  (if 6 ≤ x4 then some (x3, S) else Option.bind (M_X11_isDeed pk S x1) (fun w3 => (if w3 = 0 then some (x3, S) else Option.bind (M_X5_gotBy pk S q0 x4 x2) (fun w5 => (if w5 ≤ 0 then M_X5_pressWith_B12 pk q0 n S x1 x2 x3 ((x4 + 1)) else zg (zin (((x4 * 8) + x1)) 48) (zg (zin (((x4 * 8) + x1)) 48) (zg (zin x4 6) (Option.bind (V_driftOver pk ((zAs S ((100 + 4 * q0 + 1)) (Int32.toNatClampNeg (((x4 * 8) + x1))) ((if ((zar S ((100 + 4 * q0 + 1)) (Int32.toNatClampNeg (((x4 * 8) + x1)))) + w5) < (99 : Int32) then ((zar S ((100 + 4 * q0 + 1)) (Int32.toNatClampNeg (((x4 * 8) + x1)))) + w5) else (99 : Int32))))) q0 ((x4 - (zsc ((zAs S ((100 + 4 * q0 + 1)) (Int32.toNatClampNeg (((x4 * 8) + x1))) ((if ((zar S ((100 + 4 * q0 + 1)) (Int32.toNatClampNeg (((x4 * 8) + x1)))) + w5) < (99 : Int32) then ((zar S ((100 + 4 * q0 + 1)) (Int32.toNatClampNeg (((x4 * 8) + x1)))) + w5) else (99 : Int32))))) (100 + 4 * q0) 8)))) (fun w10 => Option.bind (some (((zar ((zAs S ((100 + 4 * q0 + 1)) (Int32.toNatClampNeg (((x4 * 8) + x1))) ((if ((zar S ((100 + 4 * q0 + 1)) (Int32.toNatClampNeg (((x4 * 8) + x1)))) + w5) < (99 : Int32) then ((zar S ((100 + 4 * q0 + 1)) (Int32.toNatClampNeg (((x4 * 8) + x1)))) + w5) else (99 : Int32))))) ((100 + 4 * q0 + 3)) (Int32.toNatClampNeg x4)) + w10))) (fun v11 => zg (zin x4 6) (M_X5_pressWith_B12 pk q0 n ((zAs ((zAs S ((100 + 4 * q0 + 1)) (Int32.toNatClampNeg (((x4 * 8) + x1))) ((if ((zar S ((100 + 4 * q0 + 1)) (Int32.toNatClampNeg (((x4 * 8) + x1)))) + w5) < (99 : Int32) then ((zar S ((100 + 4 * q0 + 1)) (Int32.toNatClampNeg (((x4 * 8) + x1)))) + w5) else (99 : Int32))))) ((100 + 4 * q0 + 3)) (Int32.toNatClampNeg x4) ((if ((-999) : Int32) < (if v11 < (999 : Int32) then v11 else (999 : Int32)) then (if v11 < (999 : Int32) then v11 else (999 : Int32)) else ((-999) : Int32))))) x1 x2 ((x3 + 1)) ((x4 + 1)))))))))))))
set_option maxHeartbeats 4000000 in
set_option maxRecDepth 100000 in
theorem t_X5_pressWith_B12 {p : Program} {l : Launch} {e : Env} {s : State} {m : MethodId} {args : Array Value} {below : List Frame} {meth : Method} {c : Code} {D : va_G} {Y : Nat → ClassId} {F : Nat → Nat} {A : Nat → Prop} {G : zG} (C0 : zCx p s m args meth c D Y F A RX5 cX5_pressWith 8 (some .int) wsX5_pressWith) (q0 : Nat) (hq0 : zOKb (zpk G) q0 = true) (res : Int32 × zSt) : ∀ (n : Nat), ∀ (S : zSt) (x1 : Int32) (x2 : Int32) (x3 : Int32) (x4 : Int32), M_X5_pressWith_B12 (zpk G) q0 n S x1 x2 x3 x4 = some res → ∀ (H : Heap) (locs : List Loc) (ls : Array Slot), zH D Y F A G S H → va_S A s.heap H locs → lv_has ls 8 [(0, .ref (zad F G (100 + 4 * q0))), (1, .int x1), (2, .int x2), (3, .int x3), (4, .int x4)] → W p l e (zRm 4 88) s m args below meth c H locs 0 0 (MQ below (zQi D Y F A G res) args s 0 0 A) (F0 m 12 ls []) := by
  obtain ⟨hx, hb, hml, hr, hown, hts, hK, hA, hlk, hN⟩ := id C0
  intro n
  induction n with
  | zero =>
    intro S x1 x2 x3 x4 h
    unfold M_X5_pressWith_B12 at h
    cases h
  | succ n ih =>
    intro S x1 x2 x3 x4 h H locs ls hw hS hl
    rw [M_X5_pressWith_B12] at h
    refine lv_iload hx hb dX5_pressWith_12 (lv_at hl 4 rfl) ?_
    refine lv_bipush (v := 6) hx hb dX5_pressWith_14 (by decide) ?_
    refine lv_icmp_ge (tgt := 122) hx hb dX5_pressWith_16 (by decide) (fun c2 => ?_) (fun c2 => ?_)
    · replace h := z_ifp c2 h
      refine lv_iload_n hx hb dX5_pressWith_122 rfl (lv_at hl 3 rfl) ?_
      exact z_reti C0 hw hS (Option.some.inj h) dX5_pressWith_123
    · replace h := z_ifn c2 h
      refine lv_iload_n hx hb dX5_pressWith_19 rfl (lv_at hl 1 rfl) ?_
      obtain ⟨w3, ew3, h⟩ := z_bd h
      refine z_goi C0 hw hS (res := (w3, S)) (rest := []) (arr := ([.int x1] : List Value).toArray) ?_ (fun H locs hw hS => ?_)
      · exact va_runSN (z_fix C0) (c_X11_isDeed l D Y F G S _ x1 w3 ew3) ⟨va_cnB 1 hts gX5_pressWith_X11_isDeed_n70 rfl rfl rfl (hN.1 _ (List.mem_of_getElem? (i := 1) rfl)) (hts _ (List.mem_of_getElem? (i := 12) rfl)) (by decide +kernel) ⟨Nat.le_of_ble_eq_true rfl, Nat.le_of_ble_eq_true rfl⟩, hts _ (List.mem_of_getElem? (i := 11) rfl), trivial⟩ ⟨zPc_blind, z_give C0 hw hS _⟩ rfl rfl hl.1 rfl (lv_room (Nat.le_of_ble_eq_true rfl)) dX5_pressWith_20 ⟨Nat.zero_le _, Nat.zero_le _⟩
      refine lv_if_eq (tgt := 122) hx hb dX5_pressWith_23 (by decide) (fun c4 => ?_) (fun c4 => ?_)
      · replace h := z_ifp c4 h
        refine lv_iload_n hx hb dX5_pressWith_122 rfl (lv_at hl 3 rfl) ?_
        exact z_reti C0 hw hS (Option.some.inj h) dX5_pressWith_123
      · replace h := z_ifn c4 h
        refine lv_aload_n hx hb dX5_pressWith_26 rfl (lv_at hl 0 rfl) ?_
        refine lv_iload hx hb dX5_pressWith_27 (lv_at hl 4 rfl) ?_
        refine lv_iload_n hx hb dX5_pressWith_29 rfl (lv_at hl 2 rfl) ?_
        obtain ⟨w5, ew5, h⟩ := z_bd h
        refine z_goi C0 hw hS (res := (w5, S)) (rest := []) (arr := (Value.ref (zad F G (100 + 4 * q0)) :: [.int x4, .int x2]).toArray) ?_ (fun H locs hw hS => ?_)
        · rcases zOK_cases hq0 with zz | zz | zz | zz | zz | zz | zz
          · exact va_runU (z_fix C0) (c_X5_gotBy l D Y F G S _ q0 hq0 x4 x2 w5 ew5) (va_cwU 2 hts gX5_pressWith_X5_gotBy_u88X0 rfl rfl rfl rfl (by decide +kernel) ⟨Nat.le_of_ble_eq_true rfl, Nat.le_of_ble_eq_true rfl⟩) ⟨zPc_blind, z_prec C0 hw hq0 (ci := 0) zz rfl, z_give C0 hw hS _⟩ rfl rfl hl.1 rfl (lv_room (Nat.le_of_ble_eq_true rfl)) dX5_pressWith_30 ⟨Nat.zero_le _, Nat.zero_le _⟩
          · exact va_runU (z_fix C0) (c_X5_gotBy l D Y F G S _ q0 hq0 x4 x2 w5 ew5) (va_cwU 2 hts gX5_pressWith_X5_gotBy_u88X1 rfl rfl rfl rfl (by decide +kernel) ⟨Nat.le_of_ble_eq_true rfl, Nat.le_of_ble_eq_true rfl⟩) ⟨zPc_blind, z_prec C0 hw hq0 (ci := 1) zz rfl, z_give C0 hw hS _⟩ rfl rfl hl.1 rfl (lv_room (Nat.le_of_ble_eq_true rfl)) dX5_pressWith_30 ⟨Nat.zero_le _, Nat.zero_le _⟩
          · exact va_runU (z_fix C0) (c_X5_gotBy l D Y F G S _ q0 hq0 x4 x2 w5 ew5) (va_cwU 2 hts gX5_pressWith_X5_gotBy_u88X2 rfl rfl rfl rfl (by decide +kernel) ⟨Nat.le_of_ble_eq_true rfl, Nat.le_of_ble_eq_true rfl⟩) ⟨zPc_blind, z_prec C0 hw hq0 (ci := 2) zz rfl, z_give C0 hw hS _⟩ rfl rfl hl.1 rfl (lv_room (Nat.le_of_ble_eq_true rfl)) dX5_pressWith_30 ⟨Nat.zero_le _, Nat.zero_le _⟩
          · exact va_runU (z_fix C0) (c_X5_gotBy l D Y F G S _ q0 hq0 x4 x2 w5 ew5) (va_cwU 2 hts gX5_pressWith_X5_gotBy_u88X3 rfl rfl rfl rfl (by decide +kernel) ⟨Nat.le_of_ble_eq_true rfl, Nat.le_of_ble_eq_true rfl⟩) ⟨zPc_blind, z_prec C0 hw hq0 (ci := 3) zz rfl, z_give C0 hw hS _⟩ rfl rfl hl.1 rfl (lv_room (Nat.le_of_ble_eq_true rfl)) dX5_pressWith_30 ⟨Nat.zero_le _, Nat.zero_le _⟩
          · exact va_runV (z_fix C0) (c_X5_gotBy l D Y F G S _ q0 hq0 x4 x2 w5 ew5) (cwV 2 hts gX5_pressWith_X5_gotBy rfl rfl rfl (by decide +kernel) ⟨Nat.le_of_ble_eq_true rfl, Nat.le_of_ble_eq_true rfl⟩) ⟨zPc_blind, z_prec C0 hw hq0 (ci := 5) zz rfl, z_give C0 hw hS _⟩ rfl rfl hl.1 rfl (lv_room (Nat.le_of_ble_eq_true rfl)) dX5_pressWith_30 ⟨Nat.zero_le _, Nat.zero_le _⟩
          · exact va_runU (z_fix C0) (c_X5_gotBy l D Y F G S _ q0 hq0 x4 x2 w5 ew5) (va_cwU 2 hts gX5_pressWith_X5_gotBy_u88X8 rfl rfl rfl rfl (by decide +kernel) ⟨Nat.le_of_ble_eq_true rfl, Nat.le_of_ble_eq_true rfl⟩) ⟨zPc_blind, z_prec C0 hw hq0 (ci := 8) zz rfl, z_give C0 hw hS _⟩ rfl rfl hl.1 rfl (lv_room (Nat.le_of_ble_eq_true rfl)) dX5_pressWith_30 ⟨Nat.zero_le _, Nat.zero_le _⟩
          · exact va_runU (z_fix C0) (c_X5_gotBy l D Y F G S _ q0 hq0 x4 x2 w5 ew5) (va_cwU 2 hts gX5_pressWith_X5_gotBy_u88X10 rfl rfl rfl rfl (by decide +kernel) ⟨Nat.le_of_ble_eq_true rfl, Nat.le_of_ble_eq_true rfl⟩) ⟨zPc_blind, z_prec C0 hw hq0 (ci := 10) zz rfl, z_give C0 hw hS _⟩ rfl rfl hl.1 rfl (lv_room (Nat.le_of_ble_eq_true rfl)) dX5_pressWith_30 ⟨Nat.zero_le _, Nat.zero_le _⟩
        refine lv_istore (lv' := [(5, .int w5), (0, .ref (zad F G (100 + 4 * q0))), (1, .int x1), (2, .int x2), (3, .int x3), (4, .int x4)]) hx hb dX5_pressWith_33 hl (by decide) rfl (fun ls hl => ?_)
        refine lv_iload hx hb dX5_pressWith_35 (lv_at hl 0 rfl) ?_
        refine lv_if_le (tgt := 116) hx hb dX5_pressWith_37 (by decide) (fun c6 => ?_) (fun c6 => ?_)
        · replace h := z_ifp c6 h
          refine lv_iinc (v := (x4 + 1)) (lv' := [(4, .int ((x4 + 1))), (5, .int w5), (0, .ref (zad F G (100 + 4 * q0))), (1, .int x1), (2, .int x2), (3, .int x3)]) hx hb dX5_pressWith_116 hl (k := 5) rfl rfl (by decide) rfl (fun ls hl => ?_)
          refine lv_goto (tgt := 12) hx hb dX5_pressWith_119 (by decide) ?_
          exact ih S x1 x2 x3 ((x4 + 1)) h _ _ _ hw hS (lv_sub hl [2, 3, 4, 5, 0] rfl)
        · replace h := z_ifn c6 h
          refine lv_iload hx hb dX5_pressWith_40 (lv_at hl 5 rfl) ?_
          refine lv_bipush (v := 8) hx hb dX5_pressWith_42 (by decide) ?_
          refine lv_imul hx hb dX5_pressWith_44 ?_
          refine lv_iload_n hx hb dX5_pressWith_45 rfl (lv_at hl 2 rfl) ?_
          refine lv_iadd hx hb dX5_pressWith_46 ?_
          refine lv_istore (lv' := [(6, .int (((x4 * 8) + x1))), (5, .int w5), (0, .ref (zad F G (100 + 4 * q0))), (1, .int x1), (2, .int x2), (3, .int x3), (4, .int x4)]) hx hb dX5_pressWith_47 hl (by decide) rfl (fun ls hl => ?_)
          refine lv_aload_n hx hb dX5_pressWith_49 rfl (lv_at hl 2 rfl) ?_
          refine z_getP C0 inP_X5_pressWith hw hq0 3 (by decide) (v := .ref (zad F G (100 + 4 * q0 + 1))) rfl 6 rfl (Or.inl rfl) dX5_pressWith_50 ?_
          refine lv_iload hx hb dX5_pressWith_53 (lv_at hl 0 rfl) ?_
          refine lv_bipush (v := 99) hx hb dX5_pressWith_55 (by decide) ?_
          refine lv_aload_n hx hb dX5_pressWith_57 rfl (lv_at hl 2 rfl) ?_
          refine z_getP C0 inP_X5_pressWith hw hq0 3 (by decide) (v := .ref (zad F G (100 + 4 * q0 + 1))) rfl 6 rfl (Or.inl rfl) dX5_pressWith_58 ?_
          refine lv_iload hx hb dX5_pressWith_61 (lv_at hl 0 rfl) ?_
          obtain ⟨b7, h⟩ := z_gd h
          refine z_iald C0 hw ((100 + 4 * q0 + 1)) (zOK_E hq0 1 (by decide)) rfl (zPR1 q0) (zin_in b7) dX5_pressWith_63 ?_
          refine lv_iload hx hb dX5_pressWith_64 (lv_at hl 1 rfl) ?_
          refine lv_iadd hx hb dX5_pressWith_66 ?_
          refine va_mmin hx hb (hml.trans hl.1.symm) hown (hts _ (List.mem_of_getElem? (i := 7) rfl)) (hts _ (List.mem_of_getElem? (i := 8) rfl)) (hts _ (List.mem_of_getElem? (i := 4) rfl)) (hts _ (List.mem_of_getElem? (i := 9) rfl)) (Nat.le_of_ble_eq_true rfl) (Nat.le_of_ble_eq_true rfl) (Nat.zero_le _) (Nat.zero_le _) dX5_pressWith_67 ?_
          obtain ⟨b8, h⟩ := z_gd h
          refine z_iasts C0 hw hS ((100 + 4 * q0 + 1)) (zOK_E hq0 1 (by decide)) rfl (zPR1 q0) (zin_in b8) dX5_pressWith_70 (fun H locs hw hS => ?_)
          refine lv_aload_n hx hb dX5_pressWith_71 rfl (lv_at hl 2 rfl) ?_
          refine z_getP C0 inP_X5_pressWith hw hq0 5 (by decide) (v := .ref (zad F G (100 + 4 * q0 + 3))) rfl 10 rfl (Or.inl rfl) dX5_pressWith_72 ?_
          refine lv_iload hx hb dX5_pressWith_75 (lv_at hl 6 rfl) ?_
          obtain ⟨b9, h⟩ := z_gd h
          refine z_iald C0 hw ((100 + 4 * q0 + 3)) (zOK_E hq0 3 (by decide)) rfl (zPR3 q0) (zin_in b9) dX5_pressWith_77 ?_
          refine lv_aload_n hx hb dX5_pressWith_78 rfl (lv_at hl 2 rfl) ?_
          refine lv_iload hx hb dX5_pressWith_79 (lv_at hl 6 rfl) ?_
          refine lv_aload_n hx hb dX5_pressWith_81 rfl (lv_at hl 2 rfl) ?_
          refine z_getP C0 inP_X5_pressWith hw hq0 8 (by decide) (v := .int ((zsc ((zAs S ((100 + 4 * q0 + 1)) (Int32.toNatClampNeg (((x4 * 8) + x1))) ((if ((zar S ((100 + 4 * q0 + 1)) (Int32.toNatClampNeg (((x4 * 8) + x1)))) + w5) < (99 : Int32) then ((zar S ((100 + 4 * q0 + 1)) (Int32.toNatClampNeg (((x4 * 8) + x1)))) + w5) else (99 : Int32))))) (100 + 4 * q0) 8))) rfl 1 rfl (Or.inl rfl) dX5_pressWith_82 ?_
          refine lv_isub hx hb dX5_pressWith_85 ?_
          obtain ⟨w10, ew10, h⟩ := z_bd h
          refine z_goi C0 hw hS (res := (w10, ((zAs S ((100 + 4 * q0 + 1)) (Int32.toNatClampNeg (((x4 * 8) + x1))) ((if ((zar S ((100 + 4 * q0 + 1)) (Int32.toNatClampNeg (((x4 * 8) + x1)))) + w5) < (99 : Int32) then ((zar S ((100 + 4 * q0 + 1)) (Int32.toNatClampNeg (((x4 * 8) + x1)))) + w5) else (99 : Int32))))))) (rest := [.int ((zar ((zAs S ((100 + 4 * q0 + 1)) (Int32.toNatClampNeg (((x4 * 8) + x1))) ((if ((zar S ((100 + 4 * q0 + 1)) (Int32.toNatClampNeg (((x4 * 8) + x1)))) + w5) < (99 : Int32) then ((zar S ((100 + 4 * q0 + 1)) (Int32.toNatClampNeg (((x4 * 8) + x1)))) + w5) else (99 : Int32))))) ((100 + 4 * q0 + 3)) (Int32.toNatClampNeg x4)))]) (arr := (Value.ref (zad F G (100 + 4 * q0)) :: [.int ((x4 - (zsc ((zAs S ((100 + 4 * q0 + 1)) (Int32.toNatClampNeg (((x4 * 8) + x1))) ((if ((zar S ((100 + 4 * q0 + 1)) (Int32.toNatClampNeg (((x4 * 8) + x1)))) + w5) < (99 : Int32) then ((zar S ((100 + 4 * q0 + 1)) (Int32.toNatClampNeg (((x4 * 8) + x1)))) + w5) else (99 : Int32))))) (100 + 4 * q0) 8)))]).toArray) ?_ (fun H locs hw hS => ?_)
          · rcases zOK_cases hq0 with zz | zz | zz | zz | zz | zz | zz
            · exact va_runU (z_fix C0) (c_X5_driftOver l D Y F G ((zAs S ((100 + 4 * q0 + 1)) (Int32.toNatClampNeg (((x4 * 8) + x1))) ((if ((zar S ((100 + 4 * q0 + 1)) (Int32.toNatClampNeg (((x4 * 8) + x1)))) + w5) < (99 : Int32) then ((zar S ((100 + 4 * q0 + 1)) (Int32.toNatClampNeg (((x4 * 8) + x1)))) + w5) else (99 : Int32))))) _ q0 hq0 ((x4 - (zsc ((zAs S ((100 + 4 * q0 + 1)) (Int32.toNatClampNeg (((x4 * 8) + x1))) ((if ((zar S ((100 + 4 * q0 + 1)) (Int32.toNatClampNeg (((x4 * 8) + x1)))) + w5) < (99 : Int32) then ((zar S ((100 + 4 * q0 + 1)) (Int32.toNatClampNeg (((x4 * 8) + x1)))) + w5) else (99 : Int32))))) (100 + 4 * q0) 8))) w10 (V_driftOver_X0 zz ew10)) (va_cwU 1 hts gX5_pressWith_X5_driftOver_u94X0 rfl rfl rfl rfl (by decide +kernel) ⟨Nat.le_of_ble_eq_true rfl, Nat.le_of_ble_eq_true rfl⟩) ⟨zPc_blind, z_prec C0 hw hq0 (ci := 0) zz rfl, z_give C0 hw hS _⟩ rfl rfl hl.1 rfl (lv_room (Nat.le_of_ble_eq_true rfl)) dX5_pressWith_86 ⟨Nat.zero_le _, Nat.zero_le _⟩
            · exact va_runU (z_fix C0) (c_X1_driftOver l D Y F G ((zAs S ((100 + 4 * q0 + 1)) (Int32.toNatClampNeg (((x4 * 8) + x1))) ((if ((zar S ((100 + 4 * q0 + 1)) (Int32.toNatClampNeg (((x4 * 8) + x1)))) + w5) < (99 : Int32) then ((zar S ((100 + 4 * q0 + 1)) (Int32.toNatClampNeg (((x4 * 8) + x1)))) + w5) else (99 : Int32))))) _ q0 hq0 ((x4 - (zsc ((zAs S ((100 + 4 * q0 + 1)) (Int32.toNatClampNeg (((x4 * 8) + x1))) ((if ((zar S ((100 + 4 * q0 + 1)) (Int32.toNatClampNeg (((x4 * 8) + x1)))) + w5) < (99 : Int32) then ((zar S ((100 + 4 * q0 + 1)) (Int32.toNatClampNeg (((x4 * 8) + x1)))) + w5) else (99 : Int32))))) (100 + 4 * q0) 8))) w10 (V_driftOver_X1 zz ew10)) (va_cwO 1 hts gX5_pressWith_X1_driftOver_u94X1 rfl rfl rfl (List.mem_of_getElem? (i := 82) rfl) (by decide +kernel) ⟨Nat.le_of_ble_eq_true rfl, Nat.le_of_ble_eq_true rfl⟩) ⟨zPc_blind, z_prec C0 hw hq0 (ci := 1) zz rfl, z_give C0 hw hS _⟩ rfl rfl hl.1 rfl (lv_room (Nat.le_of_ble_eq_true rfl)) dX5_pressWith_86 ⟨Nat.zero_le _, Nat.zero_le _⟩
            · exact va_runU (z_fix C0) (c_X5_driftOver l D Y F G ((zAs S ((100 + 4 * q0 + 1)) (Int32.toNatClampNeg (((x4 * 8) + x1))) ((if ((zar S ((100 + 4 * q0 + 1)) (Int32.toNatClampNeg (((x4 * 8) + x1)))) + w5) < (99 : Int32) then ((zar S ((100 + 4 * q0 + 1)) (Int32.toNatClampNeg (((x4 * 8) + x1)))) + w5) else (99 : Int32))))) _ q0 hq0 ((x4 - (zsc ((zAs S ((100 + 4 * q0 + 1)) (Int32.toNatClampNeg (((x4 * 8) + x1))) ((if ((zar S ((100 + 4 * q0 + 1)) (Int32.toNatClampNeg (((x4 * 8) + x1)))) + w5) < (99 : Int32) then ((zar S ((100 + 4 * q0 + 1)) (Int32.toNatClampNeg (((x4 * 8) + x1)))) + w5) else (99 : Int32))))) (100 + 4 * q0) 8))) w10 (V_driftOver_X2 zz ew10)) (va_cwU 1 hts gX5_pressWith_X5_driftOver_u94X2 rfl rfl rfl rfl (by decide +kernel) ⟨Nat.le_of_ble_eq_true rfl, Nat.le_of_ble_eq_true rfl⟩) ⟨zPc_blind, z_prec C0 hw hq0 (ci := 2) zz rfl, z_give C0 hw hS _⟩ rfl rfl hl.1 rfl (lv_room (Nat.le_of_ble_eq_true rfl)) dX5_pressWith_86 ⟨Nat.zero_le _, Nat.zero_le _⟩
            · exact va_runU (z_fix C0) (c_X5_driftOver l D Y F G ((zAs S ((100 + 4 * q0 + 1)) (Int32.toNatClampNeg (((x4 * 8) + x1))) ((if ((zar S ((100 + 4 * q0 + 1)) (Int32.toNatClampNeg (((x4 * 8) + x1)))) + w5) < (99 : Int32) then ((zar S ((100 + 4 * q0 + 1)) (Int32.toNatClampNeg (((x4 * 8) + x1)))) + w5) else (99 : Int32))))) _ q0 hq0 ((x4 - (zsc ((zAs S ((100 + 4 * q0 + 1)) (Int32.toNatClampNeg (((x4 * 8) + x1))) ((if ((zar S ((100 + 4 * q0 + 1)) (Int32.toNatClampNeg (((x4 * 8) + x1)))) + w5) < (99 : Int32) then ((zar S ((100 + 4 * q0 + 1)) (Int32.toNatClampNeg (((x4 * 8) + x1)))) + w5) else (99 : Int32))))) (100 + 4 * q0) 8))) w10 (V_driftOver_X3 zz ew10)) (va_cwU 1 hts gX5_pressWith_X5_driftOver_u94X3 rfl rfl rfl rfl (by decide +kernel) ⟨Nat.le_of_ble_eq_true rfl, Nat.le_of_ble_eq_true rfl⟩) ⟨zPc_blind, z_prec C0 hw hq0 (ci := 3) zz rfl, z_give C0 hw hS _⟩ rfl rfl hl.1 rfl (lv_room (Nat.le_of_ble_eq_true rfl)) dX5_pressWith_86 ⟨Nat.zero_le _, Nat.zero_le _⟩
            · exact va_runV (z_fix C0) (c_X5_driftOver l D Y F G ((zAs S ((100 + 4 * q0 + 1)) (Int32.toNatClampNeg (((x4 * 8) + x1))) ((if ((zar S ((100 + 4 * q0 + 1)) (Int32.toNatClampNeg (((x4 * 8) + x1)))) + w5) < (99 : Int32) then ((zar S ((100 + 4 * q0 + 1)) (Int32.toNatClampNeg (((x4 * 8) + x1)))) + w5) else (99 : Int32))))) _ q0 hq0 ((x4 - (zsc ((zAs S ((100 + 4 * q0 + 1)) (Int32.toNatClampNeg (((x4 * 8) + x1))) ((if ((zar S ((100 + 4 * q0 + 1)) (Int32.toNatClampNeg (((x4 * 8) + x1)))) + w5) < (99 : Int32) then ((zar S ((100 + 4 * q0 + 1)) (Int32.toNatClampNeg (((x4 * 8) + x1)))) + w5) else (99 : Int32))))) (100 + 4 * q0) 8))) w10 (V_driftOver_X5 zz ew10)) (cwV 1 hts gX5_pressWith_X5_driftOver rfl rfl rfl (by decide +kernel) ⟨Nat.le_of_ble_eq_true rfl, Nat.le_of_ble_eq_true rfl⟩) ⟨zPc_blind, z_prec C0 hw hq0 (ci := 5) zz rfl, z_give C0 hw hS _⟩ rfl rfl hl.1 rfl (lv_room (Nat.le_of_ble_eq_true rfl)) dX5_pressWith_86 ⟨Nat.zero_le _, Nat.zero_le _⟩
            · exact va_runU (z_fix C0) (c_X5_driftOver l D Y F G ((zAs S ((100 + 4 * q0 + 1)) (Int32.toNatClampNeg (((x4 * 8) + x1))) ((if ((zar S ((100 + 4 * q0 + 1)) (Int32.toNatClampNeg (((x4 * 8) + x1)))) + w5) < (99 : Int32) then ((zar S ((100 + 4 * q0 + 1)) (Int32.toNatClampNeg (((x4 * 8) + x1)))) + w5) else (99 : Int32))))) _ q0 hq0 ((x4 - (zsc ((zAs S ((100 + 4 * q0 + 1)) (Int32.toNatClampNeg (((x4 * 8) + x1))) ((if ((zar S ((100 + 4 * q0 + 1)) (Int32.toNatClampNeg (((x4 * 8) + x1)))) + w5) < (99 : Int32) then ((zar S ((100 + 4 * q0 + 1)) (Int32.toNatClampNeg (((x4 * 8) + x1)))) + w5) else (99 : Int32))))) (100 + 4 * q0) 8))) w10 (V_driftOver_X8 zz ew10)) (va_cwU 1 hts gX5_pressWith_X5_driftOver_u94X8 rfl rfl rfl rfl (by decide +kernel) ⟨Nat.le_of_ble_eq_true rfl, Nat.le_of_ble_eq_true rfl⟩) ⟨zPc_blind, z_prec C0 hw hq0 (ci := 8) zz rfl, z_give C0 hw hS _⟩ rfl rfl hl.1 rfl (lv_room (Nat.le_of_ble_eq_true rfl)) dX5_pressWith_86 ⟨Nat.zero_le _, Nat.zero_le _⟩
            · exact va_runU (z_fix C0) (c_X5_driftOver l D Y F G ((zAs S ((100 + 4 * q0 + 1)) (Int32.toNatClampNeg (((x4 * 8) + x1))) ((if ((zar S ((100 + 4 * q0 + 1)) (Int32.toNatClampNeg (((x4 * 8) + x1)))) + w5) < (99 : Int32) then ((zar S ((100 + 4 * q0 + 1)) (Int32.toNatClampNeg (((x4 * 8) + x1)))) + w5) else (99 : Int32))))) _ q0 hq0 ((x4 - (zsc ((zAs S ((100 + 4 * q0 + 1)) (Int32.toNatClampNeg (((x4 * 8) + x1))) ((if ((zar S ((100 + 4 * q0 + 1)) (Int32.toNatClampNeg (((x4 * 8) + x1)))) + w5) < (99 : Int32) then ((zar S ((100 + 4 * q0 + 1)) (Int32.toNatClampNeg (((x4 * 8) + x1)))) + w5) else (99 : Int32))))) (100 + 4 * q0) 8))) w10 (V_driftOver_X10 zz ew10)) (va_cwU 1 hts gX5_pressWith_X5_driftOver_u94X10 rfl rfl rfl rfl (by decide +kernel) ⟨Nat.le_of_ble_eq_true rfl, Nat.le_of_ble_eq_true rfl⟩) ⟨zPc_blind, z_prec C0 hw hq0 (ci := 10) zz rfl, z_give C0 hw hS _⟩ rfl rfl hl.1 rfl (lv_room (Nat.le_of_ble_eq_true rfl)) dX5_pressWith_86 ⟨Nat.zero_le _, Nat.zero_le _⟩
          refine lv_iadd hx hb dX5_pressWith_89 ?_
          obtain ⟨v11, ev11, h⟩ := z_bd h
          refine z_top (Option.some.inj ev11) ?_
          refine lv_istore (lv' := [(7, .int v11), (6, .int (((x4 * 8) + x1))), (5, .int w5), (0, .ref (zad F G (100 + 4 * q0))), (1, .int x1), (2, .int x2), (3, .int x3), (4, .int x4)]) hx hb dX5_pressWith_90 hl (by decide) rfl (fun ls hl => ?_)
          refine lv_aload_n hx hb dX5_pressWith_92 rfl (lv_at hl 3 rfl) ?_
          refine z_getP C0 inP_X5_pressWith hw hq0 5 (by decide) (v := .ref (zad F G (100 + 4 * q0 + 3))) rfl 10 rfl (Or.inl rfl) dX5_pressWith_93 ?_
          refine lv_iload hx hb dX5_pressWith_96 (lv_at hl 7 rfl) ?_
          refine lv_sipush (v := (-999)) hx hb dX5_pressWith_98 (by decide) ?_
          refine lv_sipush (v := 999) hx hb dX5_pressWith_101 (by decide) ?_
          refine lv_iload hx hb dX5_pressWith_104 (lv_at hl 0 rfl) ?_
          refine va_mmin hx hb (hml.trans hl.1.symm) hown (hts _ (List.mem_of_getElem? (i := 7) rfl)) (hts _ (List.mem_of_getElem? (i := 8) rfl)) (hts _ (List.mem_of_getElem? (i := 4) rfl)) (hts _ (List.mem_of_getElem? (i := 9) rfl)) (Nat.le_of_ble_eq_true rfl) (Nat.le_of_ble_eq_true rfl) (Nat.zero_le _) (Nat.zero_le _) dX5_pressWith_106 ?_
          refine va_mmax hx hb (hml.trans hl.1.symm) hown (hts _ (List.mem_of_getElem? (i := 2) rfl)) (hts _ (List.mem_of_getElem? (i := 3) rfl)) (hts _ (List.mem_of_getElem? (i := 4) rfl)) (hts _ (List.mem_of_getElem? (i := 5) rfl)) (Nat.le_of_ble_eq_true rfl) (Nat.le_of_ble_eq_true rfl) (Nat.zero_le _) (Nat.zero_le _) dX5_pressWith_109 ?_
          obtain ⟨b12, h⟩ := z_gd h
          refine z_iasts C0 hw hS ((100 + 4 * q0 + 3)) (zOK_E hq0 3 (by decide)) rfl (zPR3 q0) (zin_in b12) dX5_pressWith_112 (fun H locs hw hS => ?_)
          refine lv_iinc (v := (x3 + 1)) (lv' := [(3, .int ((x3 + 1))), (7, .int v11), (6, .int (((x4 * 8) + x1))), (5, .int w5), (0, .ref (zad F G (100 + 4 * q0))), (1, .int x1), (2, .int x2), (4, .int x4)]) hx hb dX5_pressWith_113 hl (k := 6) rfl rfl (by decide) rfl (fun ls hl => ?_)
          refine lv_iinc (v := (x4 + 1)) (lv' := [(4, .int ((x4 + 1))), (3, .int ((x3 + 1))), (7, .int v11), (6, .int (((x4 * 8) + x1))), (5, .int w5), (0, .ref (zad F G (100 + 4 * q0))), (1, .int x1), (2, .int x2)]) hx hb dX5_pressWith_116 hl (k := 7) rfl rfl (by decide) rfl (fun ls hl => ?_)
          refine lv_goto (tgt := 12) hx hb dX5_pressWith_119 (by decide) ?_
          exact ih ((zAs ((zAs S ((100 + 4 * q0 + 1)) (Int32.toNatClampNeg (((x4 * 8) + x1))) ((if ((zar S ((100 + 4 * q0 + 1)) (Int32.toNatClampNeg (((x4 * 8) + x1)))) + w5) < (99 : Int32) then ((zar S ((100 + 4 * q0 + 1)) (Int32.toNatClampNeg (((x4 * 8) + x1)))) + w5) else (99 : Int32))))) ((100 + 4 * q0 + 3)) (Int32.toNatClampNeg x4) ((if ((-999) : Int32) < (if v11 < (999 : Int32) then v11 else (999 : Int32)) then (if v11 < (999 : Int32) then v11 else (999 : Int32)) else ((-999) : Int32))))) x1 x2 ((x3 + 1)) ((x4 + 1)) h _ _ _ hw hS (lv_sub hl [5, 6, 7, 1, 0] rfl)
def M_X5_pressWith (pk : Nat → Nat) (S : zSt) (q0 : Nat) (x1 : Int32) (x2 : Int32) : Option (Int32 × zSt) :=
  Option.bind (some ((if (0 : Int32) < (zsc S (100 + 4 * q0) 8) then (zsc S (100 + 4 * q0) 8) else (0 : Int32)))) (fun v1 => M_X5_pressWith_B12 pk q0 zF S x1 x2 0 v1)
set_option maxHeartbeats 4000000 in
set_option maxRecDepth 100000 in
theorem c_X5_pressWith (l : Launch) (D : va_G) (Y : Nat → ClassId) (F : Nat → Nat) (G : zG) (S : zSt) (sz : Nat) (q0 : Nat) (hq0 : zOKb (zpk G) q0 = true) (x1 : Int32) (x2 : Int32) (res : Int32 × zSt) (h : M_X5_pressWith (zpk G) S q0 x1 x2 = some res) : Met l yX5_pressWith wsX5_pressWith (zRm 4 88) (zPc D Y F G S sz [.ref (zad F G (100 + 4 * q0)), .int x1, .int x2]) (zQi D Y F (zAo F G sz) G res) 0 0 (zAo F G sz) := by
  unfold M_X5_pressWith at h
  refine zMet (cc := cX5_pressWith) (maxL := 8) (ret := (some .int)) (own := RX5) (by decide +kernel) rfl rfl (Nat.le_of_ble_eq_true rfl) ?_
  intro p e s m args below meth c C0 hin hw hS ls hl
  have hl : lv_has ls 8 [(0, .ref (zad F G (100 + 4 * q0))), (1, .int x1), (2, .int x2)] := hl
  generalize zAo F G sz = A at C0 hw hS ⊢
  obtain ⟨hx, hb, hml, hr, hown, hts, hK, hA, hlk, hN⟩ := id C0
  refine lv_iconst (v := 0) hx hb dX5_pressWith_0 (by decide) ?_
  refine lv_istore_n (lv' := [(3, .int 0), (0, .ref (zad F G (100 + 4 * q0))), (1, .int x1), (2, .int x2)]) hx hb dX5_pressWith_1 rfl hl (by decide) rfl (fun ls hl => ?_)
  refine lv_iconst (v := 0) hx hb dX5_pressWith_2 (by decide) ?_
  refine lv_aload_n hx hb dX5_pressWith_3 rfl (lv_at hl 1 rfl) ?_
  refine z_getP C0 inP_X5_pressWith hw hq0 8 (by decide) (v := .int ((zsc S (100 + 4 * q0) 8))) rfl 1 rfl (Or.inl rfl) dX5_pressWith_4 ?_
  refine va_mmax hx hb (hml.trans hl.1.symm) hown (hts _ (List.mem_of_getElem? (i := 2) rfl)) (hts _ (List.mem_of_getElem? (i := 3) rfl)) (hts _ (List.mem_of_getElem? (i := 4) rfl)) (hts _ (List.mem_of_getElem? (i := 5) rfl)) (Nat.le_of_ble_eq_true rfl) (Nat.le_of_ble_eq_true rfl) (Nat.zero_le _) (Nat.zero_le _) dX5_pressWith_7 ?_
  obtain ⟨v1, ev1, h⟩ := z_bd h
  refine z_top (Option.some.inj ev1) ?_
  refine lv_istore (lv' := [(4, .int v1), (3, .int 0), (0, .ref (zad F G (100 + 4 * q0))), (1, .int x1), (2, .int x2)]) hx hb dX5_pressWith_10 hl (by decide) rfl (fun ls hl => ?_)
  exact t_X5_pressWith_B12 C0 q0 hq0 res zF S x1 x2 0 v1 h _ _ _ hw hS (lv_sub hl [2, 3, 4, 1, 0] rfl)
def M_X5_rubOn (pk : Nat → Nat) (S : zSt) (q0 : Nat) (x1 : Int32) (x2 : Int32) : Option (Int32 × zSt) :=
  Option.bind (M_X11_isCopy pk S x1) (fun w1 => (if w1 = 0 then some (0, S) else Option.bind (M_X11_isDeed pk S x2) (fun w3 => (if w3 = 0 then some (0, S) else zg (zin (((x1 * 8) + x2)) 48) (Option.bind (some ((zar S ((100 + 4 * q0 + 1)) (Int32.toNatClampNeg (((x1 * 8) + x2)))))) (fun v6 => zg (zin (((x1 * 8) + x2)) 48) (zg (zin x1 6) (zg (zin x1 6) (some (v6, (zAs ((zAs S ((100 + 4 * q0 + 1)) (Int32.toNatClampNeg (((x1 * 8) + x2))) 0)) ((100 + 4 * q0 + 2)) (Int32.toNatClampNeg x1) ((if ((zar ((zAs S ((100 + 4 * q0 + 1)) (Int32.toNatClampNeg (((x1 * 8) + x2))) 0)) ((100 + 4 * q0 + 2)) (Int32.toNatClampNeg x1)) + 1) < (99 : Int32) then ((zar ((zAs S ((100 + 4 * q0 + 1)) (Int32.toNatClampNeg (((x1 * 8) + x2))) 0)) ((100 + 4 * q0 + 2)) (Int32.toNatClampNeg x1)) + 1) else (99 : Int32))))))))))))))
set_option maxHeartbeats 4000000 in
set_option maxRecDepth 100000 in
theorem c_X5_rubOn (l : Launch) (D : va_G) (Y : Nat → ClassId) (F : Nat → Nat) (G : zG) (S : zSt) (sz : Nat) (q0 : Nat) (hq0 : zOKb (zpk G) q0 = true) (x1 : Int32) (x2 : Int32) (res : Int32 × zSt) (h : M_X5_rubOn (zpk G) S q0 x1 x2 = some res) : Met l yX5_rubOn wsX5_rubOn (zRm 1 24) (zPc D Y F G S sz [.ref (zad F G (100 + 4 * q0)), .int x1, .int x2]) (zQi D Y F (zAo F G sz) G res) 0 0 (zAo F G sz) := by
  unfold M_X5_rubOn at h
  refine zMet (cc := cX5_rubOn) (maxL := 4) (ret := (some .int)) (own := RX5) (by decide +kernel) rfl rfl (Nat.le_of_ble_eq_true rfl) ?_
  intro p e s m args below meth c C0 hin hw hS ls hl
  have hl : lv_has ls 4 [(0, .ref (zad F G (100 + 4 * q0))), (1, .int x1), (2, .int x2)] := hl
  generalize zAo F G sz = A at C0 hw hS ⊢
  obtain ⟨hx, hb, hml, hr, hown, hts, hK, hA, hlk, hN⟩ := id C0
  refine lv_iload_n hx hb dX5_rubOn_0 rfl (lv_at hl 1 rfl) ?_
  obtain ⟨w1, ew1, h⟩ := z_bd h
  refine z_goi C0 hw hS (res := (w1, S)) (rest := []) (arr := ([.int x1] : List Value).toArray) ?_ (fun H locs hw hS => ?_)
  · exact va_runSN (z_fix C0) (c_X11_isCopy l D Y F G S _ x1 w1 ew1) ⟨va_cnB 1 hts gX5_rubOn_X11_isCopy_n66 rfl rfl rfl (hN.1 _ (List.mem_of_getElem? (i := 0) rfl)) (hts _ (List.mem_of_getElem? (i := 8) rfl)) (by decide +kernel) ⟨Nat.le_of_ble_eq_true rfl, Nat.le_of_ble_eq_true rfl⟩, hts _ (List.mem_of_getElem? (i := 7) rfl), trivial⟩ ⟨zPc_blind, z_give C0 hw hS _⟩ rfl rfl hl.1 rfl (lv_room (Nat.le_of_ble_eq_true rfl)) dX5_rubOn_1 ⟨Nat.zero_le _, Nat.zero_le _⟩
  refine lv_if_eq (tgt := 14) hx hb dX5_rubOn_4 (by decide) (fun c2 => ?_) (fun c2 => ?_)
  · replace h := z_ifp c2 h
    refine lv_iconst (v := 0) hx hb dX5_rubOn_14 (by decide) ?_
    exact z_reti C0 hw hS (Option.some.inj h) dX5_rubOn_15
  · replace h := z_ifn c2 h
    refine lv_iload_n hx hb dX5_rubOn_7 rfl (lv_at hl 2 rfl) ?_
    obtain ⟨w3, ew3, h⟩ := z_bd h
    refine z_goi C0 hw hS (res := (w3, S)) (rest := []) (arr := ([.int x2] : List Value).toArray) ?_ (fun H locs hw hS => ?_)
    · exact va_runSN (z_fix C0) (c_X11_isDeed l D Y F G S _ x2 w3 ew3) ⟨va_cnB 1 hts gX5_rubOn_X11_isDeed_n70 rfl rfl rfl (hN.1 _ (List.mem_of_getElem? (i := 1) rfl)) (hts _ (List.mem_of_getElem? (i := 8) rfl)) (by decide +kernel) ⟨Nat.le_of_ble_eq_true rfl, Nat.le_of_ble_eq_true rfl⟩, hts _ (List.mem_of_getElem? (i := 10) rfl), trivial⟩ ⟨zPc_blind, z_give C0 hw hS _⟩ rfl rfl hl.1 rfl (lv_room (Nat.le_of_ble_eq_true rfl)) dX5_rubOn_8 ⟨Nat.zero_le _, Nat.zero_le _⟩
    refine lv_if_ne (tgt := 16) hx hb dX5_rubOn_11 (by decide) (fun c4 => ?_) (fun c4 => ?_)
    · replace h := z_ifn c4 h
      refine lv_aload_n hx hb dX5_rubOn_16 rfl (lv_at hl 0 rfl) ?_
      refine z_getP C0 inP_X5_rubOn hw hq0 3 (by decide) (v := .ref (zad F G (100 + 4 * q0 + 1))) rfl 1 rfl (Or.inl rfl) dX5_rubOn_17 ?_
      refine lv_iload_n hx hb dX5_rubOn_20 rfl (lv_at hl 1 rfl) ?_
      refine lv_bipush (v := 8) hx hb dX5_rubOn_21 (by decide) ?_
      refine lv_imul hx hb dX5_rubOn_23 ?_
      refine lv_iload_n hx hb dX5_rubOn_24 rfl (lv_at hl 2 rfl) ?_
      refine lv_iadd hx hb dX5_rubOn_25 ?_
      obtain ⟨b5, h⟩ := z_gd h
      refine z_iald C0 hw ((100 + 4 * q0 + 1)) (zOK_E hq0 1 (by decide)) rfl (zPR1 q0) (zin_in b5) dX5_rubOn_26 ?_
      obtain ⟨v6, ev6, h⟩ := z_bd h
      refine z_top (Option.some.inj ev6) ?_
      refine lv_istore_n (lv' := [(3, .int v6), (0, .ref (zad F G (100 + 4 * q0))), (1, .int x1), (2, .int x2)]) hx hb dX5_rubOn_27 rfl hl (by decide) rfl (fun ls hl => ?_)
      refine lv_aload_n hx hb dX5_rubOn_28 rfl (lv_at hl 1 rfl) ?_
      refine z_getP C0 inP_X5_rubOn hw hq0 3 (by decide) (v := .ref (zad F G (100 + 4 * q0 + 1))) rfl 1 rfl (Or.inl rfl) dX5_rubOn_29 ?_
      refine lv_iload_n hx hb dX5_rubOn_32 rfl (lv_at hl 2 rfl) ?_
      refine lv_bipush (v := 8) hx hb dX5_rubOn_33 (by decide) ?_
      refine lv_imul hx hb dX5_rubOn_35 ?_
      refine lv_iload_n hx hb dX5_rubOn_36 rfl (lv_at hl 3 rfl) ?_
      refine lv_iadd hx hb dX5_rubOn_37 ?_
      refine lv_iconst (v := 0) hx hb dX5_rubOn_38 (by decide) ?_
      obtain ⟨b7, h⟩ := z_gd h
      refine z_iasts C0 hw hS ((100 + 4 * q0 + 1)) (zOK_E hq0 1 (by decide)) rfl (zPR1 q0) (zin_in b7) dX5_rubOn_39 (fun H locs hw hS => ?_)
      refine lv_aload_n hx hb dX5_rubOn_40 rfl (lv_at hl 1 rfl) ?_
      refine z_getP C0 inP_X5_rubOn hw hq0 4 (by decide) (v := .ref (zad F G (100 + 4 * q0 + 2))) rfl 2 rfl (Or.inl rfl) dX5_rubOn_41 ?_
      refine lv_iload_n hx hb dX5_rubOn_44 rfl (lv_at hl 2 rfl) ?_
      refine lv_bipush (v := 99) hx hb dX5_rubOn_45 (by decide) ?_
      refine lv_aload_n hx hb dX5_rubOn_47 rfl (lv_at hl 1 rfl) ?_
      refine z_getP C0 inP_X5_rubOn hw hq0 4 (by decide) (v := .ref (zad F G (100 + 4 * q0 + 2))) rfl 2 rfl (Or.inl rfl) dX5_rubOn_48 ?_
      refine lv_iload_n hx hb dX5_rubOn_51 rfl (lv_at hl 2 rfl) ?_
      obtain ⟨b8, h⟩ := z_gd h
      refine z_iald C0 hw ((100 + 4 * q0 + 2)) (zOK_E hq0 2 (by decide)) rfl (zPR2 q0) (zin_in b8) dX5_rubOn_52 ?_
      refine lv_iconst (v := 1) hx hb dX5_rubOn_53 (by decide) ?_
      refine lv_iadd hx hb dX5_rubOn_54 ?_
      refine va_mmin hx hb (hml.trans hl.1.symm) hown (hts _ (List.mem_of_getElem? (i := 3) rfl)) (hts _ (List.mem_of_getElem? (i := 4) rfl)) (hts _ (List.mem_of_getElem? (i := 5) rfl)) (hts _ (List.mem_of_getElem? (i := 6) rfl)) (Nat.le_of_ble_eq_true rfl) (Nat.le_of_ble_eq_true rfl) (Nat.zero_le _) (Nat.zero_le _) dX5_rubOn_55 ?_
      obtain ⟨b9, h⟩ := z_gd h
      refine z_iasts C0 hw hS ((100 + 4 * q0 + 2)) (zOK_E hq0 2 (by decide)) rfl (zPR2 q0) (zin_in b9) dX5_rubOn_58 (fun H locs hw hS => ?_)
      refine lv_iload_n hx hb dX5_rubOn_59 rfl (lv_at hl 0 rfl) ?_
      exact z_reti C0 hw hS (Option.some.inj h) dX5_rubOn_60
    · replace h := z_ifp c4 h
      refine lv_iconst (v := 0) hx hb dX5_rubOn_14 (by decide) ?_
      exact z_reti C0 hw hS (Option.some.inj h) dX5_rubOn_15
def M_X5_rubsToMend (pk : Nat → Nat) (S : zSt) (q0 : Nat) (x1 : Int32) (x2 : Int32) : Option (Int32) :=
  Option.bind (M_X5_haveBits pk S q0 x1 x2) (fun w1 => Option.bind (M_J6_bitCount_0f7a4 S w1) (fun w2 => (if w2 = ((6 : Int32) - (zsc S (100 + 4 * q0) 8)) then some 0 else some w2)))
set_option maxHeartbeats 4000000 in
set_option maxRecDepth 100000 in
theorem c_X5_rubsToMend (l : Launch) (D : va_G) (Y : Nat → ClassId) (F : Nat → Nat) (G : zG) (S : zSt) (sz : Nat) (q0 : Nat) (hq0 : zOKb (zpk G) q0 = true) (x1 : Int32) (x2 : Int32) (res : Int32) (h : M_X5_rubsToMend (zpk G) S q0 x1 x2 = some res) : Met l yX5_rubsToMend wsX5_rubsToMend (zRm 3 66) (zPc D Y F G S sz [.ref (zad F G (100 + 4 * q0)), .int x1, .int x2]) (zQi D Y F (zAo F G sz) G (res, S)) 0 0 (zAo F G sz) := by
  unfold M_X5_rubsToMend at h
  refine zMet (cc := cX5_rubsToMend) (maxL := 4) (ret := (some .int)) (own := RX5) (by decide +kernel) rfl rfl (Nat.le_of_ble_eq_true rfl) ?_
  intro p e s m args below meth c C0 hin hw hS ls hl
  have hl : lv_has ls 4 [(0, .ref (zad F G (100 + 4 * q0))), (1, .int x1), (2, .int x2)] := hl
  generalize zAo F G sz = A at C0 hw hS ⊢
  obtain ⟨hx, hb, hml, hr, hown, hts, hK, hA, hlk, hN⟩ := id C0
  refine lv_aload_n hx hb dX5_rubsToMend_0 rfl (lv_at hl 0 rfl) ?_
  refine lv_iload_n hx hb dX5_rubsToMend_1 rfl (lv_at hl 1 rfl) ?_
  refine lv_iload_n hx hb dX5_rubsToMend_2 rfl (lv_at hl 2 rfl) ?_
  obtain ⟨w1, ew1, h⟩ := z_bd h
  refine z_goi C0 hw hS (res := (w1, S)) (rest := []) (arr := (Value.ref (zad F G (100 + 4 * q0)) :: [.int x1, .int x2]).toArray) ?_ (fun H locs hw hS => ?_)
  · rcases zOK_cases hq0 with zz | zz | zz | zz | zz | zz | zz
    · exact va_runU (z_fix C0) (c_X5_haveBits l D Y F G S _ q0 hq0 x1 x2 w1 ew1) (va_cwU 2 hts gX5_rubsToMend_X5_haveBits_u97X0 rfl rfl rfl rfl (by decide +kernel) ⟨Nat.le_of_ble_eq_true rfl, Nat.le_of_ble_eq_true rfl⟩) ⟨zPc_blind, z_prec C0 hw hq0 (ci := 0) zz rfl, z_give C0 hw hS _⟩ rfl rfl hl.1 rfl (lv_room (Nat.le_of_ble_eq_true rfl)) dX5_rubsToMend_3 ⟨Nat.zero_le _, Nat.zero_le _⟩
    · exact va_runU (z_fix C0) (c_X5_haveBits l D Y F G S _ q0 hq0 x1 x2 w1 ew1) (va_cwU 2 hts gX5_rubsToMend_X5_haveBits_u97X1 rfl rfl rfl rfl (by decide +kernel) ⟨Nat.le_of_ble_eq_true rfl, Nat.le_of_ble_eq_true rfl⟩) ⟨zPc_blind, z_prec C0 hw hq0 (ci := 1) zz rfl, z_give C0 hw hS _⟩ rfl rfl hl.1 rfl (lv_room (Nat.le_of_ble_eq_true rfl)) dX5_rubsToMend_3 ⟨Nat.zero_le _, Nat.zero_le _⟩
    · exact va_runU (z_fix C0) (c_X5_haveBits l D Y F G S _ q0 hq0 x1 x2 w1 ew1) (va_cwU 2 hts gX5_rubsToMend_X5_haveBits_u97X2 rfl rfl rfl rfl (by decide +kernel) ⟨Nat.le_of_ble_eq_true rfl, Nat.le_of_ble_eq_true rfl⟩) ⟨zPc_blind, z_prec C0 hw hq0 (ci := 2) zz rfl, z_give C0 hw hS _⟩ rfl rfl hl.1 rfl (lv_room (Nat.le_of_ble_eq_true rfl)) dX5_rubsToMend_3 ⟨Nat.zero_le _, Nat.zero_le _⟩
    · exact va_runU (z_fix C0) (c_X5_haveBits l D Y F G S _ q0 hq0 x1 x2 w1 ew1) (va_cwU 2 hts gX5_rubsToMend_X5_haveBits_u97X3 rfl rfl rfl rfl (by decide +kernel) ⟨Nat.le_of_ble_eq_true rfl, Nat.le_of_ble_eq_true rfl⟩) ⟨zPc_blind, z_prec C0 hw hq0 (ci := 3) zz rfl, z_give C0 hw hS _⟩ rfl rfl hl.1 rfl (lv_room (Nat.le_of_ble_eq_true rfl)) dX5_rubsToMend_3 ⟨Nat.zero_le _, Nat.zero_le _⟩
    · exact va_runV (z_fix C0) (c_X5_haveBits l D Y F G S _ q0 hq0 x1 x2 w1 ew1) (cwV 2 hts gX5_rubsToMend_X5_haveBits rfl rfl rfl (by decide +kernel) ⟨Nat.le_of_ble_eq_true rfl, Nat.le_of_ble_eq_true rfl⟩) ⟨zPc_blind, z_prec C0 hw hq0 (ci := 5) zz rfl, z_give C0 hw hS _⟩ rfl rfl hl.1 rfl (lv_room (Nat.le_of_ble_eq_true rfl)) dX5_rubsToMend_3 ⟨Nat.zero_le _, Nat.zero_le _⟩
    · exact va_runU (z_fix C0) (c_X5_haveBits l D Y F G S _ q0 hq0 x1 x2 w1 ew1) (va_cwU 2 hts gX5_rubsToMend_X5_haveBits_u97X8 rfl rfl rfl rfl (by decide +kernel) ⟨Nat.le_of_ble_eq_true rfl, Nat.le_of_ble_eq_true rfl⟩) ⟨zPc_blind, z_prec C0 hw hq0 (ci := 8) zz rfl, z_give C0 hw hS _⟩ rfl rfl hl.1 rfl (lv_room (Nat.le_of_ble_eq_true rfl)) dX5_rubsToMend_3 ⟨Nat.zero_le _, Nat.zero_le _⟩
    · exact va_runU (z_fix C0) (c_X5_haveBits l D Y F G S _ q0 hq0 x1 x2 w1 ew1) (va_cwU 2 hts gX5_rubsToMend_X5_haveBits_u97X10 rfl rfl rfl rfl (by decide +kernel) ⟨Nat.le_of_ble_eq_true rfl, Nat.le_of_ble_eq_true rfl⟩) ⟨zPc_blind, z_prec C0 hw hq0 (ci := 10) zz rfl, z_give C0 hw hS _⟩ rfl rfl hl.1 rfl (lv_room (Nat.le_of_ble_eq_true rfl)) dX5_rubsToMend_3 ⟨Nat.zero_le _, Nat.zero_le _⟩
  obtain ⟨w2, ew2, h⟩ := z_bd h
  refine z_goi C0 hw hS (res := (w2, S)) (rest := []) (arr := ([.int w1] : List Value).toArray) ?_ (fun H locs hw hS => ?_)
  · exact va_runS (z_fix C0) (c_J6_bitCount_0f7a4 l D Y F G S _ w1 w2 ew2) (va_cwS 1 hts gX5_rubsToMend_J6_bitCount_0f7a4 rfl rfl rfl (by decide +kernel) ⟨Nat.le_of_ble_eq_true rfl, Nat.le_of_ble_eq_true rfl⟩) ⟨zPc_blind, z_give C0 hw hS _⟩ rfl rfl hl.1 rfl (lv_room (Nat.le_of_ble_eq_true rfl)) dX5_rubsToMend_6 ⟨Nat.zero_le _, Nat.zero_le _⟩
  refine lv_istore_n (lv' := [(3, .int w2), (0, .ref (zad F G (100 + 4 * q0))), (1, .int x1), (2, .int x2)]) hx hb dX5_rubsToMend_9 rfl hl (by decide) rfl (fun ls hl => ?_)
  refine lv_iload_n hx hb dX5_rubsToMend_10 rfl (lv_at hl 0 rfl) ?_
  refine lv_bipush (v := 6) hx hb dX5_rubsToMend_11 (by decide) ?_
  refine lv_aload_n hx hb dX5_rubsToMend_13 rfl (lv_at hl 1 rfl) ?_
  refine z_getP C0 inP_X5_rubsToMend hw hq0 8 (by decide) (v := .int ((zsc S (100 + 4 * q0) 8))) rfl 1 rfl (Or.inl rfl) dX5_rubsToMend_14 ?_
  refine lv_isub hx hb dX5_rubsToMend_17 ?_
  refine lv_icmp_ne (tgt := 25) hx hb dX5_rubsToMend_18 (by decide) (fun c3 => ?_) (fun c3 => ?_)
  · replace h := z_ifn c3 h
    refine lv_iload_n hx hb dX5_rubsToMend_25 rfl (lv_at hl 0 rfl) ?_
    exact z_reti C0 hw hS (congrArg (fun z => (z, S)) (Option.some.inj h)) dX5_rubsToMend_26
  · replace h := z_ifp c3 h
    refine lv_iconst (v := 0) hx hb dX5_rubsToMend_21 (by decide) ?_
    refine lv_goto (tgt := 26) hx hb dX5_rubsToMend_22 (by decide) ?_
    exact z_reti C0 hw hS (congrArg (fun z => (z, S)) (Option.some.inj h)) dX5_rubsToMend_26
def M_X5_bearing_B2 (pk : Nat → Nat) (S : zSt) (q0 : Nat) : Nat → Int32 → Int32 → Int32 → Option (Int32)
  | 0, _, _, _ => none
  | n + 1, x1, x2, x3 =>
  (if x3 < (zsc S (100 + 4 * q0) 8) then some 0 else Option.bind (M_X5_strengthOf pk S q0 x3 x1) (fun w2 => (if w2 < x2 then M_X5_bearing_B2 pk S q0 n x1 x2 ((x3 + (-1))) else some (((x3 - (zsc S (100 + 4 * q0) 8)) + 1)))))
set_option maxHeartbeats 4000000 in
set_option maxRecDepth 100000 in
theorem t_X5_bearing_B2 {p : Program} {l : Launch} {e : Env} {s : State} {m : MethodId} {args : Array Value} {below : List Frame} {meth : Method} {c : Code} {D : va_G} {Y : Nat → ClassId} {F : Nat → Nat} {A : Nat → Prop} {G : zG} (C0 : zCx p s m args meth c D Y F A RX5 cX5_bearing 4 (some .int) wsX5_bearing) (S : zSt) (q0 : Nat) (hq0 : zOKb (zpk G) q0 = true) (res : Int32) : ∀ (n : Nat), ∀ (x1 : Int32) (x2 : Int32) (x3 : Int32), M_X5_bearing_B2 (zpk G) S q0 n x1 x2 x3 = some res → ∀ (H : Heap) (locs : List Loc) (ls : Array Slot), zH D Y F A G S H → va_S A s.heap H locs → lv_has ls 4 [(0, .ref (zad F G (100 + 4 * q0))), (1, .int x1), (2, .int x2), (3, .int x3)] → W p l e (zRm 2 42) s m args below meth c H locs 0 0 (MQ below (zQi D Y F A G (res, S)) args s 0 0 A) (F0 m 2 ls []) := by
  obtain ⟨hx, hb, hml, hr, hown, hts, hK, hA, hlk, hN⟩ := id C0
  intro n
  induction n with
  | zero =>
    intro x1 x2 x3 h
    unfold M_X5_bearing_B2 at h
    cases h
  | succ n ih =>
    intro x1 x2 x3 h H locs ls hw hS hl
    rw [M_X5_bearing_B2] at h
    refine lv_iload_n hx hb dX5_bearing_2 rfl (lv_at hl 3 rfl) ?_
    refine lv_aload_n hx hb dX5_bearing_3 rfl (lv_at hl 0 rfl) ?_
    refine z_getP C0 inP_X5_bearing hw hq0 8 (by decide) (v := .int ((zsc S (100 + 4 * q0) 8))) rfl 1 rfl (Or.inl rfl) dX5_bearing_4 ?_
    refine lv_icmp_lt (tgt := 35) hx hb dX5_bearing_7 (by decide) (fun c1 => ?_) (fun c1 => ?_)
    · replace h := z_ifp c1 h
      refine lv_iconst (v := 0) hx hb dX5_bearing_35 (by decide) ?_
      exact z_reti C0 hw hS (congrArg (fun z => (z, S)) (Option.some.inj h)) dX5_bearing_36
    · replace h := z_ifn c1 h
      refine lv_aload_n hx hb dX5_bearing_10 rfl (lv_at hl 0 rfl) ?_
      refine lv_iload_n hx hb dX5_bearing_11 rfl (lv_at hl 3 rfl) ?_
      refine lv_iload_n hx hb dX5_bearing_12 rfl (lv_at hl 1 rfl) ?_
      obtain ⟨w2, ew2, h⟩ := z_bd h
      refine z_goi C0 hw hS (res := (w2, S)) (rest := []) (arr := (Value.ref (zad F G (100 + 4 * q0)) :: [.int x3, .int x1]).toArray) ?_ (fun H locs hw hS => ?_)
      · rcases zOK_cases hq0 with zz | zz | zz | zz | zz | zz | zz
        · exact va_runU (z_fix C0) (c_X5_strengthOf l D Y F G S _ q0 hq0 x3 x1 w2 ew2) (va_cwU 2 hts gX5_bearing_X5_strengthOf_u73X0 rfl rfl rfl rfl (by decide +kernel) ⟨Nat.le_of_ble_eq_true rfl, Nat.le_of_ble_eq_true rfl⟩) ⟨zPc_blind, z_prec C0 hw hq0 (ci := 0) zz rfl, z_give C0 hw hS _⟩ rfl rfl hl.1 rfl (lv_room (Nat.le_of_ble_eq_true rfl)) dX5_bearing_13 ⟨Nat.zero_le _, Nat.zero_le _⟩
        · exact va_runU (z_fix C0) (c_X5_strengthOf l D Y F G S _ q0 hq0 x3 x1 w2 ew2) (va_cwU 2 hts gX5_bearing_X5_strengthOf_u73X1 rfl rfl rfl rfl (by decide +kernel) ⟨Nat.le_of_ble_eq_true rfl, Nat.le_of_ble_eq_true rfl⟩) ⟨zPc_blind, z_prec C0 hw hq0 (ci := 1) zz rfl, z_give C0 hw hS _⟩ rfl rfl hl.1 rfl (lv_room (Nat.le_of_ble_eq_true rfl)) dX5_bearing_13 ⟨Nat.zero_le _, Nat.zero_le _⟩
        · exact va_runU (z_fix C0) (c_X5_strengthOf l D Y F G S _ q0 hq0 x3 x1 w2 ew2) (va_cwU 2 hts gX5_bearing_X5_strengthOf_u73X2 rfl rfl rfl rfl (by decide +kernel) ⟨Nat.le_of_ble_eq_true rfl, Nat.le_of_ble_eq_true rfl⟩) ⟨zPc_blind, z_prec C0 hw hq0 (ci := 2) zz rfl, z_give C0 hw hS _⟩ rfl rfl hl.1 rfl (lv_room (Nat.le_of_ble_eq_true rfl)) dX5_bearing_13 ⟨Nat.zero_le _, Nat.zero_le _⟩
        · exact va_runU (z_fix C0) (c_X5_strengthOf l D Y F G S _ q0 hq0 x3 x1 w2 ew2) (va_cwU 2 hts gX5_bearing_X5_strengthOf_u73X3 rfl rfl rfl rfl (by decide +kernel) ⟨Nat.le_of_ble_eq_true rfl, Nat.le_of_ble_eq_true rfl⟩) ⟨zPc_blind, z_prec C0 hw hq0 (ci := 3) zz rfl, z_give C0 hw hS _⟩ rfl rfl hl.1 rfl (lv_room (Nat.le_of_ble_eq_true rfl)) dX5_bearing_13 ⟨Nat.zero_le _, Nat.zero_le _⟩
        · exact va_runV (z_fix C0) (c_X5_strengthOf l D Y F G S _ q0 hq0 x3 x1 w2 ew2) (cwV 2 hts gX5_bearing_X5_strengthOf rfl rfl rfl (by decide +kernel) ⟨Nat.le_of_ble_eq_true rfl, Nat.le_of_ble_eq_true rfl⟩) ⟨zPc_blind, z_prec C0 hw hq0 (ci := 5) zz rfl, z_give C0 hw hS _⟩ rfl rfl hl.1 rfl (lv_room (Nat.le_of_ble_eq_true rfl)) dX5_bearing_13 ⟨Nat.zero_le _, Nat.zero_le _⟩
        · exact va_runU (z_fix C0) (c_X5_strengthOf l D Y F G S _ q0 hq0 x3 x1 w2 ew2) (va_cwU 2 hts gX5_bearing_X5_strengthOf_u73X8 rfl rfl rfl rfl (by decide +kernel) ⟨Nat.le_of_ble_eq_true rfl, Nat.le_of_ble_eq_true rfl⟩) ⟨zPc_blind, z_prec C0 hw hq0 (ci := 8) zz rfl, z_give C0 hw hS _⟩ rfl rfl hl.1 rfl (lv_room (Nat.le_of_ble_eq_true rfl)) dX5_bearing_13 ⟨Nat.zero_le _, Nat.zero_le _⟩
        · exact va_runU (z_fix C0) (c_X5_strengthOf l D Y F G S _ q0 hq0 x3 x1 w2 ew2) (va_cwU 2 hts gX5_bearing_X5_strengthOf_u73X10 rfl rfl rfl rfl (by decide +kernel) ⟨Nat.le_of_ble_eq_true rfl, Nat.le_of_ble_eq_true rfl⟩) ⟨zPc_blind, z_prec C0 hw hq0 (ci := 10) zz rfl, z_give C0 hw hS _⟩ rfl rfl hl.1 rfl (lv_room (Nat.le_of_ble_eq_true rfl)) dX5_bearing_13 ⟨Nat.zero_le _, Nat.zero_le _⟩
      refine lv_iload_n hx hb dX5_bearing_16 rfl (lv_at hl 2 rfl) ?_
      refine lv_icmp_lt (tgt := 29) hx hb dX5_bearing_17 (by decide) (fun c3 => ?_) (fun c3 => ?_)
      · replace h := z_ifp c3 h
        refine lv_iinc (v := (x3 + (-1))) (lv' := [(3, .int ((x3 + (-1)))), (0, .ref (zad F G (100 + 4 * q0))), (1, .int x1), (2, .int x2)]) hx hb dX5_bearing_29 hl (k := 3) rfl rfl (by decide) rfl (fun ls hl => ?_)
        refine lv_goto (tgt := 2) hx hb dX5_bearing_32 (by decide) ?_
        exact ih x1 x2 ((x3 + (-1))) h _ _ _ hw hS (lv_sub hl [1, 2, 3, 0] rfl)
      · replace h := z_ifn c3 h
        refine lv_iload_n hx hb dX5_bearing_20 rfl (lv_at hl 3 rfl) ?_
        refine lv_aload_n hx hb dX5_bearing_21 rfl (lv_at hl 0 rfl) ?_
        refine z_getP C0 inP_X5_bearing hw hq0 8 (by decide) (v := .int ((zsc S (100 + 4 * q0) 8))) rfl 1 rfl (Or.inl rfl) dX5_bearing_22 ?_
        refine lv_isub hx hb dX5_bearing_25 ?_
        refine lv_iconst (v := 1) hx hb dX5_bearing_26 (by decide) ?_
        refine lv_iadd hx hb dX5_bearing_27 ?_
        exact z_reti C0 hw hS (congrArg (fun z => (z, S)) (Option.some.inj h)) dX5_bearing_28
def M_X5_bearing (pk : Nat → Nat) (S : zSt) (q0 : Nat) (x1 : Int32) (x2 : Int32) : Option (Int32) :=
  M_X5_bearing_B2 pk S q0 zF x1 x2 5
set_option maxHeartbeats 4000000 in
set_option maxRecDepth 100000 in
theorem c_X5_bearing (l : Launch) (D : va_G) (Y : Nat → ClassId) (F : Nat → Nat) (G : zG) (S : zSt) (sz : Nat) (q0 : Nat) (hq0 : zOKb (zpk G) q0 = true) (x1 : Int32) (x2 : Int32) (res : Int32) (h : M_X5_bearing (zpk G) S q0 x1 x2 = some res) : Met l yX5_bearing wsX5_bearing (zRm 2 42) (zPc D Y F G S sz [.ref (zad F G (100 + 4 * q0)), .int x1, .int x2]) (zQi D Y F (zAo F G sz) G (res, S)) 0 0 (zAo F G sz) := by
  unfold M_X5_bearing at h
  refine zMet (cc := cX5_bearing) (maxL := 4) (ret := (some .int)) (own := RX5) (by decide +kernel) rfl rfl (Nat.le_of_ble_eq_true rfl) ?_
  intro p e s m args below meth c C0 hin hw hS ls hl
  have hl : lv_has ls 4 [(0, .ref (zad F G (100 + 4 * q0))), (1, .int x1), (2, .int x2)] := hl
  generalize zAo F G sz = A at C0 hw hS ⊢
  obtain ⟨hx, hb, hml, hr, hown, hts, hK, hA, hlk, hN⟩ := id C0
  refine lv_iconst (v := 5) hx hb dX5_bearing_0 (by decide) ?_
  refine lv_istore_n (lv' := [(3, .int 5), (0, .ref (zad F G (100 + 4 * q0))), (1, .int x1), (2, .int x2)]) hx hb dX5_bearing_1 rfl hl (by decide) rfl (fun ls hl => ?_)
  exact t_X5_bearing_B2 C0 S q0 hq0 res zF x1 x2 5 h _ _ _ hw hS (lv_sub hl [1, 2, 3, 0] rfl)
def M_X5_readSum_B4 (pk : Nat → Nat) (S : zSt) (q0 : Nat) : Nat → Int32 → Int32 → Option (Int32)
  | 0, _, _ => none
  | n + 1, x1, x2 =>
  (if 8 ≤ x2 then some x1 else Option.bind (M_X5_strengthOf pk S q0 5 x2) (fun w2 => M_X5_readSum_B4 pk S q0 n ((x1 + w2)) ((x2 + 1))))
set_option maxHeartbeats 4000000 in
set_option maxRecDepth 100000 in
theorem t_X5_readSum_B4 {p : Program} {l : Launch} {e : Env} {s : State} {m : MethodId} {args : Array Value} {below : List Frame} {meth : Method} {c : Code} {D : va_G} {Y : Nat → ClassId} {F : Nat → Nat} {A : Nat → Prop} {G : zG} (C0 : zCx p s m args meth c D Y F A RX5 cX5_readSum 3 (some .int) wsX5_readSum) (S : zSt) (q0 : Nat) (hq0 : zOKb (zpk G) q0 = true) (res : Int32) : ∀ (n : Nat), ∀ (x1 : Int32) (x2 : Int32), M_X5_readSum_B4 (zpk G) S q0 n x1 x2 = some res → ∀ (H : Heap) (locs : List Loc) (ls : Array Slot), zH D Y F A G S H → va_S A s.heap H locs → lv_has ls 3 [(0, .ref (zad F G (100 + 4 * q0))), (1, .int x1), (2, .int x2)] → W p l e (zRm 2 42) s m args below meth c H locs 0 0 (MQ below (zQi D Y F A G (res, S)) args s 0 0 A) (F0 m 4 ls []) := by
  obtain ⟨hx, hb, hml, hr, hown, hts, hK, hA, hlk, hN⟩ := id C0
  intro n
  induction n with
  | zero =>
    intro x1 x2 h
    unfold M_X5_readSum_B4 at h
    cases h
  | succ n ih =>
    intro x1 x2 h H locs ls hw hS hl
    rw [M_X5_readSum_B4] at h
    refine lv_iload_n hx hb dX5_readSum_4 rfl (lv_at hl 2 rfl) ?_
    refine lv_bipush (v := 8) hx hb dX5_readSum_5 (by decide) ?_
    refine lv_icmp_ge (tgt := 25) hx hb dX5_readSum_7 (by decide) (fun c1 => ?_) (fun c1 => ?_)
    · replace h := z_ifp c1 h
      refine lv_iload_n hx hb dX5_readSum_25 rfl (lv_at hl 1 rfl) ?_
      exact z_reti C0 hw hS (congrArg (fun z => (z, S)) (Option.some.inj h)) dX5_readSum_26
    · replace h := z_ifn c1 h
      refine lv_iload_n hx hb dX5_readSum_10 rfl (lv_at hl 1 rfl) ?_
      refine lv_aload_n hx hb dX5_readSum_11 rfl (lv_at hl 0 rfl) ?_
      refine lv_iconst (v := 5) hx hb dX5_readSum_12 (by decide) ?_
      refine lv_iload_n hx hb dX5_readSum_13 rfl (lv_at hl 2 rfl) ?_
      obtain ⟨w2, ew2, h⟩ := z_bd h
      refine z_goi C0 hw hS (res := (w2, S)) (rest := [.int x1]) (arr := (Value.ref (zad F G (100 + 4 * q0)) :: [.int 5, .int x2]).toArray) ?_ (fun H locs hw hS => ?_)
      · rcases zOK_cases hq0 with zz | zz | zz | zz | zz | zz | zz
        · exact va_runU (z_fix C0) (c_X5_strengthOf l D Y F G S _ q0 hq0 5 x2 w2 ew2) (va_cwU 2 hts gX5_readSum_X5_strengthOf_u73X0 rfl rfl rfl rfl (by decide +kernel) ⟨Nat.le_of_ble_eq_true rfl, Nat.le_of_ble_eq_true rfl⟩) ⟨zPc_blind, z_prec C0 hw hq0 (ci := 0) zz rfl, z_give C0 hw hS _⟩ rfl rfl hl.1 rfl (lv_room (Nat.le_of_ble_eq_true rfl)) dX5_readSum_14 ⟨Nat.zero_le _, Nat.zero_le _⟩
        · exact va_runU (z_fix C0) (c_X5_strengthOf l D Y F G S _ q0 hq0 5 x2 w2 ew2) (va_cwU 2 hts gX5_readSum_X5_strengthOf_u73X1 rfl rfl rfl rfl (by decide +kernel) ⟨Nat.le_of_ble_eq_true rfl, Nat.le_of_ble_eq_true rfl⟩) ⟨zPc_blind, z_prec C0 hw hq0 (ci := 1) zz rfl, z_give C0 hw hS _⟩ rfl rfl hl.1 rfl (lv_room (Nat.le_of_ble_eq_true rfl)) dX5_readSum_14 ⟨Nat.zero_le _, Nat.zero_le _⟩
        · exact va_runU (z_fix C0) (c_X5_strengthOf l D Y F G S _ q0 hq0 5 x2 w2 ew2) (va_cwU 2 hts gX5_readSum_X5_strengthOf_u73X2 rfl rfl rfl rfl (by decide +kernel) ⟨Nat.le_of_ble_eq_true rfl, Nat.le_of_ble_eq_true rfl⟩) ⟨zPc_blind, z_prec C0 hw hq0 (ci := 2) zz rfl, z_give C0 hw hS _⟩ rfl rfl hl.1 rfl (lv_room (Nat.le_of_ble_eq_true rfl)) dX5_readSum_14 ⟨Nat.zero_le _, Nat.zero_le _⟩
        · exact va_runU (z_fix C0) (c_X5_strengthOf l D Y F G S _ q0 hq0 5 x2 w2 ew2) (va_cwU 2 hts gX5_readSum_X5_strengthOf_u73X3 rfl rfl rfl rfl (by decide +kernel) ⟨Nat.le_of_ble_eq_true rfl, Nat.le_of_ble_eq_true rfl⟩) ⟨zPc_blind, z_prec C0 hw hq0 (ci := 3) zz rfl, z_give C0 hw hS _⟩ rfl rfl hl.1 rfl (lv_room (Nat.le_of_ble_eq_true rfl)) dX5_readSum_14 ⟨Nat.zero_le _, Nat.zero_le _⟩
        · exact va_runV (z_fix C0) (c_X5_strengthOf l D Y F G S _ q0 hq0 5 x2 w2 ew2) (cwV 2 hts gX5_readSum_X5_strengthOf rfl rfl rfl (by decide +kernel) ⟨Nat.le_of_ble_eq_true rfl, Nat.le_of_ble_eq_true rfl⟩) ⟨zPc_blind, z_prec C0 hw hq0 (ci := 5) zz rfl, z_give C0 hw hS _⟩ rfl rfl hl.1 rfl (lv_room (Nat.le_of_ble_eq_true rfl)) dX5_readSum_14 ⟨Nat.zero_le _, Nat.zero_le _⟩
        · exact va_runU (z_fix C0) (c_X5_strengthOf l D Y F G S _ q0 hq0 5 x2 w2 ew2) (va_cwU 2 hts gX5_readSum_X5_strengthOf_u73X8 rfl rfl rfl rfl (by decide +kernel) ⟨Nat.le_of_ble_eq_true rfl, Nat.le_of_ble_eq_true rfl⟩) ⟨zPc_blind, z_prec C0 hw hq0 (ci := 8) zz rfl, z_give C0 hw hS _⟩ rfl rfl hl.1 rfl (lv_room (Nat.le_of_ble_eq_true rfl)) dX5_readSum_14 ⟨Nat.zero_le _, Nat.zero_le _⟩
        · exact va_runU (z_fix C0) (c_X5_strengthOf l D Y F G S _ q0 hq0 5 x2 w2 ew2) (va_cwU 2 hts gX5_readSum_X5_strengthOf_u73X10 rfl rfl rfl rfl (by decide +kernel) ⟨Nat.le_of_ble_eq_true rfl, Nat.le_of_ble_eq_true rfl⟩) ⟨zPc_blind, z_prec C0 hw hq0 (ci := 10) zz rfl, z_give C0 hw hS _⟩ rfl rfl hl.1 rfl (lv_room (Nat.le_of_ble_eq_true rfl)) dX5_readSum_14 ⟨Nat.zero_le _, Nat.zero_le _⟩
      refine lv_iadd hx hb dX5_readSum_17 ?_
      refine lv_istore_n (lv' := [(1, .int ((x1 + w2))), (0, .ref (zad F G (100 + 4 * q0))), (2, .int x2)]) hx hb dX5_readSum_18 rfl hl (by decide) rfl (fun ls hl => ?_)
      refine lv_iinc (v := (x2 + 1)) (lv' := [(2, .int ((x2 + 1))), (1, .int ((x1 + w2))), (0, .ref (zad F G (100 + 4 * q0)))]) hx hb dX5_readSum_19 hl (k := 2) rfl rfl (by decide) rfl (fun ls hl => ?_)
      refine lv_goto (tgt := 4) hx hb dX5_readSum_22 (by decide) ?_
      exact ih ((x1 + w2)) ((x2 + 1)) h _ _ _ hw hS (lv_sub hl [2, 1, 0] rfl)
def M_X5_readSum (pk : Nat → Nat) (S : zSt) (q0 : Nat) : Option (Int32) :=
  M_X5_readSum_B4 pk S q0 zF 0 0
set_option maxHeartbeats 4000000 in
set_option maxRecDepth 100000 in
theorem c_X5_readSum (l : Launch) (D : va_G) (Y : Nat → ClassId) (F : Nat → Nat) (G : zG) (S : zSt) (sz : Nat) (q0 : Nat) (hq0 : zOKb (zpk G) q0 = true) (res : Int32) (h : M_X5_readSum (zpk G) S q0 = some res) : Met l yX5_readSum wsX5_readSum (zRm 2 42) (zPc D Y F G S sz [.ref (zad F G (100 + 4 * q0))]) (zQi D Y F (zAo F G sz) G (res, S)) 0 0 (zAo F G sz) := by
  unfold M_X5_readSum at h
  refine zMet (cc := cX5_readSum) (maxL := 3) (ret := (some .int)) (own := RX5) (by decide +kernel) rfl rfl (Nat.le_of_ble_eq_true rfl) ?_
  intro p e s m args below meth c C0 hin hw hS ls hl
  have hl : lv_has ls 3 [(0, .ref (zad F G (100 + 4 * q0)))] := hl
  generalize zAo F G sz = A at C0 hw hS ⊢
  obtain ⟨hx, hb, hml, hr, hown, hts, hK, hA, hlk, hN⟩ := id C0
  refine lv_iconst (v := 0) hx hb dX5_readSum_0 (by decide) ?_
  refine lv_istore_n (lv' := [(1, .int 0), (0, .ref (zad F G (100 + 4 * q0)))]) hx hb dX5_readSum_1 rfl hl (by decide) rfl (fun ls hl => ?_)
  refine lv_iconst (v := 0) hx hb dX5_readSum_2 (by decide) ?_
  refine lv_istore_n (lv' := [(2, .int 0), (1, .int 0), (0, .ref (zad F G (100 + 4 * q0)))]) hx hb dX5_readSum_3 rfl hl (by decide) rfl (fun ls hl => ?_)
  exact t_X5_readSum_B4 C0 S q0 hq0 res zF 0 0 h _ _ _ hw hS (lv_sub hl [2, 1, 0] rfl)
def M_X5_smearSum_B13 (pk : Nat → Nat) (S : zSt) (q0 : Nat) : Nat → Int32 → Int32 → Int32 → Option (Int32)
  | 0, _, _, _ => none
  | n + 1, x1, x3, x4 =>
  (if x3 ≤ x4 then some x1 else zg (zin x4 6) (Option.bind (some ((zar S ((100 + 4 * q0 + 2)) (Int32.toNatClampNeg x4)))) (fun v3 => M_X5_smearSum_B13 pk S q0 n ((x1 + v3)) x3 ((x4 + 1)))))
set_option maxHeartbeats 4000000 in
set_option maxRecDepth 100000 in
theorem t_X5_smearSum_B13 {p : Program} {l : Launch} {e : Env} {s : State} {m : MethodId} {args : Array Value} {below : List Frame} {meth : Method} {c : Code} {D : va_G} {Y : Nat → ClassId} {F : Nat → Nat} {A : Nat → Prop} {G : zG} (C0 : zCx p s m args meth c D Y F A RX5 cX5_smearSum 6 (some .int) wsX5_smearSum) (S : zSt) (q0 : Nat) (hq0 : zOKb (zpk G) q0 = true) (res : Int32) : ∀ (n : Nat), ∀ (x1 : Int32) (x3 : Int32) (x4 : Int32), M_X5_smearSum_B13 (zpk G) S q0 n x1 x3 x4 = some res → ∀ (H : Heap) (locs : List Loc) (ls : Array Slot), zH D Y F A G S H → va_S A s.heap H locs → lv_has ls 6 [(1, .int x1), (2, .ref (zad F G (100 + 4 * q0 + 2))), (3, .int x3), (4, .int x4)] → W p l e (zRm 0 0) s m args below meth c H locs 0 0 (MQ below (zQi D Y F A G (res, S)) args s 0 0 A) (F0 m 13 ls []) := by
  obtain ⟨hx, hb, hml, hr, hown, hts, hK, hA, hlk, hN⟩ := id C0
  intro n
  induction n with
  | zero =>
    intro x1 x3 x4 h
    unfold M_X5_smearSum_B13 at h
    cases h
  | succ n ih =>
    intro x1 x3 x4 h H locs ls hw hS hl
    rw [M_X5_smearSum_B13] at h
    refine lv_iload hx hb dX5_smearSum_13 (lv_at hl 3 rfl) ?_
    refine lv_iload_n hx hb dX5_smearSum_15 rfl (lv_at hl 2 rfl) ?_
    refine lv_icmp_ge (tgt := 36) hx hb dX5_smearSum_16 (by decide) (fun c1 => ?_) (fun c1 => ?_)
    · replace h := z_ifp c1 h
      refine lv_iload_n hx hb dX5_smearSum_36 rfl (lv_at hl 0 rfl) ?_
      exact z_reti C0 hw hS (congrArg (fun z => (z, S)) (Option.some.inj h)) dX5_smearSum_37
    · replace h := z_ifn c1 h
      refine lv_aload_n hx hb dX5_smearSum_19 rfl (lv_at hl 1 rfl) ?_
      refine lv_iload hx hb dX5_smearSum_20 (lv_at hl 3 rfl) ?_
      obtain ⟨b2, h⟩ := z_gd h
      refine z_iald C0 hw ((100 + 4 * q0 + 2)) (zOK_E hq0 2 (by decide)) rfl (zPR2 q0) (zin_in b2) dX5_smearSum_22 ?_
      obtain ⟨v3, ev3, h⟩ := z_bd h
      refine z_top (Option.some.inj ev3) ?_
      refine lv_istore (lv' := [(5, .int v3), (1, .int x1), (2, .ref (zad F G (100 + 4 * q0 + 2))), (3, .int x3), (4, .int x4)]) hx hb dX5_smearSum_23 hl (by decide) rfl (fun ls hl => ?_)
      refine lv_iload_n hx hb dX5_smearSum_25 rfl (lv_at hl 1 rfl) ?_
      refine lv_iload hx hb dX5_smearSum_26 (lv_at hl 0 rfl) ?_
      refine lv_iadd hx hb dX5_smearSum_28 ?_
      refine lv_istore_n (lv' := [(1, .int ((x1 + v3))), (5, .int v3), (2, .ref (zad F G (100 + 4 * q0 + 2))), (3, .int x3), (4, .int x4)]) hx hb dX5_smearSum_29 rfl hl (by decide) rfl (fun ls hl => ?_)
      refine lv_iinc (v := (x4 + 1)) (lv' := [(4, .int ((x4 + 1))), (1, .int ((x1 + v3))), (5, .int v3), (2, .ref (zad F G (100 + 4 * q0 + 2))), (3, .int x3)]) hx hb dX5_smearSum_30 hl (k := 4) rfl rfl (by decide) rfl (fun ls hl => ?_)
      refine lv_goto (tgt := 13) hx hb dX5_smearSum_33 (by decide) ?_
      exact ih ((x1 + v3)) x3 ((x4 + 1)) h _ _ _ hw hS (lv_sub hl [1, 3, 4, 0] rfl)
def M_X5_smearSum (pk : Nat → Nat) (S : zSt) (q0 : Nat) : Option (Int32) :=
  M_X5_smearSum_B13 pk S q0 zF 0 ((Int32.ofNat 6)) 0
set_option maxHeartbeats 4000000 in
set_option maxRecDepth 100000 in
theorem c_X5_smearSum (l : Launch) (D : va_G) (Y : Nat → ClassId) (F : Nat → Nat) (G : zG) (S : zSt) (sz : Nat) (q0 : Nat) (hq0 : zOKb (zpk G) q0 = true) (res : Int32) (h : M_X5_smearSum (zpk G) S q0 = some res) : Met l yX5_smearSum wsX5_smearSum (zRm 0 0) (zPc D Y F G S sz [.ref (zad F G (100 + 4 * q0))]) (zQi D Y F (zAo F G sz) G (res, S)) 0 0 (zAo F G sz) := by
  unfold M_X5_smearSum at h
  refine zMet (cc := cX5_smearSum) (maxL := 6) (ret := (some .int)) (own := RX5) (by decide +kernel) rfl rfl (Nat.le_of_ble_eq_true rfl) ?_
  intro p e s m args below meth c C0 hin hw hS ls hl
  have hl : lv_has ls 6 [(0, .ref (zad F G (100 + 4 * q0)))] := hl
  generalize zAo F G sz = A at C0 hw hS ⊢
  obtain ⟨hx, hb, hml, hr, hown, hts, hK, hA, hlk, hN⟩ := id C0
  refine lv_iconst (v := 0) hx hb dX5_smearSum_0 (by decide) ?_
  refine lv_istore_n (lv' := [(1, .int 0), (0, .ref (zad F G (100 + 4 * q0)))]) hx hb dX5_smearSum_1 rfl hl (by decide) rfl (fun ls hl => ?_)
  refine lv_aload_n hx hb dX5_smearSum_2 rfl (lv_at hl 1 rfl) ?_
  refine z_getP C0 inP_X5_smearSum hw hq0 4 (by decide) (v := .ref (zad F G (100 + 4 * q0 + 2))) rfl 1 rfl (Or.inl rfl) dX5_smearSum_3 ?_
  refine lv_astore_n (lv' := [(2, .ref (zad F G (100 + 4 * q0 + 2))), (1, .int 0), (0, .ref (zad F G (100 + 4 * q0)))]) hx hb dX5_smearSum_6 rfl hl (by decide) rfl (fun ls hl => ?_)
  refine lv_aload_n hx hb dX5_smearSum_7 rfl (lv_at hl 0 rfl) ?_
  refine z_alen C0 hw ((100 + 4 * q0 + 2)) (zOK_E hq0 2 (by decide)) rfl (zPR2 q0) (v := Int32.ofNat 6) rfl dX5_smearSum_8 ?_
  refine lv_istore_n (lv' := [(3, .int ((Int32.ofNat 6))), (2, .ref (zad F G (100 + 4 * q0 + 2))), (1, .int 0), (0, .ref (zad F G (100 + 4 * q0)))]) hx hb dX5_smearSum_9 rfl hl (by decide) rfl (fun ls hl => ?_)
  refine lv_iconst (v := 0) hx hb dX5_smearSum_10 (by decide) ?_
  refine lv_istore (lv' := [(4, .int 0), (3, .int ((Int32.ofNat 6))), (2, .ref (zad F G (100 + 4 * q0 + 2))), (1, .int 0), (0, .ref (zad F G (100 + 4 * q0)))]) hx hb dX5_smearSum_11 hl (by decide) rfl (fun ls hl => ?_)
  exact t_X5_smearSum_B13 C0 S q0 hq0 res zF 0 ((Int32.ofNat 6)) 0 h _ _ _ hw hS (lv_sub hl [3, 2, 1, 0] rfl)
def M_X5_strengthSum_B13 (pk : Nat → Nat) (S : zSt) (q0 : Nat) : Nat → Int32 → Int32 → Int32 → Option (Int32)
  | 0, _, _, _ => none
  | n + 1, x1, x3, x4 =>
  (if x3 ≤ x4 then some x1 else zg (zin x4 48) (Option.bind (some ((zar S ((100 + 4 * q0 + 1)) (Int32.toNatClampNeg x4)))) (fun v3 => M_X5_strengthSum_B13 pk S q0 n ((x1 + v3)) x3 ((x4 + 1)))))
set_option maxHeartbeats 4000000 in
set_option maxRecDepth 100000 in
theorem t_X5_strengthSum_B13 {p : Program} {l : Launch} {e : Env} {s : State} {m : MethodId} {args : Array Value} {below : List Frame} {meth : Method} {c : Code} {D : va_G} {Y : Nat → ClassId} {F : Nat → Nat} {A : Nat → Prop} {G : zG} (C0 : zCx p s m args meth c D Y F A RX5 cX5_strengthSum 6 (some .int) wsX5_strengthSum) (S : zSt) (q0 : Nat) (hq0 : zOKb (zpk G) q0 = true) (res : Int32) : ∀ (n : Nat), ∀ (x1 : Int32) (x3 : Int32) (x4 : Int32), M_X5_strengthSum_B13 (zpk G) S q0 n x1 x3 x4 = some res → ∀ (H : Heap) (locs : List Loc) (ls : Array Slot), zH D Y F A G S H → va_S A s.heap H locs → lv_has ls 6 [(1, .int x1), (2, .ref (zad F G (100 + 4 * q0 + 1))), (3, .int x3), (4, .int x4)] → W p l e (zRm 0 0) s m args below meth c H locs 0 0 (MQ below (zQi D Y F A G (res, S)) args s 0 0 A) (F0 m 13 ls []) := by
  obtain ⟨hx, hb, hml, hr, hown, hts, hK, hA, hlk, hN⟩ := id C0
  intro n
  induction n with
  | zero =>
    intro x1 x3 x4 h
    unfold M_X5_strengthSum_B13 at h
    cases h
  | succ n ih =>
    intro x1 x3 x4 h H locs ls hw hS hl
    rw [M_X5_strengthSum_B13] at h
    refine lv_iload hx hb dX5_strengthSum_13 (lv_at hl 3 rfl) ?_
    refine lv_iload_n hx hb dX5_strengthSum_15 rfl (lv_at hl 2 rfl) ?_
    refine lv_icmp_ge (tgt := 36) hx hb dX5_strengthSum_16 (by decide) (fun c1 => ?_) (fun c1 => ?_)
    · replace h := z_ifp c1 h
      refine lv_iload_n hx hb dX5_strengthSum_36 rfl (lv_at hl 0 rfl) ?_
      exact z_reti C0 hw hS (congrArg (fun z => (z, S)) (Option.some.inj h)) dX5_strengthSum_37
    · replace h := z_ifn c1 h
      refine lv_aload_n hx hb dX5_strengthSum_19 rfl (lv_at hl 1 rfl) ?_
      refine lv_iload hx hb dX5_strengthSum_20 (lv_at hl 3 rfl) ?_
      obtain ⟨b2, h⟩ := z_gd h
      refine z_iald C0 hw ((100 + 4 * q0 + 1)) (zOK_E hq0 1 (by decide)) rfl (zPR1 q0) (zin_in b2) dX5_strengthSum_22 ?_
      obtain ⟨v3, ev3, h⟩ := z_bd h
      refine z_top (Option.some.inj ev3) ?_
      refine lv_istore (lv' := [(5, .int v3), (1, .int x1), (2, .ref (zad F G (100 + 4 * q0 + 1))), (3, .int x3), (4, .int x4)]) hx hb dX5_strengthSum_23 hl (by decide) rfl (fun ls hl => ?_)
      refine lv_iload_n hx hb dX5_strengthSum_25 rfl (lv_at hl 1 rfl) ?_
      refine lv_iload hx hb dX5_strengthSum_26 (lv_at hl 0 rfl) ?_
      refine lv_iadd hx hb dX5_strengthSum_28 ?_
      refine lv_istore_n (lv' := [(1, .int ((x1 + v3))), (5, .int v3), (2, .ref (zad F G (100 + 4 * q0 + 1))), (3, .int x3), (4, .int x4)]) hx hb dX5_strengthSum_29 rfl hl (by decide) rfl (fun ls hl => ?_)
      refine lv_iinc (v := (x4 + 1)) (lv' := [(4, .int ((x4 + 1))), (1, .int ((x1 + v3))), (5, .int v3), (2, .ref (zad F G (100 + 4 * q0 + 1))), (3, .int x3)]) hx hb dX5_strengthSum_30 hl (k := 4) rfl rfl (by decide) rfl (fun ls hl => ?_)
      refine lv_goto (tgt := 13) hx hb dX5_strengthSum_33 (by decide) ?_
      exact ih ((x1 + v3)) x3 ((x4 + 1)) h _ _ _ hw hS (lv_sub hl [1, 3, 4, 0] rfl)
def M_X5_strengthSum (pk : Nat → Nat) (S : zSt) (q0 : Nat) : Option (Int32) :=
  M_X5_strengthSum_B13 pk S q0 zF 0 ((Int32.ofNat 48)) 0
set_option maxHeartbeats 4000000 in
set_option maxRecDepth 100000 in
theorem c_X5_strengthSum (l : Launch) (D : va_G) (Y : Nat → ClassId) (F : Nat → Nat) (G : zG) (S : zSt) (sz : Nat) (q0 : Nat) (hq0 : zOKb (zpk G) q0 = true) (res : Int32) (h : M_X5_strengthSum (zpk G) S q0 = some res) : Met l yX5_strengthSum wsX5_strengthSum (zRm 0 0) (zPc D Y F G S sz [.ref (zad F G (100 + 4 * q0))]) (zQi D Y F (zAo F G sz) G (res, S)) 0 0 (zAo F G sz) := by
  unfold M_X5_strengthSum at h
  refine zMet (cc := cX5_strengthSum) (maxL := 6) (ret := (some .int)) (own := RX5) (by decide +kernel) rfl rfl (Nat.le_of_ble_eq_true rfl) ?_
  intro p e s m args below meth c C0 hin hw hS ls hl
  have hl : lv_has ls 6 [(0, .ref (zad F G (100 + 4 * q0)))] := hl
  generalize zAo F G sz = A at C0 hw hS ⊢
  obtain ⟨hx, hb, hml, hr, hown, hts, hK, hA, hlk, hN⟩ := id C0
  refine lv_iconst (v := 0) hx hb dX5_strengthSum_0 (by decide) ?_
  refine lv_istore_n (lv' := [(1, .int 0), (0, .ref (zad F G (100 + 4 * q0)))]) hx hb dX5_strengthSum_1 rfl hl (by decide) rfl (fun ls hl => ?_)
  refine lv_aload_n hx hb dX5_strengthSum_2 rfl (lv_at hl 1 rfl) ?_
  refine z_getP C0 inP_X5_strengthSum hw hq0 3 (by decide) (v := .ref (zad F G (100 + 4 * q0 + 1))) rfl 1 rfl (Or.inl rfl) dX5_strengthSum_3 ?_
  refine lv_astore_n (lv' := [(2, .ref (zad F G (100 + 4 * q0 + 1))), (1, .int 0), (0, .ref (zad F G (100 + 4 * q0)))]) hx hb dX5_strengthSum_6 rfl hl (by decide) rfl (fun ls hl => ?_)
  refine lv_aload_n hx hb dX5_strengthSum_7 rfl (lv_at hl 0 rfl) ?_
  refine z_alen C0 hw ((100 + 4 * q0 + 1)) (zOK_E hq0 1 (by decide)) rfl (zPR1 q0) (v := Int32.ofNat 48) rfl dX5_strengthSum_8 ?_
  refine lv_istore_n (lv' := [(3, .int ((Int32.ofNat 48))), (2, .ref (zad F G (100 + 4 * q0 + 1))), (1, .int 0), (0, .ref (zad F G (100 + 4 * q0)))]) hx hb dX5_strengthSum_9 rfl hl (by decide) rfl (fun ls hl => ?_)
  refine lv_iconst (v := 0) hx hb dX5_strengthSum_10 (by decide) ?_
  refine lv_istore (lv' := [(4, .int 0), (3, .int ((Int32.ofNat 48))), (2, .ref (zad F G (100 + 4 * q0 + 1))), (1, .int 0), (0, .ref (zad F G (100 + 4 * q0)))]) hx hb dX5_strengthSum_11 hl (by decide) rfl (fun ls hl => ?_)
  exact t_X5_strengthSum_B13 C0 S q0 hq0 res zF 0 ((Int32.ofNat 48)) 0 h _ _ _ hw hS (lv_sub hl [3, 2, 1, 0] rfl)
