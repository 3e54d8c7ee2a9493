set_option maxRecDepth 20000 in
theorem in_X4_canBe_X4 : ∀ w ∈ u_ws RX4 TX4 6, w ∈ wsX4_canBe := by decide +kernel
set_option maxRecDepth 20000 in
theorem in_X4_deadTotal_X4 : ∀ w ∈ u_ws RX4 TX4 6, w ∈ wsX4_deadTotal := by decide +kernel
set_option maxRecDepth 20000 in
theorem in_X4_findFits_X4 : ∀ w ∈ u_ws RX4 TX4 6, w ∈ wsX4_findFits := by decide +kernel
set_option maxRecDepth 20000 in
theorem in_X4_hasRoom_X4 : ∀ w ∈ u_ws RX4 TX4 6, w ∈ wsX4_hasRoom := by decide +kernel
set_option maxRecDepth 20000 in
theorem in_X4_longestBearer_X4 : ∀ w ∈ u_ws RX4 TX4 6, w ∈ wsX4_longestBearer := by decide +kernel
set_option maxRecDepth 20000 in
theorem in_X4_personAt_X4 : ∀ w ∈ u_ws RX4 TX4 6, w ∈ wsX4_personAt := by decide +kernel
set_option maxRecDepth 20000 in
theorem in_X4_smearTotal_X4 : ∀ w ∈ u_ws RX4 TX4 6, w ∈ wsX4_smearTotal := by decide +kernel
set_option maxRecDepth 20000 in
theorem in_X4_strengthTotal_X4 : ∀ w ∈ u_ws RX4 TX4 6, w ∈ wsX4_strengthTotal := by decide +kernel
set_option maxRecDepth 20000 in
theorem inP_X0_looks : ∀ w ∈ wsPers, w ∈ wsX0_looks := by decide +kernel
set_option maxRecDepth 20000 in
theorem inP_X3_looks : ∀ w ∈ wsPers, w ∈ wsX3_looks := by decide +kernel
set_option maxRecDepth 20000 in
theorem inP_X4_deadTotal : ∀ w ∈ wsPers, w ∈ wsX4_deadTotal := by decide +kernel
set_option maxRecDepth 20000 in
theorem inP_X5_firstAskew : ∀ w ∈ wsPers, w ∈ wsX5_firstAskew := by decide +kernel
set_option maxRecDepth 20000 in
theorem inP_X5_movesToStraight : ∀ w ∈ wsPers, w ∈ wsX5_movesToStraight := by decide +kernel
set_option maxRecDepth 20000 in
theorem inP_X5_trueBits : ∀ w ∈ wsPers, w ∈ wsX5_trueBits := by decide +kernel
def M_X5_trueBits_B4 (pk : Nat → Nat) (S : zSt) (q0 : Nat) : Nat → Int32 → Int32 → Option (Int32)
  | 0, _, _ => none
  | n + 1, x1, x2 =>
  (if 6 ≤ x2 then some x1 else zg (zin x2 6) ((if (zar S ((100 + 4 * q0 + 3)) (Int32.toNatClampNeg x2)) = 0 then Option.bind (some ((x1 ||| ((1 : Int32) <<< (x2 &&& 31))))) (fun v4 => M_X5_trueBits_B4 pk S q0 n v4 ((x2 + 1))) else M_X5_trueBits_B4 pk S q0 n x1 ((x2 + 1)))))
set_option maxHeartbeats 4000000 in
set_option maxRecDepth 100000 in
theorem t_X5_trueBits_B4 {p : Program} {l : Launch} {e : Env} {s : State} {m : MethodId} {args : Array Value} {below : List Frame} {meth : Method} {c : Code} {D : va_G} {Y : Nat → ClassId} {F : Nat → Nat} {A : Nat → Prop} {G : zG} (C0 : zCx p s m args meth c D Y F A RX5 cX5_trueBits 3 (some .int) wsX5_trueBits) (S : zSt) (q0 : Nat) (hq0 : zOKb (zpk G) q0 = true) (res : Int32) : ∀ (n : Nat), ∀ (x1 : Int32) (x2 : Int32), M_X5_trueBits_B4 (zpk G) S q0 n x1 x2 = some res → ∀ (H : Heap) (locs : List Loc) (ls : Array Slot), zH D Y F A G S H → va_S A s.heap H locs → lv_has ls 3 [(0, .ref (zad F G (100 + 4 * q0))), (1, .int x1), (2, .int x2)] → W p l e (zRm 0 0) s m args below meth c H locs 0 0 (MQ below (zQi D Y F A G (res, S)) args s 0 0 A) (F0 m 4 ls []) := by
  obtain ⟨hx, hb, hml, hr, hown, hts, hK, hA, hlk, hN⟩ := id C0
  intro n
  induction n with
  | zero =>
    intro x1 x2 h
    unfold M_X5_trueBits_B4 at h
    cases h
  | succ n ih =>
    intro x1 x2 h H locs ls hw hS hl
    rw [M_X5_trueBits_B4] at h
    refine lv_iload_n hx hb dX5_trueBits_4 rfl (lv_at hl 2 rfl) ?_
    refine lv_bipush (v := 6) hx hb dX5_trueBits_5 (by decide) ?_
    refine lv_icmp_ge (tgt := 31) hx hb dX5_trueBits_7 (by decide) (fun c1 => ?_) (fun c1 => ?_)
    · replace h := z_ifp c1 h
      refine lv_iload_n hx hb dX5_trueBits_31 rfl (lv_at hl 1 rfl) ?_
      exact z_reti C0 hw hS (congrArg (fun z => (z, S)) (Option.some.inj h)) dX5_trueBits_32
    · replace h := z_ifn c1 h
      refine lv_aload_n hx hb dX5_trueBits_10 rfl (lv_at hl 0 rfl) ?_
      refine z_getP C0 inP_X5_trueBits hw hq0 5 (by decide) (v := .ref (zad F G (100 + 4 * q0 + 3))) rfl 1 rfl (Or.inl rfl) dX5_trueBits_11 ?_
      refine lv_iload_n hx hb dX5_trueBits_14 rfl (lv_at hl 2 rfl) ?_
      obtain ⟨b2, h⟩ := z_gd h
      refine z_iald C0 hw ((100 + 4 * q0 + 3)) (zOK_E hq0 3 (by decide)) rfl (zPR3 q0) (zin_in b2) dX5_trueBits_15 ?_
      refine lv_if_ne (tgt := 25) hx hb dX5_trueBits_16 (by decide) (fun c3 => ?_) (fun c3 => ?_)
      · replace h := z_ifn c3 h
        refine lv_iinc (v := (x2 + 1)) (lv' := [(2, .int ((x2 + 1))), (0, .ref (zad F G (100 + 4 * q0))), (1, .int x1)]) hx hb dX5_trueBits_25 hl (k := 2) rfl rfl (by decide) rfl (fun ls hl => ?_)
        refine lv_goto (tgt := 4) hx hb dX5_trueBits_28 (by decide) ?_
        exact ih x1 ((x2 + 1)) h _ _ _ hw hS (lv_sub hl [1, 2, 0] rfl)
      · replace h := z_ifp c3 h
        refine lv_iload_n hx hb dX5_trueBits_19 rfl (lv_at hl 1 rfl) ?_
        refine lv_iconst (v := 1) hx hb dX5_trueBits_20 (by decide) ?_
        refine lv_iload_n hx hb dX5_trueBits_21 rfl (lv_at hl 2 rfl) ?_
        refine lv_ishl hx hb dX5_trueBits_22 ?_
        refine lv_ior hx hb dX5_trueBits_23 ?_
        obtain ⟨v4, ev4, h⟩ := z_bd h
        refine z_top (Option.some.inj ev4) ?_
        refine lv_istore_n (lv' := [(1, .int v4), (0, .ref (zad F G (100 + 4 * q0))), (2, .int x2)]) hx hb dX5_trueBits_24 rfl hl (by decide) rfl (fun ls hl => ?_)
        refine lv_iinc (v := (x2 + 1)) (lv' := [(2, .int ((x2 + 1))), (1, .int v4), (0, .ref (zad F G (100 + 4 * q0)))]) hx hb dX5_trueBits_25 hl (k := 2) rfl rfl (by decide) rfl (fun ls hl => ?_)
        refine lv_goto (tgt := 4) hx hb dX5_trueBits_28 (by decide) ?_
        exact ih v4 ((x2 + 1)) h _ _ _ hw hS (lv_sub hl [2, 1, 0] rfl)
def M_X5_trueBits (pk : Nat → Nat) (S : zSt) (q0 : Nat) : Option (Int32) :=
  M_X5_trueBits_B4 pk S q0 zF 0 0
set_option maxHeartbeats 4000000 in
set_option maxRecDepth 100000 in
theorem c_X5_trueBits (l : Launch) (D : va_G) (Y : Nat → ClassId) (F : Nat → Nat) (G : zG) (S : zSt) (sz : Nat) (q0 : Nat) (hq0 : zOKb (zpk G) q0 = true) (res : Int32) (h : M_X5_trueBits (zpk G) S q0 = some res) : Met l yX5_trueBits wsX5_trueBits (zRm 0 0) (zPc D Y F G S sz [.ref (zad F G (100 + 4 * q0))]) (zQi D Y F (zAo F G sz) G (res, S)) 0 0 (zAo F G sz) := by
  unfold M_X5_trueBits at h
  refine zMet (cc := cX5_trueBits) (maxL := 3) (ret := (some .int)) (own := RX5) (by decide +kernel) rfl rfl (Nat.le_of_ble_eq_true rfl) ?_
  intro p e s m args below meth c C0 hin hw hS ls hl
  have hl : lv_has ls 3 [(0, .ref (zad F G (100 + 4 * q0)))] := hl
  generalize zAo F G sz = A at C0 hw hS ⊢
  obtain ⟨hx, hb, hml, hr, hown, hts, hK, hA, hlk, hN⟩ := id C0
  refine lv_iconst (v := 0) hx hb dX5_trueBits_0 (by decide) ?_
  refine lv_istore_n (lv' := [(1, .int 0), (0, .ref (zad F G (100 + 4 * q0)))]) hx hb dX5_trueBits_1 rfl hl (by decide) rfl (fun ls hl => ?_)
  refine lv_iconst (v := 0) hx hb dX5_trueBits_2 (by decide) ?_
  refine lv_istore_n (lv' := [(2, .int 0), (1, .int 0), (0, .ref (zad F G (100 + 4 * q0)))]) hx hb dX5_trueBits_3 rfl hl (by decide) rfl (fun ls hl => ?_)
  exact t_X5_trueBits_B4 C0 S q0 hq0 res zF 0 0 h _ _ _ hw hS (lv_sub hl [2, 1, 0] rfl)
def M_X5_movesToStraight_B16 (pk : Nat → Nat) (S : zSt) (q0 : Nat) : Nat → Int32 → Int32 → Int32 → Int32 → Option (Int32)
  | 0, _, _, _, _ => none
  | n + 1, x1, x2, x4, x5 =>
  (if x4 ≤ x5 then some x1 else zg (zin x5 6) (Option.bind (some ((zar S ((100 + 4 * q0 + 3)) (Int32.toNatClampNeg x5)))) (fun v3 => Option.bind (some ((x1 + (if 0 ≤ ((v3 - x2)) then (v3 - x2) else 0 - ((v3 - x2)))))) (fun v4 => M_X5_movesToStraight_B16 pk S q0 n v4 v3 x4 ((x5 + 1))))))
set_option maxHeartbeats 4000000 in
set_option maxRecDepth 100000 in
theorem t_X5_movesToStraight_B16 {p : Program} {l : Launch} {e : Env} {s : State} {m : MethodId} {args : Array Value} {below : List Frame} {meth : Method} {c : Code} {D : va_G} {Y : Nat → ClassId} {F : Nat → Nat} {A : Nat → Prop} {G : zG} (C0 : zCx p s m args meth c D Y F A RX5 cX5_movesToStraight 7 (some .int) wsX5_movesToStraight) (S : zSt) (q0 : Nat) (hq0 : zOKb (zpk G) q0 = true) (res : Int32) : ∀ (n : Nat), ∀ (x1 : Int32) (x2 : Int32) (x4 : Int32) (x5 : Int32), M_X5_movesToStraight_B16 (zpk G) S q0 n x1 x2 x4 x5 = some res → ∀ (H : Heap) (locs : List Loc) (ls : Array Slot), zH D Y F A G S H → va_S A s.heap H locs → lv_has ls 7 [(1, .int x1), (2, .int x2), (3, .ref (zad F G (100 + 4 * q0 + 3))), (4, .int x4), (5, .int x5)] → W p l e (zRm 1 24) s m args below meth c H locs 0 0 (MQ below (zQi D Y F A G (res, S)) args s 0 0 A) (F0 m 16 ls []) := by
  obtain ⟨hx, hb, hml, hr, hown, hts, hK, hA, hlk, hN⟩ := id C0
  intro n
  induction n with
  | zero =>
    intro x1 x2 x4 x5 h
    unfold M_X5_movesToStraight_B16 at h
    cases h
  | succ n ih =>
    intro x1 x2 x4 x5 h H locs ls hw hS hl
    rw [M_X5_movesToStraight_B16] at h
    refine lv_iload hx hb dX5_movesToStraight_16 (lv_at hl 4 rfl) ?_
    refine lv_iload hx hb dX5_movesToStraight_18 (lv_at hl 3 rfl) ?_
    refine lv_icmp_ge (tgt := 48) hx hb dX5_movesToStraight_20 (by decide) (fun c1 => ?_) (fun c1 => ?_)
    · replace h := z_ifp c1 h
      refine lv_iload_n hx hb dX5_movesToStraight_48 rfl (lv_at hl 0 rfl) ?_
      exact z_reti C0 hw hS (congrArg (fun z => (z, S)) (Option.some.inj h)) dX5_movesToStraight_49
    · replace h := z_ifn c1 h
      refine lv_aload_n hx hb dX5_movesToStraight_23 rfl (lv_at hl 2 rfl) ?_
      refine lv_iload hx hb dX5_movesToStraight_24 (lv_at hl 4 rfl) ?_
      obtain ⟨b2, h⟩ := z_gd h
      refine z_iald C0 hw ((100 + 4 * q0 + 3)) (zOK_E hq0 3 (by decide)) rfl (zPR3 q0) (zin_in b2) dX5_movesToStraight_26 ?_
      obtain ⟨v3, ev3, h⟩ := z_bd h
      refine z_top (Option.some.inj ev3) ?_
      refine lv_istore (lv' := [(6, .int v3), (1, .int x1), (2, .int x2), (3, .ref (zad F G (100 + 4 * q0 + 3))), (4, .int x4), (5, .int x5)]) hx hb dX5_movesToStraight_27 hl (by decide) rfl (fun ls hl => ?_)
      refine lv_iload_n hx hb dX5_movesToStraight_29 rfl (lv_at hl 1 rfl) ?_
      refine lv_iload hx hb dX5_movesToStraight_30 (lv_at hl 0 rfl) ?_
      refine lv_iload_n hx hb dX5_movesToStraight_32 rfl (lv_at hl 2 rfl) ?_
      refine lv_isub hx hb dX5_movesToStraight_33 ?_
      refine va_mabs hx hb (hml.trans hl.1.symm) hown (hts _ (List.mem_of_getElem? (i := 2) rfl)) (hts _ (List.mem_of_getElem? (i := 3) rfl)) (hts _ (List.mem_of_getElem? (i := 4) rfl)) (hts _ (List.mem_of_getElem? (i := 5) rfl)) (Nat.le_of_ble_eq_true rfl) (Nat.le_of_ble_eq_true rfl) (Nat.zero_le _) (Nat.zero_le _) dX5_movesToStraight_34 ?_
      refine lv_iadd hx hb dX5_movesToStraight_37 ?_
      obtain ⟨v4, ev4, h⟩ := z_bd h
      refine z_top (Option.some.inj ev4) ?_
      refine lv_istore_n (lv' := [(1, .int v4), (6, .int v3), (2, .int x2), (3, .ref (zad F G (100 + 4 * q0 + 3))), (4, .int x4), (5, .int x5)]) hx hb dX5_movesToStraight_38 rfl hl (by decide) rfl (fun ls hl => ?_)
      refine lv_iload hx hb dX5_movesToStraight_39 (lv_at hl 1 rfl) ?_
      refine lv_istore_n (lv' := [(2, .int v3), (1, .int v4), (6, .int v3), (3, .ref (zad F G (100 + 4 * q0 + 3))), (4, .int x4), (5, .int x5)]) hx hb dX5_movesToStraight_41 rfl hl (by decide) rfl (fun ls hl => ?_)
      refine lv_iinc (v := (x5 + 1)) (lv' := [(5, .int ((x5 + 1))), (2, .int v3), (1, .int v4), (6, .int v3), (3, .ref (zad F G (100 + 4 * q0 + 3))), (4, .int x4)]) hx hb dX5_movesToStraight_42 hl (k := 5) rfl rfl (by decide) rfl (fun ls hl => ?_)
      refine lv_goto (tgt := 16) hx hb dX5_movesToStraight_45 (by decide) ?_
      exact ih v4 v3 x4 ((x5 + 1)) h _ _ _ hw hS (lv_sub hl [2, 1, 4, 5, 0] rfl)
def M_X5_movesToStraight (pk : Nat → Nat) (S : zSt) (q0 : Nat) : Option (Int32) :=
  M_X5_movesToStraight_B16 pk S q0 zF 0 0 ((Int32.ofNat 6)) 0
set_option maxHeartbeats 4000000 in
set_option maxRecDepth 100000 in
theorem c_X5_movesToStraight (l : Launch) (D : va_G) (Y : Nat → ClassId) (F : Nat → Nat) (G : zG) (S : zSt) (sz : Nat) (q0 : Nat) (hq0 : zOKb (zpk G) q0 = true) (res : Int32) (h : M_X5_movesToStraight (zpk G) S q0 = some res) : Met l yX5_movesToStraight wsX5_movesToStraight (zRm 1 24) (zPc D Y F G S sz [.ref (zad F G (100 + 4 * q0))]) (zQi D Y F (zAo F G sz) G (res, S)) 0 0 (zAo F G sz) := by
  unfold M_X5_movesToStraight at h
  refine zMet (cc := cX5_movesToStraight) (maxL := 7) (ret := (some .int)) (own := RX5) (by decide +kernel) rfl rfl (Nat.le_of_ble_eq_true rfl) ?_
  intro p e s m args below meth c C0 hin hw hS ls hl
  have hl : lv_has ls 7 [(0, .ref (zad F G (100 + 4 * q0)))] := hl
  generalize zAo F G sz = A at C0 hw hS ⊢
  obtain ⟨hx, hb, hml, hr, hown, hts, hK, hA, hlk, hN⟩ := id C0
  refine lv_iconst (v := 0) hx hb dX5_movesToStraight_0 (by decide) ?_
  refine lv_istore_n (lv' := [(1, .int 0), (0, .ref (zad F G (100 + 4 * q0)))]) hx hb dX5_movesToStraight_1 rfl hl (by decide) rfl (fun ls hl => ?_)
  refine lv_iconst (v := 0) hx hb dX5_movesToStraight_2 (by decide) ?_
  refine lv_istore_n (lv' := [(2, .int 0), (1, .int 0), (0, .ref (zad F G (100 + 4 * q0)))]) hx hb dX5_movesToStraight_3 rfl hl (by decide) rfl (fun ls hl => ?_)
  refine lv_aload_n hx hb dX5_movesToStraight_4 rfl (lv_at hl 2 rfl) ?_
  refine z_getP C0 inP_X5_movesToStraight hw hq0 5 (by decide) (v := .ref (zad F G (100 + 4 * q0 + 3))) rfl 1 rfl (Or.inl rfl) dX5_movesToStraight_5 ?_
  refine lv_astore_n (lv' := [(3, .ref (zad F G (100 + 4 * q0 + 3))), (2, .int 0), (1, .int 0), (0, .ref (zad F G (100 + 4 * q0)))]) hx hb dX5_movesToStraight_8 rfl hl (by decide) rfl (fun ls hl => ?_)
  refine lv_aload_n hx hb dX5_movesToStraight_9 rfl (lv_at hl 0 rfl) ?_
  refine z_alen C0 hw ((100 + 4 * q0 + 3)) (zOK_E hq0 3 (by decide)) rfl (zPR3 q0) (v := Int32.ofNat 6) rfl dX5_movesToStraight_10 ?_
  refine lv_istore (lv' := [(4, .int ((Int32.ofNat 6))), (3, .ref (zad F G (100 + 4 * q0 + 3))), (2, .int 0), (1, .int 0), (0, .ref (zad F G (100 + 4 * q0)))]) hx hb dX5_movesToStraight_11 hl (by decide) rfl (fun ls hl => ?_)
  refine lv_iconst (v := 0) hx hb dX5_movesToStraight_13 (by decide) ?_
  refine lv_istore (lv' := [(5, .int 0), (4, .int ((Int32.ofNat 6))), (3, .ref (zad F G (100 + 4 * q0 + 3))), (2, .int 0), (1, .int 0), (0, .ref (zad F G (100 + 4 * q0)))]) hx hb dX5_movesToStraight_14 hl (by decide) rfl (fun ls hl => ?_)
  exact t_X5_movesToStraight_B16 C0 S q0 hq0 res zF 0 0 ((Int32.ofNat 6)) 0 h _ _ _ hw hS (lv_sub hl [4, 3, 2, 1, 0] rfl)
def M_X5_firstAskew_B2 (pk : Nat → Nat) (S : zSt) (q0 : Nat) : Nat → Int32 → Option (Int32)
  | 0, _ => none
  | n + 1, x1 =>
  (if 6 ≤ x1 then some (-1) else zg (zin x1 6) ((if (zar S ((100 + 4 * q0 + 3)) (Int32.toNatClampNeg x1)) = 0 then M_X5_firstAskew_B2 pk S q0 n ((x1 + 1)) else some x1)))
set_option maxHeartbeats 4000000 in
set_option maxRecDepth 100000 in
theorem t_X5_firstAskew_B2 {p : Program} {l : Launch} {e : Env} {s : State} {m : MethodId} {args : Array Value} {below : List Frame} {meth : Method} {c : Code} {D : va_G} {Y : Nat → ClassId} {F : Nat → Nat} {A : Nat → Prop} {G : zG} (C0 : zCx p s m args meth c D Y F A RX5 cX5_firstAskew 2 (some .int) wsX5_firstAskew) (S : zSt) (q0 : Nat) (hq0 : zOKb (zpk G) q0 = true) (res : Int32) : ∀ (n : Nat), ∀ (x1 : Int32), M_X5_firstAskew_B2 (zpk G) S q0 n x1 = some res → ∀ (H : Heap) (locs : List Loc) (ls : Array Slot), zH D Y F A G S H → va_S A s.heap H locs → lv_has ls 2 [(0, .ref (zad F G (100 + 4 * q0))), (1, .int x1)] → W p l e (zRm 0 0) s m args below meth c H locs 0 0 (MQ below (zQi D Y F A G (res, S)) args s 0 0 A) (F0 m 2 ls []) := by
  obtain ⟨hx, hb, hml, hr, hown, hts, hK, hA, hlk, hN⟩ := id C0
  intro n
  induction n with
  | zero =>
    intro x1 h
    unfold M_X5_firstAskew_B2 at h
    cases h
  | succ n ih =>
    intro x1 h H locs ls hw hS hl
    rw [M_X5_firstAskew_B2] at h
    refine lv_iload_n hx hb dX5_firstAskew_2 rfl (lv_at hl 1 rfl) ?_
    refine lv_bipush (v := 6) hx hb dX5_firstAskew_3 (by decide) ?_
    refine lv_icmp_ge (tgt := 25) hx hb dX5_firstAskew_5 (by decide) (fun c1 => ?_) (fun c1 => ?_)
    · replace h := z_ifp c1 h
      refine lv_iconst (v := (-1)) hx hb dX5_firstAskew_25 (by decide) ?_
      exact z_reti C0 hw hS (congrArg (fun z => (z, S)) (Option.some.inj h)) dX5_firstAskew_26
    · replace h := z_ifn c1 h
      refine lv_aload_n hx hb dX5_firstAskew_8 rfl (lv_at hl 0 rfl) ?_
      refine z_getP C0 inP_X5_firstAskew hw hq0 5 (by decide) (v := .ref (zad F G (100 + 4 * q0 + 3))) rfl 1 rfl (Or.inl rfl) dX5_firstAskew_9 ?_
      refine lv_iload_n hx hb dX5_firstAskew_12 rfl (lv_at hl 1 rfl) ?_
      obtain ⟨b2, h⟩ := z_gd h
      refine z_iald C0 hw ((100 + 4 * q0 + 3)) (zOK_E hq0 3 (by decide)) rfl (zPR3 q0) (zin_in b2) dX5_firstAskew_13 ?_
      refine lv_if_eq (tgt := 19) hx hb dX5_firstAskew_14 (by decide) (fun c3 => ?_) (fun c3 => ?_)
      · replace h := z_ifp c3 h
        refine lv_iinc (v := (x1 + 1)) (lv' := [(1, .int ((x1 + 1))), (0, .ref (zad F G (100 + 4 * q0)))]) hx hb dX5_firstAskew_19 hl (k := 1) rfl rfl (by decide) rfl (fun ls hl => ?_)
        refine lv_goto (tgt := 2) hx hb dX5_firstAskew_22 (by decide) ?_
        exact ih ((x1 + 1)) h _ _ _ hw hS (lv_sub hl [1, 0] rfl)
      · replace h := z_ifn c3 h
        refine lv_iload_n hx hb dX5_firstAskew_17 rfl (lv_at hl 1 rfl) ?_
        exact z_reti C0 hw hS (congrArg (fun z => (z, S)) (Option.some.inj h)) dX5_firstAskew_18
def M_X5_firstAskew (pk : Nat → Nat) (S : zSt) (q0 : Nat) : Option (Int32) :=
  M_X5_firstAskew_B2 pk S q0 zF 0
set_option maxHeartbeats 4000000 in
set_option maxRecDepth 100000 in
theorem c_X5_firstAskew (l : Launch) (D : va_G) (Y : Nat → ClassId) (F : Nat → Nat) (G : zG) (S : zSt) (sz : Nat) (q0 : Nat) (hq0 : zOKb (zpk G) q0 = true) (res : Int32) (h : M_X5_firstAskew (zpk G) S q0 = some res) : Met l yX5_firstAskew wsX5_firstAskew (zRm 0 0) (zPc D Y F G S sz [.ref (zad F G (100 + 4 * q0))]) (zQi D Y F (zAo F G sz) G (res, S)) 0 0 (zAo F G sz) := by
  unfold M_X5_firstAskew at h
  refine zMet (cc := cX5_firstAskew) (maxL := 2) (ret := (some .int)) (own := RX5) (by decide +kernel) rfl rfl (Nat.le_of_ble_eq_true rfl) ?_
  intro p e s m args below meth c C0 hin hw hS ls hl
  have hl : lv_has ls 2 [(0, .ref (zad F G (100 + 4 * q0)))] := hl
  generalize zAo F G sz = A at C0 hw hS ⊢
  obtain ⟨hx, hb, hml, hr, hown, hts, hK, hA, hlk, hN⟩ := id C0
  refine lv_iconst (v := 0) hx hb dX5_firstAskew_0 (by decide) ?_
  refine lv_istore_n (lv' := [(1, .int 0), (0, .ref (zad F G (100 + 4 * q0)))]) hx hb dX5_firstAskew_1 rfl hl (by decide) rfl (fun ls hl => ?_)
  exact t_X5_firstAskew_B2 C0 S q0 hq0 res zF 0 h _ _ _ hw hS (lv_sub hl [1, 0] rfl)
def M_X3_looks (pk : Nat → Nat) (S : zSt) (q0 : Nat) (x1 : Int32) : Option (Int32 × zSt) :=
  Option.bind (M_X9_began pk S 50) (fun w1 => Option.bind (M_X5_looks pk w1 q0 x1) (fun w2 => some ((-w2.1), w2.2)))
set_option maxHeartbeats 4000000 in
set_option maxRecDepth 100000 in
theorem c_X3_looks (l : Launch) (D : va_G) (Y : Nat → ClassId) (F : Nat → Nat) (G : zG) (S : zSt) (sz : Nat) (q0 : Nat) (hq0 : zOKb (zpk G) q0 = true) (x1 : Int32) (res : Int32 × zSt) (h : M_X3_looks (zpk G) S q0 x1 = some res) : Met l yX3_looks wsX3_looks (zRm 8 168) (zPc D Y F G S sz [.ref (zad F G (100 + 4 * q0)), .int x1]) (zQi D Y F (zAo F G sz) G res) 0 0 (zAo F G sz) := by
  unfold M_X3_looks at h
  refine zMet (cc := cX3_looks) (maxL := 2) (ret := (some .int)) (own := RX3) (by decide +kernel) rfl rfl (Nat.le_of_ble_eq_true rfl) ?_
  intro p e s m args below meth c C0 hin hw hS ls hl
  have hl : lv_has ls 2 [(0, .ref (zad F G (100 + 4 * q0))), (1, .int x1)] := hl
  generalize zAo F G sz = A at C0 hw hS ⊢
  obtain ⟨hx, hb, hml, hr, hown, hts, hK, hA, hlk, hN⟩ := id C0
  refine lv_aload_n hx hb dX3_looks_0 rfl (lv_at hl 0 rfl) ?_
  refine z_getP C0 inP_X3_looks hw hq0 2 (by decide) (v := .ref (F 56)) rfl 1 rfl (Or.inr ⟨2, rfl⟩) dX3_looks_1 ?_
  refine lv_bipush (v := 50) hx hb dX3_looks_4 (by decide) ?_
  obtain ⟨w1, ew1, h⟩ := z_bd h
  refine z_gov C0 hw hS (res := w1) (rest := []) (arr := (Value.ref (F 56) :: [.int 50]).toArray) ?_ (fun H locs hw hS => ?_)
  · exact va_runV (z_fix C0) (c_X9_began l D Y F G S _ 50 w1 ew1) (cwV 1 hts gX3_looks_X9_began rfl rfl rfl (by decide +kernel) ⟨Nat.le_of_ble_eq_true rfl, Nat.le_of_ble_eq_true rfl⟩) ⟨zPc_blind, z_rv C0 hw (k := 56) rfl rfl rfl rfl, z_give C0 hw hS _⟩ rfl rfl hl.1 rfl (lv_room (Nat.le_of_ble_eq_true rfl)) dX3_looks_6 ⟨Nat.zero_le _, Nat.zero_le _⟩
  refine lv_aload_n hx hb dX3_looks_9 rfl (lv_at hl 0 rfl) ?_
  refine lv_iload_n hx hb dX3_looks_10 rfl (lv_at hl 1 rfl) ?_
  obtain ⟨w2, ew2, h⟩ := z_bd h
  refine z_goi C0 hw hS (res := w2) (rest := []) (arr := (Value.ref (zad F G (100 + 4 * q0)) :: [.int x1]).toArray) ?_ (fun H locs hw hS => ?_)
  · rcases zOK_cases hq0 with zz | zz | zz | zz | zz | zz | zz
    · exact va_runSU (z_pat C0 (ci := 0) rfl) (z_fix C0) (c_X5_looks l D Y F G w1 _ q0 hq0 x1 w2 ew2) (va_cwSU 1 hts gX3_looks_X5_looks_s23 rfl rfl rfl (by decide +kernel) ⟨Nat.le_of_ble_eq_true rfl, Nat.le_of_ble_eq_true rfl⟩) ⟨zPc_blind, z_prec C0 hw hq0 (ci := 0) zz rfl, z_give C0 hw hS _⟩ rfl rfl hl.1 rfl (lv_room (Nat.le_of_ble_eq_true rfl)) dX3_looks_11 ⟨Nat.zero_le _, Nat.zero_le _⟩
    · exact va_runSU (z_pat C0 (ci := 1) rfl) (z_fix C0) (c_X5_looks l D Y F G w1 _ q0 hq0 x1 w2 ew2) (va_cwSU 1 hts gX3_looks_X5_looks_s23 rfl rfl rfl (by decide +kernel) ⟨Nat.le_of_ble_eq_true rfl, Nat.le_of_ble_eq_true rfl⟩) ⟨zPc_blind, z_prec C0 hw hq0 (ci := 1) zz rfl, z_give C0 hw hS _⟩ rfl rfl hl.1 rfl (lv_room (Nat.le_of_ble_eq_true rfl)) dX3_looks_11 ⟨Nat.zero_le _, Nat.zero_le _⟩
    · exact va_runSU (z_pat C0 (ci := 2) rfl) (z_fix C0) (c_X5_looks l D Y F G w1 _ q0 hq0 x1 w2 ew2) (va_cwSU 1 hts gX3_looks_X5_looks_s23 rfl rfl rfl (by decide +kernel) ⟨Nat.le_of_ble_eq_true rfl, Nat.le_of_ble_eq_true rfl⟩) ⟨zPc_blind, z_prec C0 hw hq0 (ci := 2) zz rfl, z_give C0 hw hS _⟩ rfl rfl hl.1 rfl (lv_room (Nat.le_of_ble_eq_true rfl)) dX3_looks_11 ⟨Nat.zero_le _, Nat.zero_le _⟩
    · exact va_runSU (z_pat C0 (ci := 3) rfl) (z_fix C0) (c_X5_looks l D Y F G w1 _ q0 hq0 x1 w2 ew2) (va_cwSU 1 hts gX3_looks_X5_looks_s23 rfl rfl rfl (by decide +kernel) ⟨Nat.le_of_ble_eq_true rfl, Nat.le_of_ble_eq_true rfl⟩) ⟨zPc_blind, z_prec C0 hw hq0 (ci := 3) zz rfl, z_give C0 hw hS _⟩ rfl rfl hl.1 rfl (lv_room (Nat.le_of_ble_eq_true rfl)) dX3_looks_11 ⟨Nat.zero_le _, Nat.zero_le _⟩
    · exact va_runSU (z_pat C0 (ci := 5) rfl) (z_fix C0) (c_X5_looks l D Y F G w1 _ q0 hq0 x1 w2 ew2) (va_cwSU 1 hts gX3_looks_X5_looks_s23 rfl rfl rfl (by decide +kernel) ⟨Nat.le_of_ble_eq_true rfl, Nat.le_of_ble_eq_true rfl⟩) ⟨zPc_blind, z_prec C0 hw hq0 (ci := 5) zz rfl, z_give C0 hw hS _⟩ rfl rfl hl.1 rfl (lv_room (Nat.le_of_ble_eq_true rfl)) dX3_looks_11 ⟨Nat.zero_le _, Nat.zero_le _⟩
    · exact va_runSU (z_pat C0 (ci := 8) rfl) (z_fix C0) (c_X5_looks l D Y F G w1 _ q0 hq0 x1 w2 ew2) (va_cwSU 1 hts gX3_looks_X5_looks_s23 rfl rfl rfl (by decide +kernel) ⟨Nat.le_of_ble_eq_true rfl, Nat.le_of_ble_eq_true rfl⟩) ⟨zPc_blind, z_prec C0 hw hq0 (ci := 8) zz rfl, z_give C0 hw hS _⟩ rfl rfl hl.1 rfl (lv_room (Nat.le_of_ble_eq_true rfl)) dX3_looks_11 ⟨Nat.zero_le _, Nat.zero_le _⟩
    · exact va_runSU (z_pat C0 (ci := 10) rfl) (z_fix C0) (c_X5_looks l D Y F G w1 _ q0 hq0 x1 w2 ew2) (va_cwSU 1 hts gX3_looks_X5_looks_s23 rfl rfl rfl (by decide +kernel) ⟨Nat.le_of_ble_eq_true rfl, Nat.le_of_ble_eq_true rfl⟩) ⟨zPc_blind, z_prec C0 hw hq0 (ci := 10) zz rfl, z_give C0 hw hS _⟩ rfl rfl hl.1 rfl (lv_room (Nat.le_of_ble_eq_true rfl)) dX3_looks_11 ⟨Nat.zero_le _, Nat.zero_le _⟩
  refine lv_ineg hx hb dX3_looks_14 ?_
  exact z_reti C0 hw hS (Option.some.inj h) dX3_looks_15
def M_X0_looks (pk : Nat → Nat) (S : zSt) (q0 : Nat) (x1 : Int32) : Option (Int32 × zSt) :=
  Option.bind (M_X9_began pk S 60) (fun w1 => Option.bind (M_X3_looks pk w1 q0 x1) (fun w2 => some ((w2.1 ^^^ 5), w2.2)))
set_option maxHeartbeats 4000000 in
set_option maxRecDepth 100000 in
theorem c_X0_looks (l : Launch) (D : va_G) (Y : Nat → ClassId) (F : Nat → Nat) (G : zG) (S : zSt) (sz : Nat) (q0 : Nat) (hq0 : zOKb (zpk G) q0 = true) (x1 : Int32) (res : Int32 × zSt) (h : M_X0_looks (zpk G) S q0 x1 = some res) : Met l yX0_looks wsX0_looks (zRm 9 189) (zPc D Y F G S sz [.ref (zad F G (100 + 4 * q0)), .int x1]) (zQi D Y F (zAo F G sz) G res) 0 0 (zAo F G sz) := by
  unfold M_X0_looks at h
  refine zMet (cc := cX0_looks) (maxL := 2) (ret := (some .int)) (own := RX0) (by decide +kernel) rfl rfl (Nat.le_of_ble_eq_true rfl) ?_
  intro p e s m args below meth c C0 hin hw hS ls hl
  have hl : lv_has ls 2 [(0, .ref (zad F G (100 + 4 * q0))), (1, .int x1)] := hl
  generalize zAo F G sz = A at C0 hw hS ⊢
  obtain ⟨hx, hb, hml, hr, hown, hts, hK, hA, hlk, hN⟩ := id C0
  refine lv_aload_n hx hb dX0_looks_0 rfl (lv_at hl 0 rfl) ?_
  refine z_getP C0 inP_X0_looks hw hq0 2 (by decide) (v := .ref (F 56)) rfl 1 rfl (Or.inr ⟨2, rfl⟩) dX0_looks_1 ?_
  refine lv_bipush (v := 60) hx hb dX0_looks_4 (by decide) ?_
  obtain ⟨w1, ew1, h⟩ := z_bd h
  refine z_gov C0 hw hS (res := w1) (rest := []) (arr := (Value.ref (F 56) :: [.int 60]).toArray) ?_ (fun H locs hw hS => ?_)
  · exact va_runV (z_fix C0) (c_X9_began l D Y F G S _ 60 w1 ew1) (cwV 1 hts gX0_looks_X9_began rfl rfl rfl (by decide +kernel) ⟨Nat.le_of_ble_eq_true rfl, Nat.le_of_ble_eq_true rfl⟩) ⟨zPc_blind, z_rv C0 hw (k := 56) rfl rfl rfl rfl, z_give C0 hw hS _⟩ rfl rfl hl.1 rfl (lv_room (Nat.le_of_ble_eq_true rfl)) dX0_looks_6 ⟨Nat.zero_le _, Nat.zero_le _⟩
  refine lv_aload_n hx hb dX0_looks_9 rfl (lv_at hl 0 rfl) ?_
  refine lv_iload_n hx hb dX0_looks_10 rfl (lv_at hl 1 rfl) ?_
  obtain ⟨w2, ew2, h⟩ := z_bd h
  refine z_goi C0 hw hS (res := w2) (rest := []) (arr := (Value.ref (zad F G (100 + 4 * q0)) :: [.int x1]).toArray) ?_ (fun H locs hw hS => ?_)
  · rcases zOK_cases hq0 with zz | zz | zz | zz | zz | zz | zz
    · exact va_runSU (z_pat C0 (ci := 0) rfl) (z_fix C0) (c_X3_looks l D Y F G w1 _ q0 hq0 x1 w2 ew2) (va_cwSU 1 hts gX0_looks_X3_looks_s27 rfl rfl rfl (by decide +kernel) ⟨Nat.le_of_ble_eq_true rfl, Nat.le_of_ble_eq_true rfl⟩) ⟨zPc_blind, z_prec C0 hw hq0 (ci := 0) zz rfl, z_give C0 hw hS _⟩ rfl rfl hl.1 rfl (lv_room (Nat.le_of_ble_eq_true rfl)) dX0_looks_11 ⟨Nat.zero_le _, Nat.zero_le _⟩
    · exact va_runSU (z_pat C0 (ci := 1) rfl) (z_fix C0) (c_X3_looks l D Y F G w1 _ q0 hq0 x1 w2 ew2) (va_cwSU 1 hts gX0_looks_X3_looks_s27 rfl rfl rfl (by decide +kernel) ⟨Nat.le_of_ble_eq_true rfl, Nat.le_of_ble_eq_true rfl⟩) ⟨zPc_blind, z_prec C0 hw hq0 (ci := 1) zz rfl, z_give C0 hw hS _⟩ rfl rfl hl.1 rfl (lv_room (Nat.le_of_ble_eq_true rfl)) dX0_looks_11 ⟨Nat.zero_le _, Nat.zero_le _⟩
    · exact va_runSU (z_pat C0 (ci := 2) rfl) (z_fix C0) (c_X3_looks l D Y F G w1 _ q0 hq0 x1 w2 ew2) (va_cwSU 1 hts gX0_looks_X3_looks_s27 rfl rfl rfl (by decide +kernel) ⟨Nat.le_of_ble_eq_true rfl, Nat.le_of_ble_eq_true rfl⟩) ⟨zPc_blind, z_prec C0 hw hq0 (ci := 2) zz rfl, z_give C0 hw hS _⟩ rfl rfl hl.1 rfl (lv_room (Nat.le_of_ble_eq_true rfl)) dX0_looks_11 ⟨Nat.zero_le _, Nat.zero_le _⟩
    · exact va_runSU (z_pat C0 (ci := 3) rfl) (z_fix C0) (c_X3_looks l D Y F G w1 _ q0 hq0 x1 w2 ew2) (va_cwSU 1 hts gX0_looks_X3_looks_s27 rfl rfl rfl (by decide +kernel) ⟨Nat.le_of_ble_eq_true rfl, Nat.le_of_ble_eq_true rfl⟩) ⟨zPc_blind, z_prec C0 hw hq0 (ci := 3) zz rfl, z_give C0 hw hS _⟩ rfl rfl hl.1 rfl (lv_room (Nat.le_of_ble_eq_true rfl)) dX0_looks_11 ⟨Nat.zero_le _, Nat.zero_le _⟩
    · exact va_runSU (z_pat C0 (ci := 5) rfl) (z_fix C0) (c_X3_looks l D Y F G w1 _ q0 hq0 x1 w2 ew2) (va_cwSU 1 hts gX0_looks_X3_looks_s27 rfl rfl rfl (by decide +kernel) ⟨Nat.le_of_ble_eq_true rfl, Nat.le_of_ble_eq_true rfl⟩) ⟨zPc_blind, z_prec C0 hw hq0 (ci := 5) zz rfl, z_give C0 hw hS _⟩ rfl rfl hl.1 rfl (lv_room (Nat.le_of_ble_eq_true rfl)) dX0_looks_11 ⟨Nat.zero_le _, Nat.zero_le _⟩
    · exact va_runSU (z_pat C0 (ci := 8) rfl) (z_fix C0) (c_X3_looks l D Y F G w1 _ q0 hq0 x1 w2 ew2) (va_cwSU 1 hts gX0_looks_X3_looks_s27 rfl rfl rfl (by decide +kernel) ⟨Nat.le_of_ble_eq_true rfl, Nat.le_of_ble_eq_true rfl⟩) ⟨zPc_blind, z_prec C0 hw hq0 (ci := 8) zz rfl, z_give C0 hw hS _⟩ rfl rfl hl.1 rfl (lv_room (Nat.le_of_ble_eq_true rfl)) dX0_looks_11 ⟨Nat.zero_le _, Nat.zero_le _⟩
    · exact va_runSU (z_pat C0 (ci := 10) rfl) (z_fix C0) (c_X3_looks l D Y F G w1 _ q0 hq0 x1 w2 ew2) (va_cwSU 1 hts gX0_looks_X3_looks_s27 rfl rfl rfl (by decide +kernel) ⟨Nat.le_of_ble_eq_true rfl, Nat.le_of_ble_eq_true rfl⟩) ⟨zPc_blind, z_prec C0 hw hq0 (ci := 10) zz rfl, z_give C0 hw hS _⟩ rfl rfl hl.1 rfl (lv_room (Nat.le_of_ble_eq_true rfl)) dX0_looks_11 ⟨Nat.zero_le _, Nat.zero_le _⟩
  refine lv_iconst (v := 5) hx hb dX0_looks_14 (by decide) ?_
  refine lv_ixor hx hb dX0_looks_15 ?_
  exact z_reti C0 hw hS (Option.some.inj h) dX0_looks_16
def M_X4_hasRoom (pk : Nat → Nat) (S : zSt) (i0 : Nat) : Option (Int32) :=
  (if 6 ≤ (zsc S (60 + 3 * i0) 3) then some 0 else some 1)
set_option maxHeartbeats 4000000 in
set_option maxRecDepth 100000 in
theorem c_X4_hasRoom (l : Launch) (D : va_G) (Y : Nat → ClassId) (F : Nat → Nat) (G : zG) (S : zSt) (sz : Nat) (i0 : Nat) (hi0 : i0 < 3) (res : Int32) (h : M_X4_hasRoom (zpk G) S i0 = some res) : Met l yX4_hasRoom wsX4_hasRoom (zRm 0 0) (zPc D Y F G S sz [.ref (zad F G (60 + 3 * i0))]) (zQi D Y F (zAo F G sz) G (res, S)) 0 0 (zAo F G sz) := by
  unfold M_X4_hasRoom at h
  refine zMet (cc := cX4_hasRoom) (maxL := 1) (ret := (some .boolean)) (own := RX4) (by decide +kernel) rfl rfl (Nat.le_of_ble_eq_true rfl) ?_
  intro p e s m args below meth c C0 hin hw hS ls hl
  have hl : lv_has ls 1 [(0, .ref (zad F G (60 + 3 * i0)))] := hl
  generalize zAo F G sz = A at C0 hw hS ⊢
  obtain ⟨hx, hb, hml, hr, hown, hts, hK, hA, hlk, hN⟩ := id C0
  refine lv_aload_n hx hb dX4_hasRoom_0 rfl (lv_at hl 0 rfl) ?_
  refine z_getU C0 in_X4_hasRoom_X4 (C := RX4) (T := TX4) (N := 6) hw (k := (60 + 3 * i0)) (ci := 4) (v := .int ((zsc S (60 + 3 * i0) 3))) (zld_E hi0) rfl (zld_B hi0) rfl 3 (by decide) rfl 1 rfl (Or.inl rfl) dX4_hasRoom_1 ?_
  refine lv_bipush (v := 6) hx hb dX4_hasRoom_4 (by decide) ?_
  refine lv_icmp_ge (tgt := 13) hx hb dX4_hasRoom_6 (by decide) (fun c1 => ?_) (fun c1 => ?_)
  · replace h := z_ifp c1 h
    refine lv_iconst (v := 0) hx hb dX4_hasRoom_13 (by decide) ?_
    exact z_retz C0 hw hS rfl (congrArg (fun z => (z, S)) (Option.some.inj h)) dX4_hasRoom_14
  · replace h := z_ifn c1 h
    refine lv_iconst (v := 1) hx hb dX4_hasRoom_9 (by decide) ?_
    refine lv_goto (tgt := 14) hx hb dX4_hasRoom_10 (by decide) ?_
    exact z_retz C0 hw hS rfl (congrArg (fun z => (z, S)) (Option.some.inj h)) dX4_hasRoom_14
def M_X4_personAt_B18 (pk : Nat → Nat) (S : zSt) (i0 : Nat) : Option (Option Nat) :=
  some none
set_option maxHeartbeats 4000000 in
set_option maxRecDepth 100000 in
theorem t_X4_personAt_B18 {p : Program} {l : Launch} {e : Env} {s : State} {m : MethodId} {args : Array Value} {below : List Frame} {meth : Method} {c : Code} {D : va_G} {Y : Nat → ClassId} {F : Nat → Nat} {A : Nat → Prop} {G : zG} (C0 : zCx p s m args meth c D Y F A RX4 cX4_personAt 2 (some (.object "CarbonCopies$Person")) wsX4_personAt) (S : zSt) (i0 : Nat) (hi0 : i0 < 3) (res : Option Nat) : M_X4_personAt_B18 (zpk G) S i0 = some res → ∀ (H : Heap) (locs : List Loc) (ls : Array Slot), zH D Y F A G S H → va_S A s.heap H locs → lv_has ls 2 [] → W p l e (zRm 0 0) s m args below meth c H locs 0 0 (MQ below (zQq D Y F A G S (res.map (zpa F G))) args s 0 0 A) (F0 m 18 ls []) := by
  obtain ⟨hx, hb, hml, hr, hown, hts, hK, hA, hlk, hN⟩ := id C0
  intro h H locs ls hw hS hl
  unfold M_X4_personAt_B18 at h
  refine lv_null hx hb dX4_personAt_18 ?_
  refine lv_goto (tgt := 28) hx hb dX4_personAt_19 (by decide) ?_
  exact z_retq C0 hw hS (congrArg (fun z => va_rf (Option.map (zpa F G) z)) (Option.some.inj h)) dX4_personAt_28
def M_X4_personAt (pk : Nat → Nat) (S : zSt) (i0 : Nat) (x1 : Int32) : Option (Option Nat) :=
  (if x1 < 0 then M_X4_personAt_B18 pk S i0 else (if (zsc S (60 + 3 * i0) 3) ≤ x1 then M_X4_personAt_B18 pk S i0 else (if x1 < 6 then zg (zin x1 6) (some ((zwho pk (6 * i0 + Int32.toNatClampNeg x1)))) else M_X4_personAt_B18 pk S i0)))
set_option maxHeartbeats 4000000 in
set_option maxRecDepth 100000 in
theorem c_X4_personAt (l : Launch) (D : va_G) (Y : Nat → ClassId) (F : Nat → Nat) (G : zG) (S : zSt) (sz : Nat) (i0 : Nat) (hi0 : i0 < 3) (x1 : Int32) (res : Option Nat) (h : M_X4_personAt (zpk G) S i0 x1 = some res) : Met l yX4_personAt wsX4_personAt (zRm 0 0) (zPc D Y F G S sz [.ref (zad F G (60 + 3 * i0)), .int x1]) (zQq D Y F (zAo F G sz) G S (res.map (zpa F G))) 0 0 (zAo F G sz) := by
  unfold M_X4_personAt at h
  refine zMet (cc := cX4_personAt) (maxL := 2) (ret := (some (.object "CarbonCopies$Person"))) (own := RX4) (by decide +kernel) rfl rfl (Nat.le_of_ble_eq_true rfl) ?_
  intro p e s m args below meth c C0 hin hw hS ls hl
  have hl : lv_has ls 2 [(0, .ref (zad F G (60 + 3 * i0))), (1, .int x1)] := hl
  generalize zAo F G sz = A at C0 hw hS ⊢
  obtain ⟨hx, hb, hml, hr, hown, hts, hK, hA, hlk, hN⟩ := id C0
  refine lv_iload_n hx hb dX4_personAt_0 rfl (lv_at hl 1 rfl) ?_
  refine lv_if_lt (tgt := 18) hx hb dX4_personAt_1 (by decide) (fun c1 => ?_) (fun c1 => ?_)
  · replace h := z_ifp c1 h
    exact t_X4_personAt_B18 C0 S i0 hi0 res h _ _ _ hw hS (lv_sub hl [] rfl)
  · replace h := z_ifn c1 h
    refine lv_iload_n hx hb dX4_personAt_4 rfl (lv_at hl 1 rfl) ?_
    refine lv_aload_n hx hb dX4_personAt_5 rfl (lv_at hl 0 rfl) ?_
    refine z_getU C0 in_X4_personAt_X4 (C := RX4) (T := TX4) (N := 6) hw (k := (60 + 3 * i0)) (ci := 4) (v := .int ((zsc S (60 + 3 * i0) 3))) (zld_E hi0) rfl (zld_B hi0) rfl 3 (by decide) rfl 1 rfl (Or.inl rfl) dX4_personAt_6 ?_
    refine lv_icmp_ge (tgt := 18) hx hb dX4_personAt_9 (by decide) (fun c2 => ?_) (fun c2 => ?_)
    · replace h := z_ifp c2 h
      exact t_X4_personAt_B18 C0 S i0 hi0 res h _ _ _ hw hS (lv_sub hl [] rfl)
    · replace h := z_ifn c2 h
      refine lv_iload_n hx hb dX4_personAt_12 rfl (lv_at hl 1 rfl) ?_
      refine lv_bipush (v := 6) hx hb dX4_personAt_13 (by decide) ?_
      refine lv_icmp_lt (tgt := 22) hx hb dX4_personAt_15 (by decide) (fun c3 => ?_) (fun c3 => ?_)
      · replace h := z_ifp c3 h
        refine lv_aload_n hx hb dX4_personAt_22 rfl (lv_at hl 0 rfl) ?_
        refine z_getU C0 in_X4_personAt_X4 (C := RX4) (T := TX4) (N := 6) hw (k := (60 + 3 * i0)) (ci := 4) (v := .ref (zad F G (60 + 3 * i0 + 1))) (zld_E hi0) rfl (zld_B hi0) rfl 0 (by decide) rfl 2 rfl (Or.inl rfl) dX4_personAt_23 ?_
        refine lv_iload_n hx hb dX4_personAt_26 rfl (lv_at hl 1 rfl) ?_
        obtain ⟨b4, h⟩ := z_gd h
        refine z_aald C0 hw (k := (60 + 3 * i0 + 1)) (t0 := 2) (zld_E1 hi0) (zld_BP hi0) rfl (zin_in b4) rfl dX4_personAt_27 ?_
        exact z_retq C0 hw hS (congrArg (fun z => va_rf (Option.map (zpa F G) z)) (Option.some.inj h)) dX4_personAt_28
      · replace h := z_ifn c3 h
        exact t_X4_personAt_B18 C0 S i0 hi0 res h _ _ _ hw hS (lv_sub hl [] rfl)
def M_X4_deadTotal_B31 (pk : Nat → Nat) (S : zSt) (i0 : Nat) (K4 : Int32 → Int32 → Option (Int32)) (x2 : Int32) (y0 : Int32) (y1 : Int32) : Option (Int32) :=
  K4 ((y1 + y0)) ((x2 + 1))
set_option maxHeartbeats 4000000 in
set_option maxRecDepth 100000 in
theorem t_X4_deadTotal_B31 {p : Program} {l : Launch} {e : Env} {s : State} {m : MethodId} {args : Array Value} {below : List Frame} {meth : Method} {c : Code} {D : va_G} {Y : Nat → ClassId} {F : Nat → Nat} {A : Nat → Prop} {G : zG} (C0 : zCx p s m args meth c D Y F A RX4 cX4_deadTotal 4 (some .int) wsX4_deadTotal) (S : zSt) (i0 : Nat) (hi0 : i0 < 3) (res : Int32) (K4 : Int32 → Int32 → Option (Int32)) (hK4 : ∀ (x1 : Int32) (x2 : Int32), K4 x1 x2 = some res → ∀ (H : Heap) (locs : List Loc) (ls : Array Slot), zH D Y F A G S H → va_S A s.heap H locs → lv_has ls 4 [(0, .ref (zad F G (60 + 3 * i0))), (1, .int x1), (2, .int x2)] → W p l e (zRm 1 21) s m args below meth c H locs 0 0 (MQ below (zQi D Y F A G (res, S)) args s 0 0 A) (F0 m 4 ls [])) : ∀ (x2 : Int32) (y0 : Int32) (y1 : Int32), M_X4_deadTotal_B31 (zpk G) S i0 K4 x2 y0 y1 = some res → ∀ (H : Heap) (locs : List Loc) (ls : Array Slot), zH D Y F A G S H → va_S A s.heap H locs → lv_has ls 4 [(0, .ref (zad F G (60 + 3 * i0))), (2, .int x2)] → W p l e (zRm 1 21) s m args below meth c H locs 0 0 (MQ below (zQi D Y F A G (res, S)) args s 0 0 A) (F0 m 31 ls [.int y0, .int y1]) := by
  obtain ⟨hx, hb, hml, hr, hown, hts, hK, hA, hlk, hN⟩ := id C0
  intro x2 y0 y1 h H locs ls hw hS hl
  unfold M_X4_deadTotal_B31 at h
  refine lv_iadd hx hb dX4_deadTotal_31 ?_
  refine lv_istore_n (lv' := [(1, .int ((y1 + y0))), (0, .ref (zad F G (60 + 3 * i0))), (2, .int x2)]) hx hb dX4_deadTotal_32 rfl hl (by decide) rfl (fun ls hl => ?_)
  refine lv_iinc (v := (x2 + 1)) (lv' := [(2, .int ((x2 + 1))), (1, .int ((y1 + y0))), (0, .ref (zad F G (60 + 3 * i0)))]) hx hb dX4_deadTotal_33 hl (k := 2) rfl rfl (by decide) rfl (fun ls hl => ?_)
  refine lv_goto (tgt := 4) hx hb dX4_deadTotal_36 (by decide) ?_
  exact hK4 ((y1 + y0)) ((x2 + 1)) h _ _ _ hw hS (lv_sub hl [2, 1, 0] rfl)
def M_X4_deadTotal_B4 (pk : Nat → Nat) (S : zSt) (i0 : Nat) : Nat → Int32 → Int32 → Option (Int32)
  | 0, _, _ => none
  | n + 1, x1, x2 =>
  (if (zsc S (60 + 3 * i0) 3) ≤ x2 then some x1 else Option.bind (M_X4_personAt pk S i0 x2) (fun w2 => (zm w2 (M_X4_deadTotal_B31 pk S i0 (fun x1_ x2_ => M_X4_deadTotal_B4 pk S i0 n x1_ x2_) x2 0 x1) (fun q3 => zg (zOKb pk q3) (M_X4_deadTotal_B31 pk S i0 (fun x1_ x2_ => M_X4_deadTotal_B4 pk S i0 n x1_ x2_) x2 ((zsc S (100 + 4 * q3) 8)) x1)))))
set_option maxHeartbeats 4000000 in
set_option maxRecDepth 100000 in
theorem t_X4_deadTotal_B4 {p : Program} {l : Launch} {e : Env} {s : State} {m : MethodId} {args : Array Value} {below : List Frame} {meth : Method} {c : Code} {D : va_G} {Y : Nat → ClassId} {F : Nat → Nat} {A : Nat → Prop} {G : zG} (C0 : zCx p s m args meth c D Y F A RX4 cX4_deadTotal 4 (some .int) wsX4_deadTotal) (S : zSt) (i0 : Nat) (hi0 : i0 < 3) (res : Int32) : ∀ (n : Nat), ∀ (x1 : Int32) (x2 : Int32), M_X4_deadTotal_B4 (zpk G) S i0 n x1 x2 = some res → ∀ (H : Heap) (locs : List Loc) (ls : Array Slot), zH D Y F A G S H → va_S A s.heap H locs → lv_has ls 4 [(0, .ref (zad F G (60 + 3 * i0))), (1, .int x1), (2, .int x2)] → W p l e (zRm 1 21) s m args below meth c H locs 0 0 (MQ below (zQi D Y F A G (res, S)) args s 0 0 A) (F0 m 4 ls []) := by
  obtain ⟨hx, hb, hml, hr, hown, hts, hK, hA, hlk, hN⟩ := id C0
  intro n
  induction n with
  | zero =>
    intro x1 x2 h
    unfold M_X4_deadTotal_B4 at h
    cases h
  | succ n ih =>
    intro x1 x2 h H locs ls hw hS hl
    rw [M_X4_deadTotal_B4] at h
    refine lv_iload_n hx hb dX4_deadTotal_4 rfl (lv_at hl 2 rfl) ?_
    refine lv_aload_n hx hb dX4_deadTotal_5 rfl (lv_at hl 0 rfl) ?_
    refine z_getU C0 in_X4_deadTotal_X4 (C := RX4) (T := TX4) (N := 6) hw (k := (60 + 3 * i0)) (ci := 4) (v := .int ((zsc S (60 + 3 * i0) 3))) (zld_E hi0) rfl (zld_B hi0) rfl 3 (by decide) rfl 1 rfl (Or.inl rfl) dX4_deadTotal_6 ?_
    refine lv_icmp_ge (tgt := 39) hx hb dX4_deadTotal_9 (by decide) (fun c1 => ?_) (fun c1 => ?_)
    · replace h := z_ifp c1 h
      refine lv_iload_n hx hb dX4_deadTotal_39 rfl (lv_at hl 1 rfl) ?_
      exact z_reti C0 hw hS (congrArg (fun z => (z, S)) (Option.some.inj h)) dX4_deadTotal_40
    · replace h := z_ifn c1 h
      refine lv_aload_n hx hb dX4_deadTotal_12 rfl (lv_at hl 0 rfl) ?_
      refine lv_iload_n hx hb dX4_deadTotal_13 rfl (lv_at hl 2 rfl) ?_
      obtain ⟨w2, ew2, h⟩ := z_bd h
      refine z_goq C0 hw hS (r0 := w2.map (zpa F G)) (rest := []) (arr := (Value.ref (zad F G (60 + 3 * i0)) :: [.int x2]).toArray) ?_ (fun H locs hw hS => ?_)
      · exact va_runV (z_fix C0) (c_X4_personAt l D Y F G S _ i0 hi0 x2 w2 ew2) (cwV 1 hts gX4_deadTotal_X4_personAt rfl rfl rfl (by decide +kernel) ⟨Nat.le_of_ble_eq_true rfl, Nat.le_of_ble_eq_true rfl⟩) ⟨zPc_blind, z_rv C0 hw (k := (60 + 3 * i0)) (zld_E hi0) rfl (zld_B hi0) rfl, z_give C0 hw hS _⟩ rfl rfl hl.1 rfl (lv_room (Nat.le_of_ble_eq_true rfl)) dX4_deadTotal_14 ⟨Nat.zero_le _, Nat.zero_le _⟩
      rcases w2 with _ | q3
      · replace h := zm_n h
        refine z_topv (y := .null) rfl ?_
        refine lv_astore_nN (lv' := [(3, .null), (0, .ref (zad F G (60 + 3 * i0))), (1, .int x1), (2, .int x2)]) hx hb dX4_deadTotal_17 rfl hl (by decide) rfl (fun ls hl => ?_)
        refine lv_iload_n hx hb dX4_deadTotal_18 rfl (lv_at hl 2 rfl) ?_
        refine lv_aload_nN hx hb dX4_deadTotal_19 rfl (lv_at hl 0 rfl) ?_
        refine lv_ifnonnullN hx hb dX4_deadTotal_20 ?_
        refine lv_iconst (v := 0) hx hb dX4_deadTotal_23 (by decide) ?_
        refine lv_goto (tgt := 31) hx hb dX4_deadTotal_24 (by decide) ?_
        exact t_X4_deadTotal_B31 C0 S i0 hi0 res (fun x1_ x2_ => M_X4_deadTotal_B4 (zpk G) S i0 n x1_ x2_) ih x2 0 x1 h _ _ _ hw hS (lv_sub hl [1, 3] rfl)
      · replace h := zm_s h
        obtain ⟨bq3, h⟩ := z_gd h
        have hq3 := bq3
        refine z_topv (y := .ref (zad F G (100 + 4 * q3))) rfl ?_
        refine lv_astore_n (lv' := [(3, .ref (zad F G (100 + 4 * q3))), (0, .ref (zad F G (60 + 3 * i0))), (1, .int x1), (2, .int x2)]) hx hb dX4_deadTotal_17 rfl hl (by decide) rfl (fun ls hl => ?_)
        refine lv_iload_n hx hb dX4_deadTotal_18 rfl (lv_at hl 2 rfl) ?_
        refine lv_aload_n hx hb dX4_deadTotal_19 rfl (lv_at hl 0 rfl) ?_
        refine lv_ifnonnull (tgt := 27) hx hb dX4_deadTotal_20 (by decide) ?_
        refine lv_aload_n hx hb dX4_deadTotal_27 rfl (lv_at hl 0 rfl) ?_
        refine z_getP C0 inP_X4_deadTotal hw hq3 8 (by decide) (v := .int ((zsc S (100 + 4 * q3) 8))) rfl 2 rfl (Or.inl rfl) dX4_deadTotal_28 ?_
        exact t_X4_deadTotal_B31 C0 S i0 hi0 res (fun x1_ x2_ => M_X4_deadTotal_B4 (zpk G) S i0 n x1_ x2_) ih x2 ((zsc S (100 + 4 * q3) 8)) x1 h _ _ _ hw hS (lv_sub hl [1, 3] rfl)
def M_X4_deadTotal (pk : Nat → Nat) (S : zSt) (i0 : Nat) : Option (Int32) :=
  M_X4_deadTotal_B4 pk S i0 zF 0 0
set_option maxHeartbeats 4000000 in
set_option maxRecDepth 100000 in
theorem c_X4_deadTotal (l : Launch) (D : va_G) (Y : Nat → ClassId) (F : Nat → Nat) (G : zG) (S : zSt) (sz : Nat) (i0 : Nat) (hi0 : i0 < 3) (res : Int32) (h : M_X4_deadTotal (zpk G) S i0 = some res) : Met l yX4_deadTotal wsX4_deadTotal (zRm 1 21) (zPc D Y F G S sz [.ref (zad F G (60 + 3 * i0))]) (zQi D Y F (zAo F G sz) G (res, S)) 0 0 (zAo F G sz) := by
  unfold M_X4_deadTotal at h
  refine zMet (cc := cX4_deadTotal) (maxL := 4) (ret := (some .int)) (own := RX4) (by decide +kernel) rfl rfl (Nat.le_of_ble_eq_true rfl) ?_
  intro p e s m args below meth c C0 hin hw hS ls hl
  have hl : lv_has ls 4 [(0, .ref (zad F G (60 + 3 * i0)))] := hl
  generalize zAo F G sz = A at C0 hw hS ⊢
  obtain ⟨hx, hb, hml, hr, hown, hts, hK, hA, hlk, hN⟩ := id C0
  refine lv_iconst (v := 0) hx hb dX4_deadTotal_0 (by decide) ?_
  refine lv_istore_n (lv' := [(1, .int 0), (0, .ref (zad F G (60 + 3 * i0)))]) hx hb dX4_deadTotal_1 rfl hl (by decide) rfl (fun ls hl => ?_)
  refine lv_iconst (v := 0) hx hb dX4_deadTotal_2 (by decide) ?_
  refine lv_istore_n (lv' := [(2, .int 0), (1, .int 0), (0, .ref (zad F G (60 + 3 * i0)))]) hx hb dX4_deadTotal_3 rfl hl (by decide) rfl (fun ls hl => ?_)
  exact t_X4_deadTotal_B4 C0 S i0 hi0 res zF 0 0 h _ _ _ hw hS (lv_sub hl [2, 1, 0] rfl)
def M_X4_strengthTotal_B31 (pk : Nat → Nat) (S : zSt) (i0 : Nat) (K4 : Int32 → Int32 → Option (Int32)) (x2 : Int32) (y0 : Int32) (y1 : Int32) : Option (Int32) :=
  K4 ((y1 + y0)) ((x2 + 1))
set_option maxHeartbeats 4000000 in
set_option maxRecDepth 100000 in
theorem t_X4_strengthTotal_B31 {p : Program} {l : Launch} {e : Env} {s : State} {m : MethodId} {args : Array Value} {below : List Frame} {meth : Method} {c : Code} {D : va_G} {Y : Nat → ClassId} {F : Nat → Nat} {A : Nat → Prop} {G : zG} (C0 : zCx p s m args meth c D Y F A RX4 cX4_strengthTotal 4 (some .int) wsX4_strengthTotal) (S : zSt) (i0 : Nat) (hi0 : i0 < 3) (res : Int32) (K4 : Int32 → Int32 → Option (Int32)) (hK4 : ∀ (x1 : Int32) (x2 : Int32), K4 x1 x2 = some res → ∀ (H : Heap) (locs : List Loc) (ls : Array Slot), zH D Y F A G S H → va_S A s.heap H locs → lv_has ls 4 [(0, .ref (zad F G (60 + 3 * i0))), (1, .int x1), (2, .int x2)] → W p l e (zRm 1 25) s m args below meth c H locs 0 0 (MQ below (zQi D Y F A G (res, S)) args s 0 0 A) (F0 m 4 ls [])) : ∀ (x2 : Int32) (y0 : Int32) (y1 : Int32), M_X4_strengthTotal_B31 (zpk G) S i0 K4 x2 y0 y1 = some res → ∀ (H : Heap) (locs : List Loc) (ls : Array Slot), zH D Y F A G S H → va_S A s.heap H locs → lv_has ls 4 [(0, .ref (zad F G (60 + 3 * i0))), (2, .int x2)] → W p l e (zRm 1 25) s m args below meth c H locs 0 0 (MQ below (zQi D Y F A G (res, S)) args s 0 0 A) (F0 m 31 ls [.int y0, .int y1]) := by
  obtain ⟨hx, hb, hml, hr, hown, hts, hK, hA, hlk, hN⟩ := id C0
  intro x2 y0 y1 h H locs ls hw hS hl
  unfold M_X4_strengthTotal_B31 at h
  refine lv_iadd hx hb dX4_strengthTotal_31 ?_
  refine lv_istore_n (lv' := [(1, .int ((y1 + y0))), (0, .ref (zad F G (60 + 3 * i0))), (2, .int x2)]) hx hb dX4_strengthTotal_32 rfl hl (by decide) rfl (fun ls hl => ?_)
  refine lv_iinc (v := (x2 + 1)) (lv' := [(2, .int ((x2 + 1))), (1, .int ((y1 + y0))), (0, .ref (zad F G (60 + 3 * i0)))]) hx hb dX4_strengthTotal_33 hl (k := 2) rfl rfl (by decide) rfl (fun ls hl => ?_)
  refine lv_goto (tgt := 4) hx hb dX4_strengthTotal_36 (by decide) ?_
  exact hK4 ((y1 + y0)) ((x2 + 1)) h _ _ _ hw hS (lv_sub hl [2, 1, 0] rfl)
def M_X4_strengthTotal_B4 (pk : Nat → Nat) (S : zSt) (i0 : Nat) : Nat → Int32 → Int32 → Option (Int32)
  | 0, _, _ => none
  | n + 1, x1, x2 =>
  (if (zsc S (60 + 3 * i0) 3) ≤ x2 then some x1 else Option.bind (M_X4_personAt pk S i0 x2) (fun w2 => (zm w2 (M_X4_strengthTotal_B31 pk S i0 (fun x1_ x2_ => M_X4_strengthTotal_B4 pk S i0 n x1_ x2_) x2 0 x1) (fun q3 => zg (zOKb pk q3) (Option.bind (M_X5_strengthSum pk S q3) (fun w4 => M_X4_strengthTotal_B31 pk S i0 (fun x1_ x2_ => M_X4_strengthTotal_B4 pk S i0 n x1_ x2_) x2 w4 x1))))))
set_option maxHeartbeats 4000000 in
set_option maxRecDepth 100000 in
theorem t_X4_strengthTotal_B4 {p : Program} {l : Launch} {e : Env} {s : State} {m : MethodId} {args : Array Value} {below : List Frame} {meth : Method} {c : Code} {D : va_G} {Y : Nat → ClassId} {F : Nat → Nat} {A : Nat → Prop} {G : zG} (C0 : zCx p s m args meth c D Y F A RX4 cX4_strengthTotal 4 (some .int) wsX4_strengthTotal) (S : zSt) (i0 : Nat) (hi0 : i0 < 3) (res : Int32) : ∀ (n : Nat), ∀ (x1 : Int32) (x2 : Int32), M_X4_strengthTotal_B4 (zpk G) S i0 n x1 x2 = some res → ∀ (H : Heap) (locs : List Loc) (ls : Array Slot), zH D Y F A G S H → va_S A s.heap H locs → lv_has ls 4 [(0, .ref (zad F G (60 + 3 * i0))), (1, .int x1), (2, .int x2)] → W p l e (zRm 1 25) s m args below meth c H locs 0 0 (MQ below (zQi D Y F A G (res, S)) args s 0 0 A) (F0 m 4 ls []) := by
  obtain ⟨hx, hb, hml, hr, hown, hts, hK, hA, hlk, hN⟩ := id C0
  intro n
  induction n with
  | zero =>
    intro x1 x2 h
    unfold M_X4_strengthTotal_B4 at h
    cases h
  | succ n ih =>
    intro x1 x2 h H locs ls hw hS hl
    rw [M_X4_strengthTotal_B4] at h
    refine lv_iload_n hx hb dX4_strengthTotal_4 rfl (lv_at hl 2 rfl) ?_
    refine lv_aload_n hx hb dX4_strengthTotal_5 rfl (lv_at hl 0 rfl) ?_
    refine z_getU C0 in_X4_strengthTotal_X4 (C := RX4) (T := TX4) (N := 6) hw (k := (60 + 3 * i0)) (ci := 4) (v := .int ((zsc S (60 + 3 * i0) 3))) (zld_E hi0) rfl (zld_B hi0) rfl 3 (by decide) rfl 1 rfl (Or.inl rfl) dX4_strengthTotal_6 ?_
    refine lv_icmp_ge (tgt := 39) hx hb dX4_strengthTotal_9 (by decide) (fun c1 => ?_) (fun c1 => ?_)
    · replace h := z_ifp c1 h
      refine lv_iload_n hx hb dX4_strengthTotal_39 rfl (lv_at hl 1 rfl) ?_
      exact z_reti C0 hw hS (congrArg (fun z => (z, S)) (Option.some.inj h)) dX4_strengthTotal_40
    · replace h := z_ifn c1 h
      refine lv_aload_n hx hb dX4_strengthTotal_12 rfl (lv_at hl 0 rfl) ?_
      refine lv_iload_n hx hb dX4_strengthTotal_13 rfl (lv_at hl 2 rfl) ?_
      obtain ⟨w2, ew2, h⟩ := z_bd h
      refine z_goq C0 hw hS (r0 := w2.map (zpa F G)) (rest := []) (arr := (Value.ref (zad F G (60 + 3 * i0)) :: [.int x2]).toArray) ?_ (fun H locs hw hS => ?_)
      · exact va_runV (z_fix C0) (c_X4_personAt l D Y F G S _ i0 hi0 x2 w2 ew2) (cwV 1 hts gX4_strengthTotal_X4_personAt rfl rfl rfl (by decide +kernel) ⟨Nat.le_of_ble_eq_true rfl, Nat.le_of_ble_eq_true rfl⟩) ⟨zPc_blind, z_rv C0 hw (k := (60 + 3 * i0)) (zld_E hi0) rfl (zld_B hi0) rfl, z_give C0 hw hS _⟩ rfl rfl hl.1 rfl (lv_room (Nat.le_of_ble_eq_true rfl)) dX4_strengthTotal_14 ⟨Nat.zero_le _, Nat.zero_le _⟩
      rcases w2 with _ | q3
      · replace h := zm_n h
        refine z_topv (y := .null) rfl ?_
        refine lv_astore_nN (lv' := [(3, .null), (0, .ref (zad F G (60 + 3 * i0))), (1, .int x1), (2, .int x2)]) hx hb dX4_strengthTotal_17 rfl hl (by decide) rfl (fun ls hl => ?_)
        refine lv_iload_n hx hb dX4_strengthTotal_18 rfl (lv_at hl 2 rfl) ?_
        refine lv_aload_nN hx hb dX4_strengthTotal_19 rfl (lv_at hl 0 rfl) ?_
        refine lv_ifnonnullN hx hb dX4_strengthTotal_20 ?_
        refine lv_iconst (v := 0) hx hb dX4_strengthTotal_23 (by decide) ?_
        refine lv_goto (tgt := 31) hx hb dX4_strengthTotal_24 (by decide) ?_
        exact t_X4_strengthTotal_B31 C0 S i0 hi0 res (fun x1_ x2_ => M_X4_strengthTotal_B4 (zpk G) S i0 n x1_ x2_) ih x2 0 x1 h _ _ _ hw hS (lv_sub hl [1, 3] rfl)
      · replace h := zm_s h
        obtain ⟨bq3, h⟩ := z_gd h
        have hq3 := bq3
        refine z_topv (y := .ref (zad F G (100 + 4 * q3))) rfl ?_
        refine lv_astore_n (lv' := [(3, .ref (zad F G (100 + 4 * q3))), (0, .ref (zad F G (60 + 3 * i0))), (1, .int x1), (2, .int x2)]) hx hb dX4_strengthTotal_17 rfl hl (by decide) rfl (fun ls hl => ?_)
        refine lv_iload_n hx hb dX4_strengthTotal_18 rfl (lv_at hl 2 rfl) ?_
        refine lv_aload_n hx hb dX4_strengthTotal_19 rfl (lv_at hl 0 rfl) ?_
        refine lv_ifnonnull (tgt := 27) hx hb dX4_strengthTotal_20 (by decide) ?_
        refine lv_aload_n hx hb dX4_strengthTotal_27 rfl (lv_at hl 0 rfl) ?_
        obtain ⟨w4, ew4, h⟩ := z_bd h
        refine z_goi C0 hw hS (res := (w4, S)) (rest := [.int x1]) (arr := (Value.ref (zad F G (100 + 4 * q3)) :: []).toArray) ?_ (fun H locs hw hS => ?_)
        · rcases zOK_cases hq3 with zz | zz | zz | zz | zz | zz | zz
          · exact va_runU (z_fix C0) (c_X5_strengthSum l D Y F G S _ q3 hq3 w4 ew4) (va_cwU 0 hts gX4_strengthTotal_X5_strengthSum_u81X0 rfl rfl rfl rfl (by decide +kernel) ⟨Nat.le_of_ble_eq_true rfl, Nat.le_of_ble_eq_true rfl⟩) ⟨zPc_blind, z_prec C0 hw hq3 (ci := 0) zz rfl, z_give C0 hw hS _⟩ rfl rfl hl.1 rfl (lv_room (Nat.le_of_ble_eq_true rfl)) dX4_strengthTotal_28 ⟨Nat.zero_le _, Nat.zero_le _⟩
          · exact va_runU (z_fix C0) (c_X5_strengthSum l D Y F G S _ q3 hq3 w4 ew4) (va_cwU 0 hts gX4_strengthTotal_X5_strengthSum_u81X1 rfl rfl rfl rfl (by decide +kernel) ⟨Nat.le_of_ble_eq_true rfl, Nat.le_of_ble_eq_true rfl⟩) ⟨zPc_blind, z_prec C0 hw hq3 (ci := 1) zz rfl, z_give C0 hw hS _⟩ rfl rfl hl.1 rfl (lv_room (Nat.le_of_ble_eq_true rfl)) dX4_strengthTotal_28 ⟨Nat.zero_le _, Nat.zero_le _⟩
          · exact va_runU (z_fix C0) (c_X5_strengthSum l D Y F G S _ q3 hq3 w4 ew4) (va_cwU 0 hts gX4_strengthTotal_X5_strengthSum_u81X2 rfl rfl rfl rfl (by decide +kernel) ⟨Nat.le_of_ble_eq_true rfl, Nat.le_of_ble_eq_true rfl⟩) ⟨zPc_blind, z_prec C0 hw hq3 (ci := 2) zz rfl, z_give C0 hw hS _⟩ rfl rfl hl.1 rfl (lv_room (Nat.le_of_ble_eq_true rfl)) dX4_strengthTotal_28 ⟨Nat.zero_le _, Nat.zero_le _⟩
          · exact va_runU (z_fix C0) (c_X5_strengthSum l D Y F G S _ q3 hq3 w4 ew4) (va_cwU 0 hts gX4_strengthTotal_X5_strengthSum_u81X3 rfl rfl rfl rfl (by decide +kernel) ⟨Nat.le_of_ble_eq_true rfl, Nat.le_of_ble_eq_true rfl⟩) ⟨zPc_blind, z_prec C0 hw hq3 (ci := 3) zz rfl, z_give C0 hw hS _⟩ rfl rfl hl.1 rfl (lv_room (Nat.le_of_ble_eq_true rfl)) dX4_strengthTotal_28 ⟨Nat.zero_le _, Nat.zero_le _⟩
          · exact va_runV (z_fix C0) (c_X5_strengthSum l D Y F G S _ q3 hq3 w4 ew4) (cwV 0 hts gX4_strengthTotal_X5_strengthSum rfl rfl rfl (by decide +kernel) ⟨Nat.le_of_ble_eq_true rfl, Nat.le_of_ble_eq_true rfl⟩) ⟨zPc_blind, z_prec C0 hw hq3 (ci := 5) zz rfl, z_give C0 hw hS _⟩ rfl rfl hl.1 rfl (lv_room (Nat.le_of_ble_eq_true rfl)) dX4_strengthTotal_28 ⟨Nat.zero_le _, Nat.zero_le _⟩
          · exact va_runU (z_fix C0) (c_X5_strengthSum l D Y F G S _ q3 hq3 w4 ew4) (va_cwU 0 hts gX4_strengthTotal_X5_strengthSum_u81X8 rfl rfl rfl rfl (by decide +kernel) ⟨Nat.le_of_ble_eq_true rfl, Nat.le_of_ble_eq_true rfl⟩) ⟨zPc_blind, z_prec C0 hw hq3 (ci := 8) zz rfl, z_give C0 hw hS _⟩ rfl rfl hl.1 rfl (lv_room (Nat.le_of_ble_eq_true rfl)) dX4_strengthTotal_28 ⟨Nat.zero_le _, Nat.zero_le _⟩
          · exact va_runU (z_fix C0) (c_X5_strengthSum l D Y F G S _ q3 hq3 w4 ew4) (va_cwU 0 hts gX4_strengthTotal_X5_strengthSum_u81X10 rfl rfl rfl rfl (by decide +kernel) ⟨Nat.le_of_ble_eq_true rfl, Nat.le_of_ble_eq_true rfl⟩) ⟨zPc_blind, z_prec C0 hw hq3 (ci := 10) zz rfl, z_give C0 hw hS _⟩ rfl rfl hl.1 rfl (lv_room (Nat.le_of_ble_eq_true rfl)) dX4_strengthTotal_28 ⟨Nat.zero_le _, Nat.zero_le _⟩
        exact t_X4_strengthTotal_B31 C0 S i0 hi0 res (fun x1_ x2_ => M_X4_strengthTotal_B4 (zpk G) S i0 n x1_ x2_) ih x2 w4 x1 h _ _ _ hw hS (lv_sub hl [1, 3] rfl)
def M_X4_strengthTotal (pk : Nat → Nat) (S : zSt) (i0 : Nat) : Option (Int32) :=
  M_X4_strengthTotal_B4 pk S i0 zF 0 0
set_option maxHeartbeats 4000000 in
set_option maxRecDepth 100000 in
theorem c_X4_strengthTotal (l : Launch) (D : va_G) (Y : Nat → ClassId) (F : Nat → Nat) (G : zG) (S : zSt) (sz : Nat) (i0 : Nat) (hi0 : i0 < 3) (res : Int32) (h : M_X4_strengthTotal (zpk G) S i0 = some res) : Met l yX4_strengthTotal wsX4_strengthTotal (zRm 1 25) (zPc D Y F G S sz [.ref (zad F G (60 + 3 * i0))]) (zQi D Y F (zAo F G sz) G (res, S)) 0 0 (zAo F G sz) := by
  unfold M_X4_strengthTotal at h
  refine zMet (cc := cX4_strengthTotal) (maxL := 4) (ret := (some .int)) (own := RX4) (by decide +kernel) rfl rfl (Nat.le_of_ble_eq_true rfl) ?_
  intro p e s m args below meth c C0 hin hw hS ls hl
  have hl : lv_has ls 4 [(0, .ref (zad F G (60 + 3 * i0)))] := hl
  generalize zAo F G sz = A at C0 hw hS ⊢
  obtain ⟨hx, hb, hml, hr, hown, hts, hK, hA, hlk, hN⟩ := id C0
  refine lv_iconst (v := 0) hx hb dX4_strengthTotal_0 (by decide) ?_
  refine lv_istore_n (lv' := [(1, .int 0), (0, .ref (zad F G (60 + 3 * i0)))]) hx hb dX4_strengthTotal_1 rfl hl (by decide) rfl (fun ls hl => ?_)
  refine lv_iconst (v := 0) hx hb dX4_strengthTotal_2 (by decide) ?_
  refine lv_istore_n (lv' := [(2, .int 0), (1, .int 0), (0, .ref (zad F G (60 + 3 * i0)))]) hx hb dX4_strengthTotal_3 rfl hl (by decide) rfl (fun ls hl => ?_)
  exact t_X4_strengthTotal_B4 C0 S i0 hi0 res zF 0 0 h _ _ _ hw hS (lv_sub hl [2, 1, 0] rfl)
def M_X4_smearTotal_B31 (pk : Nat → Nat) (S : zSt) (i0 : Nat) (K4 : Int32 → Int32 → Option (Int32)) (x2 : Int32) (y0 : Int32) (y1 : Int32) : Option (Int32) :=
  K4 ((y1 + y0)) ((x2 + 1))
set_option maxHeartbeats 4000000 in
set_option maxRecDepth 100000 in
theorem t_X4_smearTotal_B31 {p : Program} {l : Launch} {e : Env} {s : State} {m : MethodId} {args : Array Value} {below : List Frame} {meth : Method} {c : Code} {D : va_G} {Y : Nat → ClassId} {F : Nat → Nat} {A : Nat → Prop} {G : zG} (C0 : zCx p s m args meth c D Y F A RX4 cX4_smearTotal 4 (some .int) wsX4_smearTotal) (S : zSt) (i0 : Nat) (hi0 : i0 < 3) (res : Int32) (K4 : Int32 → Int32 → Option (Int32)) (hK4 : ∀ (x1 : Int32) (x2 : Int32), K4 x1 x2 = some res → ∀ (H : Heap) (locs : List Loc) (ls : Array Slot), zH D Y F A G S H → va_S A s.heap H locs → lv_has ls 4 [(0, .ref (zad F G (60 + 3 * i0))), (1, .int x1), (2, .int x2)] → W p l e (zRm 1 25) s m args below meth c H locs 0 0 (MQ below (zQi D Y F A G (res, S)) args s 0 0 A) (F0 m 4 ls [])) : ∀ (x2 : Int32) (y0 : Int32) (y1 : Int32), M_X4_smearTotal_B31 (zpk G) S i0 K4 x2 y0 y1 = some res → ∀ (H : Heap) (locs : List Loc) (ls : Array Slot), zH D Y F A G S H → va_S A s.heap H locs → lv_has ls 4 [(0, .ref (zad F G (60 + 3 * i0))), (2, .int x2)] → W p l e (zRm 1 25) s m args below meth c H locs 0 0 (MQ below (zQi D Y F A G (res, S)) args s 0 0 A) (F0 m 31 ls [.int y0, .int y1]) := by
  obtain ⟨hx, hb, hml, hr, hown, hts, hK, hA, hlk, hN⟩ := id C0
  intro x2 y0 y1 h H locs ls hw hS hl
  unfold M_X4_smearTotal_B31 at h
  refine lv_iadd hx hb dX4_smearTotal_31 ?_
  refine lv_istore_n (lv' := [(1, .int ((y1 + y0))), (0, .ref (zad F G (60 + 3 * i0))), (2, .int x2)]) hx hb dX4_smearTotal_32 rfl hl (by decide) rfl (fun ls hl => ?_)
  refine lv_iinc (v := (x2 + 1)) (lv' := [(2, .int ((x2 + 1))), (1, .int ((y1 + y0))), (0, .ref (zad F G (60 + 3 * i0)))]) hx hb dX4_smearTotal_33 hl (k := 2) rfl rfl (by decide) rfl (fun ls hl => ?_)
  refine lv_goto (tgt := 4) hx hb dX4_smearTotal_36 (by decide) ?_
  exact hK4 ((y1 + y0)) ((x2 + 1)) h _ _ _ hw hS (lv_sub hl [2, 1, 0] rfl)
def M_X4_smearTotal_B4 (pk : Nat → Nat) (S : zSt) (i0 : Nat) : Nat → Int32 → Int32 → Option (Int32)
  | 0, _, _ => none
  | n + 1, x1, x2 =>
  (if (zsc S (60 + 3 * i0) 3) ≤ x2 then some x1 else Option.bind (M_X4_personAt pk S i0 x2) (fun w2 => (zm w2 (M_X4_smearTotal_B31 pk S i0 (fun x1_ x2_ => M_X4_smearTotal_B4 pk S i0 n x1_ x2_) x2 0 x1) (fun q3 => zg (zOKb pk q3) (Option.bind (M_X5_smearSum pk S q3) (fun w4 => M_X4_smearTotal_B31 pk S i0 (fun x1_ x2_ => M_X4_smearTotal_B4 pk S i0 n x1_ x2_) x2 w4 x1))))))
set_option maxHeartbeats 4000000 in
set_option maxRecDepth 100000 in
theorem t_X4_smearTotal_B4 {p : Program} {l : Launch} {e : Env} {s : State} {m : MethodId} {args : Array Value} {below : List Frame} {meth : Method} {c : Code} {D : va_G} {Y : Nat → ClassId} {F : Nat → Nat} {A : Nat → Prop} {G : zG} (C0 : zCx p s m args meth c D Y F A RX4 cX4_smearTotal 4 (some .int) wsX4_smearTotal) (S : zSt) (i0 : Nat) (hi0 : i0 < 3) (res : Int32) : ∀ (n : Nat), ∀ (x1 : Int32) (x2 : Int32), M_X4_smearTotal_B4 (zpk G) S i0 n x1 x2 = some res → ∀ (H : Heap) (locs : List Loc) (ls : Array Slot), zH D Y F A G S H → va_S A s.heap H locs → lv_has ls 4 [(0, .ref (zad F G (60 + 3 * i0))), (1, .int x1), (2, .int x2)] → W p l e (zRm 1 25) s m args below meth c H locs 0 0 (MQ below (zQi D Y F A G (res, S)) args s 0 0 A) (F0 m 4 ls []) := by
  obtain ⟨hx, hb, hml, hr, hown, hts, hK, hA, hlk, hN⟩ := id C0
  intro n
  induction n with
  | zero =>
    intro x1 x2 h
    unfold M_X4_smearTotal_B4 at h
    cases h
  | succ n ih =>
    intro x1 x2 h H locs ls hw hS hl
    rw [M_X4_smearTotal_B4] at h
    refine lv_iload_n hx hb dX4_smearTotal_4 rfl (lv_at hl 2 rfl) ?_
    refine lv_aload_n hx hb dX4_smearTotal_5 rfl (lv_at hl 0 rfl) ?_
    refine z_getU C0 in_X4_smearTotal_X4 (C := RX4) (T := TX4) (N := 6) hw (k := (60 + 3 * i0)) (ci := 4) (v := .int ((zsc S (60 + 3 * i0) 3))) (zld_E hi0) rfl (zld_B hi0) rfl 3 (by decide) rfl 1 rfl (Or.inl rfl) dX4_smearTotal_6 ?_
    refine lv_icmp_ge (tgt := 39) hx hb dX4_smearTotal_9 (by decide) (fun c1 => ?_) (fun c1 => ?_)
    · replace h := z_ifp c1 h
      refine lv_iload_n hx hb dX4_smearTotal_39 rfl (lv_at hl 1 rfl) ?_
      exact z_reti C0 hw hS (congrArg (fun z => (z, S)) (Option.some.inj h)) dX4_smearTotal_40
    · replace h := z_ifn c1 h
      refine lv_aload_n hx hb dX4_smearTotal_12 rfl (lv_at hl 0 rfl) ?_
      refine lv_iload_n hx hb dX4_smearTotal_13 rfl (lv_at hl 2 rfl) ?_
      obtain ⟨w2, ew2, h⟩ := z_bd h
      refine z_goq C0 hw hS (r0 := w2.map (zpa F G)) (rest := []) (arr := (Value.ref (zad F G (60 + 3 * i0)) :: [.int x2]).toArray) ?_ (fun H locs hw hS => ?_)
      · exact va_runV (z_fix C0) (c_X4_personAt l D Y F G S _ i0 hi0 x2 w2 ew2) (cwV 1 hts gX4_smearTotal_X4_personAt rfl rfl rfl (by decide +kernel) ⟨Nat.le_of_ble_eq_true rfl, Nat.le_of_ble_eq_true rfl⟩) ⟨zPc_blind, z_rv C0 hw (k := (60 + 3 * i0)) (zld_E hi0) rfl (zld_B hi0) rfl, z_give C0 hw hS _⟩ rfl rfl hl.1 rfl (lv_room (Nat.le_of_ble_eq_true rfl)) dX4_smearTotal_14 ⟨Nat.zero_le _, Nat.zero_le _⟩
      rcases w2 with _ | q3
      · replace h := zm_n h
        refine z_topv (y := .null) rfl ?_
        refine lv_astore_nN (lv' := [(3, .null), (0, .ref (zad F G (60 + 3 * i0))), (1, .int x1), (2, .int x2)]) hx hb dX4_smearTotal_17 rfl hl (by decide) rfl (fun ls hl => ?_)
        refine lv_iload_n hx hb dX4_smearTotal_18 rfl (lv_at hl 2 rfl) ?_
        refine lv_aload_nN hx hb dX4_smearTotal_19 rfl (lv_at hl 0 rfl) ?_
        refine lv_ifnonnullN hx hb dX4_smearTotal_20 ?_
        refine lv_iconst (v := 0) hx hb dX4_smearTotal_23 (by decide) ?_
        refine lv_goto (tgt := 31) hx hb dX4_smearTotal_24 (by decide) ?_
        exact t_X4_smearTotal_B31 C0 S i0 hi0 res (fun x1_ x2_ => M_X4_smearTotal_B4 (zpk G) S i0 n x1_ x2_) ih x2 0 x1 h _ _ _ hw hS (lv_sub hl [1, 3] rfl)
      · replace h := zm_s h
        obtain ⟨bq3, h⟩ := z_gd h
        have hq3 := bq3
        refine z_topv (y := .ref (zad F G (100 + 4 * q3))) rfl ?_
        refine lv_astore_n (lv' := [(3, .ref (zad F G (100 + 4 * q3))), (0, .ref (zad F G (60 + 3 * i0))), (1, .int x1), (2, .int x2)]) hx hb dX4_smearTotal_17 rfl hl (by decide) rfl (fun ls hl => ?_)
        refine lv_iload_n hx hb dX4_smearTotal_18 rfl (lv_at hl 2 rfl) ?_
        refine lv_aload_n hx hb dX4_smearTotal_19 rfl (lv_at hl 0 rfl) ?_
        refine lv_ifnonnull (tgt := 27) hx hb dX4_smearTotal_20 (by decide) ?_
        refine lv_aload_n hx hb dX4_smearTotal_27 rfl (lv_at hl 0 rfl) ?_
        obtain ⟨w4, ew4, h⟩ := z_bd h
        refine z_goi C0 hw hS (res := (w4, S)) (rest := [.int x1]) (arr := (Value.ref (zad F G (100 + 4 * q3)) :: []).toArray) ?_ (fun H locs hw hS => ?_)
        · rcases zOK_cases hq3 with zz | zz | zz | zz | zz | zz | zz
          · exact va_runU (z_fix C0) (c_X5_smearSum l D Y F G S _ q3 hq3 w4 ew4) (va_cwU 0 hts gX4_smearTotal_X5_smearSum_u85X0 rfl rfl rfl rfl (by decide +kernel) ⟨Nat.le_of_ble_eq_true rfl, Nat.le_of_ble_eq_true rfl⟩) ⟨zPc_blind, z_prec C0 hw hq3 (ci := 0) zz rfl, z_give C0 hw hS _⟩ rfl rfl hl.1 rfl (lv_room (Nat.le_of_ble_eq_true rfl)) dX4_smearTotal_28 ⟨Nat.zero_le _, Nat.zero_le _⟩
          · exact va_runU (z_fix C0) (c_X5_smearSum l D Y F G S _ q3 hq3 w4 ew4) (va_cwU 0 hts gX4_smearTotal_X5_smearSum_u85X1 rfl rfl rfl rfl (by decide +kernel) ⟨Nat.le_of_ble_eq_true rfl, Nat.le_of_ble_eq_true rfl⟩) ⟨zPc_blind, z_prec C0 hw hq3 (ci := 1) zz rfl, z_give C0 hw hS _⟩ rfl rfl hl.1 rfl (lv_room (Nat.le_of_ble_eq_true rfl)) dX4_smearTotal_28 ⟨Nat.zero_le _, Nat.zero_le _⟩
          · exact va_runU (z_fix C0) (c_X5_smearSum l D Y F G S _ q3 hq3 w4 ew4) (va_cwU 0 hts gX4_smearTotal_X5_smearSum_u85X2 rfl rfl rfl rfl (by decide +kernel) ⟨Nat.le_of_ble_eq_true rfl, Nat.le_of_ble_eq_true rfl⟩) ⟨zPc_blind, z_prec C0 hw hq3 (ci := 2) zz rfl, z_give C0 hw hS _⟩ rfl rfl hl.1 rfl (lv_room (Nat.le_of_ble_eq_true rfl)) dX4_smearTotal_28 ⟨Nat.zero_le _, Nat.zero_le _⟩
          · exact va_runU (z_fix C0) (c_X5_smearSum l D Y F G S _ q3 hq3 w4 ew4) (va_cwU 0 hts gX4_smearTotal_X5_smearSum_u85X3 rfl rfl rfl rfl (by decide +kernel) ⟨Nat.le_of_ble_eq_true rfl, Nat.le_of_ble_eq_true rfl⟩) ⟨zPc_blind, z_prec C0 hw hq3 (ci := 3) zz rfl, z_give C0 hw hS _⟩ rfl rfl hl.1 rfl (lv_room (Nat.le_of_ble_eq_true rfl)) dX4_smearTotal_28 ⟨Nat.zero_le _, Nat.zero_le _⟩
          · exact va_runV (z_fix C0) (c_X5_smearSum l D Y F G S _ q3 hq3 w4 ew4) (cwV 0 hts gX4_smearTotal_X5_smearSum rfl rfl rfl (by decide +kernel) ⟨Nat.le_of_ble_eq_true rfl, Nat.le_of_ble_eq_true rfl⟩) ⟨zPc_blind, z_prec C0 hw hq3 (ci := 5) zz rfl, z_give C0 hw hS _⟩ rfl rfl hl.1 rfl (lv_room (Nat.le_of_ble_eq_true rfl)) dX4_smearTotal_28 ⟨Nat.zero_le _, Nat.zero_le _⟩
          · exact va_runU (z_fix C0) (c_X5_smearSum l D Y F G S _ q3 hq3 w4 ew4) (va_cwU 0 hts gX4_smearTotal_X5_smearSum_u85X8 rfl rfl rfl rfl (by decide +kernel) ⟨Nat.le_of_ble_eq_true rfl, Nat.le_of_ble_eq_true rfl⟩) ⟨zPc_blind, z_prec C0 hw hq3 (ci := 8) zz rfl, z_give C0 hw hS _⟩ rfl rfl hl.1 rfl (lv_room (Nat.le_of_ble_eq_true rfl)) dX4_smearTotal_28 ⟨Nat.zero_le _, Nat.zero_le _⟩
          · exact va_runU (z_fix C0) (c_X5_smearSum l D Y F G S _ q3 hq3 w4 ew4) (va_cwU 0 hts gX4_smearTotal_X5_smearSum_u85X10 rfl rfl rfl rfl (by decide +kernel) ⟨Nat.le_of_ble_eq_true rfl, Nat.le_of_ble_eq_true rfl⟩) ⟨zPc_blind, z_prec C0 hw hq3 (ci := 10) zz rfl, z_give C0 hw hS _⟩ rfl rfl hl.1 rfl (lv_room (Nat.le_of_ble_eq_true rfl)) dX4_smearTotal_28 ⟨Nat.zero_le _, Nat.zero_le _⟩
        exact t_X4_smearTotal_B31 C0 S i0 hi0 res (fun x1_ x2_ => M_X4_smearTotal_B4 (zpk G) S i0 n x1_ x2_) ih x2 w4 x1 h _ _ _ hw hS (lv_sub hl [1, 3] rfl)
def M_X4_smearTotal (pk : Nat → Nat) (S : zSt) (i0 : Nat) : Option (Int32) :=
  M_X4_smearTotal_B4 pk S i0 zF 0 0
set_option maxHeartbeats 4000000 in
set_option maxRecDepth 100000 in
theorem c_X4_smearTotal (l : Launch) (D : va_G) (Y : Nat → ClassId) (F : Nat → Nat) (G : zG) (S : zSt) (sz : Nat) (i0 : Nat) (hi0 : i0 < 3) (res : Int32) (h : M_X4_smearTotal (zpk G) S i0 = some res) : Met l yX4_smearTotal wsX4_smearTotal (zRm 1 25) (zPc D Y F G S sz [.ref (zad F G (60 + 3 * i0))]) (zQi D Y F (zAo F G sz) G (res, S)) 0 0 (zAo F G sz) := by
  unfold M_X4_smearTotal at h
  refine zMet (cc := cX4_smearTotal) (maxL := 4) (ret := (some .int)) (own := RX4) (by decide +kernel) rfl rfl (Nat.le_of_ble_eq_true rfl) ?_
  intro p e s m args below meth c C0 hin hw hS ls hl
  have hl : lv_has ls 4 [(0, .ref (zad F G (60 + 3 * i0)))] := hl
  generalize zAo F G sz = A at C0 hw hS ⊢
  obtain ⟨hx, hb, hml, hr, hown, hts, hK, hA, hlk, hN⟩ := id C0
  refine lv_iconst (v := 0) hx hb dX4_smearTotal_0 (by decide) ?_
  refine lv_istore_n (lv' := [(1, .int 0), (0, .ref (zad F G (60 + 3 * i0)))]) hx hb dX4_smearTotal_1 rfl hl (by decide) rfl (fun ls hl => ?_)
  refine lv_iconst (v := 0) hx hb dX4_smearTotal_2 (by decide) ?_
  refine lv_istore_n (lv' := [(2, .int 0), (1, .int 0), (0, .ref (zad F G (60 + 3 * i0)))]) hx hb dX4_smearTotal_3 rfl hl (by decide) rfl (fun ls hl => ?_)
  exact t_X4_smearTotal_B4 C0 S i0 hi0 res zF 0 0 h _ _ _ hw hS (lv_sub hl [2, 1, 0] rfl)
def M_X4_longestBearer_B43 (pk : Nat → Nat) (S : zSt) (i0 : Nat) (K7 : Int32 → Int32 → Int32 → Int32 → Option (Int32)) (x1 : Int32) (x2 : Int32) (x3 : Int32) (x4 : Int32) (y0 : Int32) : Option (Int32) :=
  (if y0 ≤ x2 then K7 x1 x2 x3 ((x4 + 1)) else K7 x1 y0 x4 ((x4 + 1)))
set_option maxHeartbeats 4000000 in
set_option maxRecDepth 100000 in
theorem t_X4_longestBearer_B43 {p : Program} {l : Launch} {e : Env} {s : State} {m : MethodId} {args : Array Value} {below : List Frame} {meth : Method} {c : Code} {D : va_G} {Y : Nat → ClassId} {F : Nat → Nat} {A : Nat → Prop} {G : zG} (C0 : zCx p s m args meth c D Y F A RX4 cX4_longestBearer 7 (some .int) wsX4_longestBearer) (S : zSt) (i0 : Nat) (hi0 : i0 < 3) (res : Int32) (K7 : Int32 → Int32 → Int32 → Int32 → Option (Int32)) (hK7 : ∀ (x1 : Int32) (x2 : Int32) (x3 : Int32) (x4 : Int32), K7 x1 x2 x3 x4 = some res → ∀ (H : Heap) (locs : List Loc) (ls : Array Slot), zH D Y F A G S H → va_S A s.heap H locs → lv_has ls 7 [(0, .ref (zad F G (60 + 3 * i0))), (1, .int x1), (2, .int x2), (3, .int x3), (4, .int x4)] → W p l e (zRm 3 65) s m args below meth c H locs 0 0 (MQ below (zQi D Y F A G (res, S)) args s 0 0 A) (F0 m 7 ls [])) : ∀ (x1 : Int32) (x2 : Int32) (x3 : Int32) (x4 : Int32) (y0 : Int32), M_X4_longestBearer_B43 (zpk G) S i0 K7 x1 x2 x3 x4 y0 = some res → ∀ (H : Heap) (locs : List Loc) (ls : Array Slot), zH D Y F A G S H → va_S A s.heap H locs → lv_has ls 7 [(0, .ref (zad F G (60 + 3 * i0))), (1, .int x1), (2, .int x2), (3, .int x3), (4, .int x4)] → W p l e (zRm 3 65) s m args below meth c H locs 0 0 (MQ below (zQi D Y F A G (res, S)) args s 0 0 A) (F0 m 43 ls [.int y0]) := by
  obtain ⟨hx, hb, hml, hr, hown, hts, hK, hA, hlk, hN⟩ := id C0
  intro x1 x2 x3 x4 y0 h H locs ls hw hS hl
  unfold M_X4_longestBearer_B43 at h
  refine lv_istore (lv' := [(6, .int y0), (0, .ref (zad F G (60 + 3 * i0))), (1, .int x1), (2, .int x2), (3, .int x3), (4, .int x4)]) hx hb dX4_longestBearer_43 hl (by decide) rfl (fun ls hl => ?_)
  refine lv_iload hx hb dX4_longestBearer_45 (lv_at hl 0 rfl) ?_
  refine lv_iload_n hx hb dX4_longestBearer_47 rfl (lv_at hl 3 rfl) ?_
  refine lv_icmp_le (tgt := 57) hx hb dX4_longestBearer_48 (by decide) (fun c4 => ?_) (fun c4 => ?_)
  · replace h := z_ifp c4 h
    refine lv_iinc (v := (x4 + 1)) (lv' := [(4, .int ((x4 + 1))), (6, .int y0), (0, .ref (zad F G (60 + 3 * i0))), (1, .int x1), (2, .int x2), (3, .int x3)]) hx hb dX4_longestBearer_57 hl (k := 5) rfl rfl (by decide) rfl (fun ls hl => ?_)
    refine lv_goto (tgt := 7) hx hb dX4_longestBearer_60 (by decide) ?_
    exact hK7 x1 x2 x3 ((x4 + 1)) h _ _ _ hw hS (lv_sub hl [2, 3, 4, 5, 0] rfl)
  · replace h := z_ifn c4 h
    refine lv_iload hx hb dX4_longestBearer_51 (lv_at hl 0 rfl) ?_
    refine lv_istore_n (lv' := [(2, .int y0), (6, .int y0), (0, .ref (zad F G (60 + 3 * i0))), (1, .int x1), (3, .int x3), (4, .int x4)]) hx hb dX4_longestBearer_53 rfl hl (by decide) rfl (fun ls hl => ?_)
    refine lv_iload hx hb dX4_longestBearer_54 (lv_at hl 5 rfl) ?_
    refine lv_istore_n (lv' := [(3, .int x4), (2, .int y0), (6, .int y0), (0, .ref (zad F G (60 + 3 * i0))), (1, .int x1), (4, .int x4)]) hx hb dX4_longestBearer_56 rfl hl (by decide) rfl (fun ls hl => ?_)
    refine lv_iinc (v := (x4 + 1)) (lv' := [(4, .int ((x4 + 1))), (3, .int x4), (2, .int y0), (6, .int y0), (0, .ref (zad F G (60 + 3 * i0))), (1, .int x1)]) hx hb dX4_longestBearer_57 hl (k := 5) rfl rfl (by decide) rfl (fun ls hl => ?_)
    refine lv_goto (tgt := 7) hx hb dX4_longestBearer_60 (by decide) ?_
    exact hK7 x1 y0 x4 ((x4 + 1)) h _ _ _ hw hS (lv_sub hl [4, 5, 2, 1, 0] rfl)
def M_X4_longestBearer_B7 (pk : Nat → Nat) (S : zSt) (i0 : Nat) : Nat → Int32 → Int32 → Int32 → Int32 → Option (Int32)
  | 0, _, _, _, _ => none
  | n + 1, x1, x2, x3, x4 =>
  (if (zsc S (60 + 3 * i0) 3) ≤ x4 then some x3 else Option.bind (M_X4_personAt pk S i0 x4) (fun w2 => (zm w2 (M_X4_longestBearer_B43 pk S i0 (fun x1_ x2_ x3_ x4_ => M_X4_longestBearer_B7 pk S i0 n x1_ x2_ x3_ x4_) x1 x2 x3 x4 (-1)) (fun q3 => zg (zOKb pk q3) (Option.bind (M_X5_bearing pk S q3 x1 ((zsc S (60 + 3 * i0) 4))) (fun w5 => M_X4_longestBearer_B43 pk S i0 (fun x1_ x2_ x3_ x4_ => M_X4_longestBearer_B7 pk S i0 n x1_ x2_ x3_ x4_) x1 x2 x3 x4 w5))))))
set_option maxHeartbeats 4000000 in
set_option maxRecDepth 100000 in
theorem t_X4_longestBearer_B7 {p : Program} {l : Launch} {e : Env} {s : State} {m : MethodId} {args : Array Value} {below : List Frame} {meth : Method} {c : Code} {D : va_G} {Y : Nat → ClassId} {F : Nat → Nat} {A : Nat → Prop} {G : zG} (C0 : zCx p s m args meth c D Y F A RX4 cX4_longestBearer 7 (some .int) wsX4_longestBearer) (S : zSt) (i0 : Nat) (hi0 : i0 < 3) (res : Int32) : ∀ (n : Nat), ∀ (x1 : Int32) (x2 : Int32) (x3 : Int32) (x4 : Int32), M_X4_longestBearer_B7 (zpk G) S i0 n x1 x2 x3 x4 = some res → ∀ (H : Heap) (locs : List Loc) (ls : Array Slot), zH D Y F A G S H → va_S A s.heap H locs → lv_has ls 7 [(0, .ref (zad F G (60 + 3 * i0))), (1, .int x1), (2, .int x2), (3, .int x3), (4, .int x4)] → W p l e (zRm 3 65) s m args below meth c H locs 0 0 (MQ below (zQi D Y F A G (res, S)) args s 0 0 A) (F0 m 7 ls []) := by
  obtain ⟨hx, hb, hml, hr, hown, hts, hK, hA, hlk, hN⟩ := id C0
  intro n
  induction n with
  | zero =>
    intro x1 x2 x3 x4 h
    unfold M_X4_longestBearer_B7 at h
    cases h
  | succ n ih =>
    intro x1 x2 x3 x4 h H locs ls hw hS hl
    rw [M_X4_longestBearer_B7] at h
    refine lv_iload hx hb dX4_longestBearer_7 (lv_at hl 4 rfl) ?_
    refine lv_aload_n hx hb dX4_longestBearer_9 rfl (lv_at hl 0 rfl) ?_
    refine z_getU C0 in_X4_longestBearer_X4 (C := RX4) (T := TX4) (N := 6) hw (k := (60 + 3 * i0)) (ci := 4) (v := .int ((zsc S (60 + 3 * i0) 3))) (zld_E hi0) rfl (zld_B hi0) rfl 3 (by decide) rfl 1 rfl (Or.inl rfl) dX4_longestBearer_10 ?_
    refine lv_icmp_ge (tgt := 63) hx hb dX4_longestBearer_13 (by decide) (fun c1 => ?_) (fun c1 => ?_)
    · replace h := z_ifp c1 h
      refine lv_iload_n hx hb dX4_longestBearer_63 rfl (lv_at hl 3 rfl) ?_
      exact z_reti C0 hw hS (congrArg (fun z => (z, S)) (Option.some.inj h)) dX4_longestBearer_64
    · replace h := z_ifn c1 h
      refine lv_aload_n hx hb dX4_longestBearer_16 rfl (lv_at hl 0 rfl) ?_
      refine lv_iload hx hb dX4_longestBearer_17 (lv_at hl 4 rfl) ?_
      obtain ⟨w2, ew2, h⟩ := z_bd h
      refine z_goq C0 hw hS (r0 := w2.map (zpa F G)) (rest := []) (arr := (Value.ref (zad F G (60 + 3 * i0)) :: [.int x4]).toArray) ?_ (fun H locs hw hS => ?_)
      · exact va_runV (z_fix C0) (c_X4_personAt l D Y F G S _ i0 hi0 x4 w2 ew2) (cwV 1 hts gX4_longestBearer_X4_personAt rfl rfl rfl (by decide +kernel) ⟨Nat.le_of_ble_eq_true rfl, Nat.le_of_ble_eq_true rfl⟩) ⟨zPc_blind, z_rv C0 hw (k := (60 + 3 * i0)) (zld_E hi0) rfl (zld_B hi0) rfl, z_give C0 hw hS _⟩ rfl rfl hl.1 rfl (lv_room (Nat.le_of_ble_eq_true rfl)) dX4_longestBearer_19 ⟨Nat.zero_le _, Nat.zero_le _⟩
      rcases w2 with _ | q3
      · replace h := zm_n h
        refine z_topv (y := .null) rfl ?_
        refine lv_astoreN (lv' := [(5, .null), (0, .ref (zad F G (60 + 3 * i0))), (1, .int x1), (2, .int x2), (3, .int x3), (4, .int x4)]) hx hb dX4_longestBearer_22 hl (by decide) rfl (fun ls hl => ?_)
        refine lv_aloadN hx hb dX4_longestBearer_24 (lv_at hl 0 rfl) ?_
        refine lv_ifnonnullN hx hb dX4_longestBearer_26 ?_
        refine lv_iconst (v := (-1)) hx hb dX4_longestBearer_29 (by decide) ?_
        refine lv_goto (tgt := 43) hx hb dX4_longestBearer_30 (by decide) ?_
        exact t_X4_longestBearer_B43 C0 S i0 hi0 res (fun x1_ x2_ x3_ x4_ => M_X4_longestBearer_B7 (zpk G) S i0 n x1_ x2_ x3_ x4_) ih x1 x2 x3 x4 (-1) h _ _ _ hw hS (lv_sub hl [1, 2, 3, 4, 5] rfl)
      · replace h := zm_s h
        obtain ⟨bq3, h⟩ := z_gd h
        have hq3 := bq3
        refine z_topv (y := .ref (zad F G (100 + 4 * q3))) rfl ?_
        refine lv_astore (lv' := [(5, .ref (zad F G (100 + 4 * q3))), (0, .ref (zad F G (60 + 3 * i0))), (1, .int x1), (2, .int x2), (3, .int x3), (4, .int x4)]) hx hb dX4_longestBearer_22 hl (by decide) rfl (fun ls hl => ?_)
        refine lv_aload hx hb dX4_longestBearer_24 (lv_at hl 0 rfl) ?_
        refine lv_ifnonnull (tgt := 33) hx hb dX4_longestBearer_26 (by decide) ?_
        refine lv_aload hx hb dX4_longestBearer_33 (lv_at hl 0 rfl) ?_
        refine lv_iload_n hx hb dX4_longestBearer_35 rfl (lv_at hl 2 rfl) ?_
        refine lv_aload_n hx hb dX4_longestBearer_36 rfl (lv_at hl 1 rfl) ?_
        refine z_getU C0 in_X4_longestBearer_X4 (C := RX4) (T := TX4) (N := 6) hw (k := (60 + 3 * i0)) (ci := 4) (v := .int ((zsc S (60 + 3 * i0) 4))) (zld_E hi0) rfl (zld_B hi0) rfl 4 (by decide) rfl 2 rfl (Or.inl rfl) dX4_longestBearer_37 ?_
        obtain ⟨w5, ew5, h⟩ := z_bd h
        refine z_goi C0 hw hS (res := (w5, S)) (rest := []) (arr := (Value.ref (zad F G (100 + 4 * q3)) :: [.int x1, .int ((zsc S (60 + 3 * i0) 4))]).toArray) ?_ (fun H locs hw hS => ?_)
        · rcases zOK_cases hq3 with zz | zz | zz | zz | zz | zz | zz
          · exact va_runU (z_fix C0) (c_X5_bearing l D Y F G S _ q3 hq3 x1 ((zsc S (60 + 3 * i0) 4)) w5 ew5) (va_cwU 2 hts gX4_longestBearer_X5_bearing_u88X0 rfl rfl rfl rfl (by decide +kernel) ⟨Nat.le_of_ble_eq_true rfl, Nat.le_of_ble_eq_true rfl⟩) ⟨zPc_blind, z_prec C0 hw hq3 (ci := 0) zz rfl, z_give C0 hw hS _⟩ rfl rfl hl.1 rfl (lv_room (Nat.le_of_ble_eq_true rfl)) dX4_longestBearer_40 ⟨Nat.zero_le _, Nat.zero_le _⟩
          · exact va_runU (z_fix C0) (c_X5_bearing l D Y F G S _ q3 hq3 x1 ((zsc S (60 + 3 * i0) 4)) w5 ew5) (va_cwU 2 hts gX4_longestBearer_X5_bearing_u88X1 rfl rfl rfl rfl (by decide +kernel) ⟨Nat.le_of_ble_eq_true rfl, Nat.le_of_ble_eq_true rfl⟩) ⟨zPc_blind, z_prec C0 hw hq3 (ci := 1) zz rfl, z_give C0 hw hS _⟩ rfl rfl hl.1 rfl (lv_room (Nat.le_of_ble_eq_true rfl)) dX4_longestBearer_40 ⟨Nat.zero_le _, Nat.zero_le _⟩
          · exact va_runU (z_fix C0) (c_X5_bearing l D Y F G S _ q3 hq3 x1 ((zsc S (60 + 3 * i0) 4)) w5 ew5) (va_cwU 2 hts gX4_longestBearer_X5_bearing_u88X2 rfl rfl rfl rfl (by decide +kernel) ⟨Nat.le_of_ble_eq_true rfl, Nat.le_of_ble_eq_true rfl⟩) ⟨zPc_blind, z_prec C0 hw hq3 (ci := 2) zz rfl, z_give C0 hw hS _⟩ rfl rfl hl.1 rfl (lv_room (Nat.le_of_ble_eq_true rfl)) dX4_longestBearer_40 ⟨Nat.zero_le _, Nat.zero_le _⟩
          · exact va_runU (z_fix C0) (c_X5_bearing l D Y F G S _ q3 hq3 x1 ((zsc S (60 + 3 * i0) 4)) w5 ew5) (va_cwU 2 hts gX4_longestBearer_X5_bearing_u88X3 rfl rfl rfl rfl (by decide +kernel) ⟨Nat.le_of_ble_eq_true rfl, Nat.le_of_ble_eq_true rfl⟩) ⟨zPc_blind, z_prec C0 hw hq3 (ci := 3) zz rfl, z_give C0 hw hS _⟩ rfl rfl hl.1 rfl (lv_room (Nat.le_of_ble_eq_true rfl)) dX4_longestBearer_40 ⟨Nat.zero_le _, Nat.zero_le _⟩
          · exact va_runV (z_fix C0) (c_X5_bearing l D Y F G S _ q3 hq3 x1 ((zsc S (60 + 3 * i0) 4)) w5 ew5) (cwV 2 hts gX4_longestBearer_X5_bearing rfl rfl rfl (by decide +kernel) ⟨Nat.le_of_ble_eq_true rfl, Nat.le_of_ble_eq_true rfl⟩) ⟨zPc_blind, z_prec C0 hw hq3 (ci := 5) zz rfl, z_give C0 hw hS _⟩ rfl rfl hl.1 rfl (lv_room (Nat.le_of_ble_eq_true rfl)) dX4_longestBearer_40 ⟨Nat.zero_le _, Nat.zero_le _⟩
          · exact va_runU (z_fix C0) (c_X5_bearing l D Y F G S _ q3 hq3 x1 ((zsc S (60 + 3 * i0) 4)) w5 ew5) (va_cwU 2 hts gX4_longestBearer_X5_bearing_u88X8 rfl rfl rfl rfl (by decide +kernel) ⟨Nat.le_of_ble_eq_true rfl, Nat.le_of_ble_eq_true rfl⟩) ⟨zPc_blind, z_prec C0 hw hq3 (ci := 8) zz rfl, z_give C0 hw hS _⟩ rfl rfl hl.1 rfl (lv_room (Nat.le_of_ble_eq_true rfl)) dX4_longestBearer_40 ⟨Nat.zero_le _, Nat.zero_le _⟩
          · exact va_runU (z_fix C0) (c_X5_bearing l D Y F G S _ q3 hq3 x1 ((zsc S (60 + 3 * i0) 4)) w5 ew5) (va_cwU 2 hts gX4_longestBearer_X5_bearing_u88X10 rfl rfl rfl rfl (by decide +kernel) ⟨Nat.le_of_ble_eq_true rfl, Nat.le_of_ble_eq_true rfl⟩) ⟨zPc_blind, z_prec C0 hw hq3 (ci := 10) zz rfl, z_give C0 hw hS _⟩ rfl rfl hl.1 rfl (lv_room (Nat.le_of_ble_eq_true rfl)) dX4_longestBearer_40 ⟨Nat.zero_le _, Nat.zero_le _⟩
        exact t_X4_longestBearer_B43 C0 S i0 hi0 res (fun x1_ x2_ x3_ x4_ => M_X4_longestBearer_B7 (zpk G) S i0 n x1_ x2_ x3_ x4_) ih x1 x2 x3 x4 w5 h _ _ _ hw hS (lv_sub hl [1, 2, 3, 4, 5] rfl)
def M_X4_longestBearer (pk : Nat → Nat) (S : zSt) (i0 : Nat) (x1 : Int32) : Option (Int32) :=
  M_X4_longestBearer_B7 pk S i0 zF x1 (-1) (-1) 0
set_option maxHeartbeats 4000000 in
set_option maxRecDepth 100000 in
theorem c_X4_longestBearer (l : Launch) (D : va_G) (Y : Nat → ClassId) (F : Nat → Nat) (G : zG) (S : zSt) (sz : Nat) (i0 : Nat) (hi0 : i0 < 3) (x1 : Int32) (res : Int32) (h : M_X4_longestBearer (zpk G) S i0 x1 = some res) : Met l yX4_longestBearer wsX4_longestBearer (zRm 3 65) (zPc D Y F G S sz [.ref (zad F G (60 + 3 * i0)), .int x1]) (zQi D Y F (zAo F G sz) G (res, S)) 0 0 (zAo F G sz) := by
  unfold M_X4_longestBearer at h
  refine zMet (cc := cX4_longestBearer) (maxL := 7) (ret := (some .int)) (own := RX4) (by decide +kernel) rfl rfl (Nat.le_of_ble_eq_true rfl) ?_
  intro p e s m args below meth c C0 hin hw hS ls hl
  have hl : lv_has ls 7 [(0, .ref (zad F G (60 + 3 * i0))), (1, .int x1)] := hl
  generalize zAo F G sz = A at C0 hw hS ⊢
  obtain ⟨hx, hb, hml, hr, hown, hts, hK, hA, hlk, hN⟩ := id C0
  refine lv_iconst (v := (-1)) hx hb dX4_longestBearer_0 (by decide) ?_
  refine lv_istore_n (lv' := [(2, .int (-1)), (0, .ref (zad F G (60 + 3 * i0))), (1, .int x1)]) hx hb dX4_longestBearer_1 rfl hl (by decide) rfl (fun ls hl => ?_)
  refine lv_iconst (v := (-1)) hx hb dX4_longestBearer_2 (by decide) ?_
  refine lv_istore_n (lv' := [(3, .int (-1)), (2, .int (-1)), (0, .ref (zad F G (60 + 3 * i0))), (1, .int x1)]) hx hb dX4_longestBearer_3 rfl hl (by decide) rfl (fun ls hl => ?_)
  refine lv_iconst (v := 0) hx hb dX4_longestBearer_4 (by decide) ?_
  refine lv_istore (lv' := [(4, .int 0), (3, .int (-1)), (2, .int (-1)), (0, .ref (zad F G (60 + 3 * i0))), (1, .int x1)]) hx hb dX4_longestBearer_5 hl (by decide) rfl (fun ls hl => ?_)
  exact t_X4_longestBearer_B7 C0 S i0 hi0 res zF x1 (-1) (-1) 0 h _ _ _ hw hS (lv_sub hl [3, 4, 2, 1, 0] rfl)
def M_X4_fitsTold_B3 (pk : Nat → Nat) (S : zSt) (q0 : Nat) (s2 : Nat) : Nat → Int32 → Int32 → Int32 → Int32 → Option (Int32)
  | 0, _, _, _, _ => none
  | n + 1, x1, x3, x4, x5 =>
  (if x3 ≤ x5 then some 1 else (if 8 ≤ x5 then some 1 else Option.bind (M_X5_strengthOf pk S q0 x1 x5) (fun w3 => Option.bind (M_X7_intAt pk S s2 x5) (fun w4 => (if 0 < (lg_cmp (((Int32.toInt64 w3) - (Int32.toInt64 w4))) ((Int32.toInt64 x4))) then some 0 else (if 0 ≤ (lg_cmp (((Int32.toInt64 w3) - (Int32.toInt64 w4))) ((Int32.toInt64 ((-x4))))) then M_X4_fitsTold_B3 pk S q0 s2 n x1 x3 x4 ((x5 + 1)) else some 0))))))
set_option maxHeartbeats 4000000 in
set_option maxRecDepth 100000 in
theorem t_X4_fitsTold_B3 {p : Program} {l : Launch} {e : Env} {s : State} {m : MethodId} {args : Array Value} {below : List Frame} {meth : Method} {c : Code} {D : va_G} {Y : Nat → ClassId} {F : Nat → Nat} {A : Nat → Prop} {G : zG} (C0 : zCx p s m args meth c D Y F A RX4 cX4_fitsTold 8 (some .boolean) wsX4_fitsTold) (S : zSt) (q0 : Nat) (s2 : Nat) (hq0 : zOKb (zpk G) q0 = true) (hs2 : s2 < 8) (res : Int32) : ∀ (n : Nat), ∀ (x1 : Int32) (x3 : Int32) (x4 : Int32) (x5 : Int32), M_X4_fitsTold_B3 (zpk G) S q0 s2 n x1 x3 x4 x5 = some res → ∀ (H : Heap) (locs : List Loc) (ls : Array Slot), zH D Y F A G S H → va_S A s.heap H locs → lv_has ls 8 [(0, .ref (zad F G (100 + 4 * q0))), (1, .int x1), (2, .ref (zad F G (40 + 2 * s2))), (3, .int x3), (4, .int x4), (5, .int x5)] → W p l e (zRm 4 83) s m args below meth c H locs 0 0 (MQ below (zQi D Y F A G (res, S)) args s 0 0 A) (F0 m 3 ls []) := by
  obtain ⟨hx, hb, hml, hr, hown, hts, hK, hA, hlk, hN⟩ := id C0
  intro n
  induction n with
  | zero =>
    intro x1 x3 x4 x5 h
    unfold M_X4_fitsTold_B3 at h
    cases h
  | succ n ih =>
    intro x1 x3 x4 x5 h H locs ls hw hS hl
    rw [M_X4_fitsTold_B3] at h
    refine lv_iload hx hb dX4_fitsTold_3 (lv_at hl 5 rfl) ?_
    refine lv_iload_n hx hb dX4_fitsTold_5 rfl (lv_at hl 3 rfl) ?_
    refine lv_icmp_ge (tgt := 61) hx hb dX4_fitsTold_6 (by decide) (fun c1 => ?_) (fun c1 => ?_)
    · replace h := z_ifp c1 h
      refine lv_iconst (v := 1) hx hb dX4_fitsTold_61 (by decide) ?_
      exact z_retz C0 hw hS rfl (congrArg (fun z => (z, S)) (Option.some.inj h)) dX4_fitsTold_62
    · replace h := z_ifn c1 h
      refine lv_iload hx hb dX4_fitsTold_9 (lv_at hl 5 rfl) ?_
      refine lv_bipush (v := 8) hx hb dX4_fitsTold_11 (by decide) ?_
      refine lv_icmp_ge (tgt := 61) hx hb dX4_fitsTold_13 (by decide) (fun c2 => ?_) (fun c2 => ?_)
      · replace h := z_ifp c2 h
        refine lv_iconst (v := 1) hx hb dX4_fitsTold_61 (by decide) ?_
        exact z_retz C0 hw hS rfl (congrArg (fun z => (z, S)) (Option.some.inj h)) dX4_fitsTold_62
      · replace h := z_ifn c2 h
        refine lv_aload_n hx hb dX4_fitsTold_16 rfl (lv_at hl 0 rfl) ?_
        refine lv_iload_n hx hb dX4_fitsTold_17 rfl (lv_at hl 1 rfl) ?_
        refine lv_iload hx hb dX4_fitsTold_18 (lv_at hl 5 rfl) ?_
        obtain ⟨w3, ew3, h⟩ := z_bd h
        refine z_goi C0 hw hS (res := (w3, S)) (rest := []) (arr := (Value.ref (zad F G (100 + 4 * q0)) :: [.int x1, .int x5]).toArray) ?_ (fun H locs hw hS => ?_)
        · rcases zOK_cases hq0 with zz | zz | zz | zz | zz | zz | zz
          · exact va_runU (z_fix C0) (c_X5_strengthOf l D Y F G S _ q0 hq0 x1 x5 w3 ew3) (va_cwU 2 hts gX4_fitsTold_X5_strengthOf_u100X0 rfl rfl rfl rfl (by decide +kernel) ⟨Nat.le_of_ble_eq_true rfl, Nat.le_of_ble_eq_true rfl⟩) ⟨zPc_blind, z_prec C0 hw hq0 (ci := 0) zz rfl, z_give C0 hw hS _⟩ rfl rfl hl.1 rfl (lv_room (Nat.le_of_ble_eq_true rfl)) dX4_fitsTold_20 ⟨Nat.zero_le _, Nat.zero_le _⟩
          · exact va_runU (z_fix C0) (c_X5_strengthOf l D Y F G S _ q0 hq0 x1 x5 w3 ew3) (va_cwU 2 hts gX4_fitsTold_X5_strengthOf_u100X1 rfl rfl rfl rfl (by decide +kernel) ⟨Nat.le_of_ble_eq_true rfl, Nat.le_of_ble_eq_true rfl⟩) ⟨zPc_blind, z_prec C0 hw hq0 (ci := 1) zz rfl, z_give C0 hw hS _⟩ rfl rfl hl.1 rfl (lv_room (Nat.le_of_ble_eq_true rfl)) dX4_fitsTold_20 ⟨Nat.zero_le _, Nat.zero_le _⟩
          · exact va_runU (z_fix C0) (c_X5_strengthOf l D Y F G S _ q0 hq0 x1 x5 w3 ew3) (va_cwU 2 hts gX4_fitsTold_X5_strengthOf_u100X2 rfl rfl rfl rfl (by decide +kernel) ⟨Nat.le_of_ble_eq_true rfl, Nat.le_of_ble_eq_true rfl⟩) ⟨zPc_blind, z_prec C0 hw hq0 (ci := 2) zz rfl, z_give C0 hw hS _⟩ rfl rfl hl.1 rfl (lv_room (Nat.le_of_ble_eq_true rfl)) dX4_fitsTold_20 ⟨Nat.zero_le _, Nat.zero_le _⟩
          · exact va_runU (z_fix C0) (c_X5_strengthOf l D Y F G S _ q0 hq0 x1 x5 w3 ew3) (va_cwU 2 hts gX4_fitsTold_X5_strengthOf_u100X3 rfl rfl rfl rfl (by decide +kernel) ⟨Nat.le_of_ble_eq_true rfl, Nat.le_of_ble_eq_true rfl⟩) ⟨zPc_blind, z_prec C0 hw hq0 (ci := 3) zz rfl, z_give C0 hw hS _⟩ rfl rfl hl.1 rfl (lv_room (Nat.le_of_ble_eq_true rfl)) dX4_fitsTold_20 ⟨Nat.zero_le _, Nat.zero_le _⟩
          · exact va_runV (z_fix C0) (c_X5_strengthOf l D Y F G S _ q0 hq0 x1 x5 w3 ew3) (cwV 2 hts gX4_fitsTold_X5_strengthOf rfl rfl rfl (by decide +kernel) ⟨Nat.le_of_ble_eq_true rfl, Nat.le_of_ble_eq_true rfl⟩) ⟨zPc_blind, z_prec C0 hw hq0 (ci := 5) zz rfl, z_give C0 hw hS _⟩ rfl rfl hl.1 rfl (lv_room (Nat.le_of_ble_eq_true rfl)) dX4_fitsTold_20 ⟨Nat.zero_le _, Nat.zero_le _⟩
          · exact va_runU (z_fix C0) (c_X5_strengthOf l D Y F G S _ q0 hq0 x1 x5 w3 ew3) (va_cwU 2 hts gX4_fitsTold_X5_strengthOf_u100X8 rfl rfl rfl rfl (by decide +kernel) ⟨Nat.le_of_ble_eq_true rfl, Nat.le_of_ble_eq_true rfl⟩) ⟨zPc_blind, z_prec C0 hw hq0 (ci := 8) zz rfl, z_give C0 hw hS _⟩ rfl rfl hl.1 rfl (lv_room (Nat.le_of_ble_eq_true rfl)) dX4_fitsTold_20 ⟨Nat.zero_le _, Nat.zero_le _⟩
          · exact va_runU (z_fix C0) (c_X5_strengthOf l D Y F G S _ q0 hq0 x1 x5 w3 ew3) (va_cwU 2 hts gX4_fitsTold_X5_strengthOf_u100X10 rfl rfl rfl rfl (by decide +kernel) ⟨Nat.le_of_ble_eq_true rfl, Nat.le_of_ble_eq_true rfl⟩) ⟨zPc_blind, z_prec C0 hw hq0 (ci := 10) zz rfl, z_give C0 hw hS _⟩ rfl rfl hl.1 rfl (lv_room (Nat.le_of_ble_eq_true rfl)) dX4_fitsTold_20 ⟨Nat.zero_le _, Nat.zero_le _⟩
        refine lv_i2l (v := (Int32.toInt64 w3)) hx hb dX4_fitsTold_23 rfl ?_
        refine lv_aload_n hx hb dX4_fitsTold_24 rfl (lv_at hl 2 rfl) ?_
        refine lv_iload hx hb dX4_fitsTold_25 (lv_at hl 5 rfl) ?_
        obtain ⟨w4, ew4, h⟩ := z_bd h
        refine z_goi C0 hw hS (res := (w4, S)) (rest := [.long ((Int32.toInt64 w3))]) (arr := (Value.ref (zad F G (40 + 2 * s2)) :: [.int x5]).toArray) ?_ (fun H locs hw hS => ?_)
        · exact va_runV (z_fix C0) (c_X7_intAt l D Y F G S _ s2 hs2 x5 w4 ew4) (cwV 1 hts gX4_fitsTold_X7_intAt rfl rfl rfl (by decide +kernel) ⟨Nat.le_of_ble_eq_true rfl, Nat.le_of_ble_eq_true rfl⟩) ⟨zPc_blind, z_rv C0 hw (k := (40 + 2 * s2)) (zsh_E hs2) rfl (zsh_B hs2) rfl, z_give C0 hw hS _⟩ rfl rfl hl.1 rfl (lv_room (Nat.le_of_ble_eq_true rfl)) dX4_fitsTold_27 ⟨Nat.zero_le _, Nat.zero_le _⟩
        refine lv_i2l (v := (Int32.toInt64 w4)) hx hb dX4_fitsTold_30 rfl ?_
        refine lv_lsub hx hb dX4_fitsTold_31 ?_
        refine lv_lstore (lv' := [(6, .long (((Int32.toInt64 w3) - (Int32.toInt64 w4)))), (0, .ref (zad F G (100 + 4 * q0))), (1, .int x1), (2, .ref (zad F G (40 + 2 * s2))), (3, .int x3), (4, .int x4), (5, .int x5)]) hx hb dX4_fitsTold_32 hl (by decide) rfl (fun ls hl => ?_)
        refine lv_lload hx hb dX4_fitsTold_34 (lv_at hl 0 rfl) ?_
        refine lv_iload hx hb dX4_fitsTold_36 (lv_at hl 5 rfl) ?_
        refine lv_i2l (v := (Int32.toInt64 x4)) hx hb dX4_fitsTold_38 rfl ?_
        refine W.lcmp hx hb dX4_fitsTold_39 ?_
        refine lv_if_gt (tgt := 53) hx hb dX4_fitsTold_40 (by decide) (fun c5 => ?_) (fun c5 => ?_)
        · replace h := z_ifp c5 h
          refine lv_iconst (v := 0) hx hb dX4_fitsTold_53 (by decide) ?_
          exact z_retz C0 hw hS rfl (congrArg (fun z => (z, S)) (Option.some.inj h)) dX4_fitsTold_54
        · replace h := z_ifn c5 h
          refine lv_lload hx hb dX4_fitsTold_43 (lv_at hl 0 rfl) ?_
          refine lv_iload hx hb dX4_fitsTold_45 (lv_at hl 5 rfl) ?_
          refine lv_ineg hx hb dX4_fitsTold_47 ?_
          refine lv_i2l (v := (Int32.toInt64 ((-x4)))) hx hb dX4_fitsTold_48 rfl ?_
          refine W.lcmp hx hb dX4_fitsTold_49 ?_
          refine lv_if_ge (tgt := 55) hx hb dX4_fitsTold_50 (by decide) (fun c6 => ?_) (fun c6 => ?_)
          · replace h := z_ifp c6 h
            refine lv_iinc (v := (x5 + 1)) (lv' := [(5, .int ((x5 + 1))), (6, .long (((Int32.toInt64 w3) - (Int32.toInt64 w4)))), (0, .ref (zad F G (100 + 4 * q0))), (1, .int x1), (2, .ref (zad F G (40 + 2 * s2))), (3, .int x3), (4, .int x4)]) hx hb dX4_fitsTold_55 hl (k := 6) rfl rfl (by decide) rfl (fun ls hl => ?_)
            refine lv_goto (tgt := 3) hx hb dX4_fitsTold_58 (by decide) ?_
            exact ih x1 x3 x4 ((x5 + 1)) h _ _ _ hw hS (lv_sub hl [2, 3, 4, 5, 6, 0] rfl)
          · replace h := z_ifn c6 h
            refine lv_iconst (v := 0) hx hb dX4_fitsTold_53 (by decide) ?_
            exact z_retz C0 hw hS rfl (congrArg (fun z => (z, S)) (Option.some.inj h)) dX4_fitsTold_54
def M_X4_fitsTold (pk : Nat → Nat) (S : zSt) (q0 : Nat) (s2 : Nat) (x1 : Int32) (x3 : Int32) (x4 : Int32) : Option (Int32) :=
  M_X4_fitsTold_B3 pk S q0 s2 zF x1 x3 x4 0
set_option maxHeartbeats 4000000 in
set_option maxRecDepth 100000 in
theorem c_X4_fitsTold (l : Launch) (D : va_G) (Y : Nat → ClassId) (F : Nat → Nat) (G : zG) (S : zSt) (sz : Nat) (q0 : Nat) (s2 : Nat) (hq0 : zOKb (zpk G) q0 = true) (hs2 : s2 < 8) (x1 : Int32) (x3 : Int32) (x4 : Int32) (res : Int32) (h : M_X4_fitsTold (zpk G) S q0 s2 x1 x3 x4 = some res) : Met l yX4_fitsTold wsX4_fitsTold (zRm 4 83) (zPc D Y F G S sz [.ref (zad F G (100 + 4 * q0)), .int x1, .ref (zad F G (40 + 2 * s2)), .int x3, .int x4]) (zQi D Y F (zAo F G sz) G (res, S)) 0 0 (zAo F G sz) := by
  unfold M_X4_fitsTold at h
  refine zMet (cc := cX4_fitsTold) (maxL := 8) (ret := (some .boolean)) (own := RX4) (by decide +kernel) rfl rfl (Nat.le_of_ble_eq_true rfl) ?_
  intro p e s m args below meth c C0 hin hw hS ls hl
  have hl : lv_has ls 8 [(0, .ref (zad F G (100 + 4 * q0))), (1, .int x1), (2, .ref (zad F G (40 + 2 * s2))), (3, .int x3), (4, .int x4)] := hl
  generalize zAo F G sz = A at C0 hw hS ⊢
  obtain ⟨hx, hb, hml, hr, hown, hts, hK, hA, hlk, hN⟩ := id C0
  refine lv_iconst (v := 0) hx hb dX4_fitsTold_0 (by decide) ?_
  refine lv_istore (lv' := [(5, .int 0), (0, .ref (zad F G (100 + 4 * q0))), (1, .int x1), (2, .ref (zad F G (40 + 2 * s2))), (3, .int x3), (4, .int x4)]) hx hb dX4_fitsTold_1 hl (by decide) rfl (fun ls hl => ?_)
  exact t_X4_fitsTold_B3 C0 S q0 s2 hq0 hs2 res zF x1 x3 x4 0 h _ _ _ hw hS (lv_sub hl [1, 2, 3, 4, 5, 0] rfl)
def M_X4_findFits_B26 (pk : Nat → Nat) (i0 : Nat) (s1 : Nat) (K6 : zSt → Int32 → Int32 → Int32 → Int32 → Option (Int32 × zSt)) : Nat → zSt → Int32 → Int32 → Int32 → Int32 → Option Nat → Int32 → Option (Int32 × zSt)
  | 0, _, _, _, _, _, _, _ => none
  | n + 1, S, x2, x3, x5, x6, o7, x8 =>
  (zm o7 (K6 S x2 x3 x5 ((x6 + 1))) (fun q4 => zg (zOKb pk q4) ((if 6 ≤ x8 then K6 S x2 x3 x5 ((x6 + 1)) else Option.bind (M_X5_isLeft pk S q4 x8) (fun w6 => (if w6 = 0 then M_X4_findFits_B26 pk i0 s1 K6 n S x2 x3 x5 x6 (some q4) ((x8 + 1)) else Option.bind (M_X4_fitsTold pk S q4 s1 x8 x2 x3) (fun w8 => (if w8 = 0 then M_X4_findFits_B26 pk i0 s1 K6 n S x2 x3 x5 x6 (some q4) ((x8 + 1)) else (if (Int32.ofNat 36) ≤ x5 then M_X4_findFits_B26 pk i0 s1 K6 n S x2 x3 x5 x6 (some q4) ((x8 + 1)) else zg (zin x5 36) (M_X4_findFits_B26 pk i0 s1 K6 n ((zAs S 23 (Int32.toNatClampNeg x5) ((((10 : Int32) * x6) + x8)))) x2 x3 ((x5 + 1)) x6 (some q4) ((x8 + 1))))))))))))
set_option maxHeartbeats 4000000 in
set_option maxRecDepth 100000 in
theorem t_X4_findFits_B26 {p : Program} {l : Launch} {e : Env} {s : State} {m : MethodId} {args : Array Value} {below : List Frame} {meth : Method} {c : Code} {D : va_G} {Y : Nat → ClassId} {F : Nat → Nat} {A : Nat → Prop} {G : zG} (C0 : zCx p s m args meth c D Y F A RX4 cX4_findFits 9 (some .int) wsX4_findFits) (i0 : Nat) (s1 : Nat) (hi0 : i0 < 3) (hs1 : s1 < 8) (res : Int32 × zSt) (K6 : zSt → Int32 → Int32 → Int32 → Int32 → Option (Int32 × zSt)) (hK6 : ∀ (S : zSt) (x2 : Int32) (x3 : Int32) (x5 : Int32) (x6 : Int32), K6 S x2 x3 x5 x6 = some res → ∀ (H : Heap) (locs : List Loc) (ls : Array Slot), zH D Y F A G S H → va_S A s.heap H locs → lv_has ls 9 [(0, .ref (zad F G (60 + 3 * i0))), (1, .ref (zad F G (40 + 2 * s1))), (2, .int x2), (3, .int x3), (4, .ref (F 23)), (5, .int x5), (6, .int x6)] → W p l e (zRm 5 110) s m args below meth c H locs 0 0 (MQ below (zQi D Y F A G res) args s 0 0 A) (F0 m 6 ls [])) : ∀ (n : Nat), ∀ (S : zSt) (x2 : Int32) (x3 : Int32) (x5 : Int32) (x6 : Int32) (o7 : Option Nat) (x8 : Int32), M_X4_findFits_B26 (zpk G) i0 s1 K6 n S x2 x3 x5 x6 o7 x8 = some res → ∀ (H : Heap) (locs : List Loc) (ls : Array Slot), zH D Y F A G S H → va_S A s.heap H locs → lv_has ls 9 [(0, .ref (zad F G (60 + 3 * i0))), (1, .ref (zad F G (40 + 2 * s1))), (2, .int x2), (3, .int x3), (4, .ref (F 23)), (5, .int x5), (6, .int x6), (7, va_rf (Option.map (zpa F G) o7)), (8, .int x8)] → W p l e (zRm 5 110) s m args below meth c H locs 0 0 (MQ below (zQi D Y F A G res) args s 0 0 A) (F0 m 26 ls []) := by
  obtain ⟨hx, hb, hml, hr, hown, hts, hK, hA, hlk, hN⟩ := id C0
  intro n
  induction n with
  | zero =>
    intro S x2 x3 x5 x6 o7 x8 h
    unfold M_X4_findFits_B26 at h
    cases h
  | succ n ih =>
    intro S x2 x3 x5 x6 o7 x8 h H locs ls hw hS hl
    rw [M_X4_findFits_B26] at h
    rcases o7 with _ | q4
    · replace h := zm_n h
      have hl : lv_has ls 9 [(0, .ref (zad F G (60 + 3 * i0))), (1, .ref (zad F G (40 + 2 * s1))), (2, .int x2), (3, .int x3), (4, .ref (F 23)), (5, .int x5), (6, .int x6), (7, .null), (8, .int x8)] := hl
      refine lv_aloadN hx hb dX4_findFits_26 (lv_at hl 7 rfl) ?_
      refine lv_ifnullN (tgt := 91) hx hb dX4_findFits_28 (by decide) ?_
      refine lv_iinc (v := (x6 + 1)) (lv' := [(6, .int ((x6 + 1))), (0, .ref (zad F G (60 + 3 * i0))), (1, .ref (zad F G (40 + 2 * s1))), (2, .int x2), (3, .int x3), (4, .ref (F 23)), (5, .int x5), (7, .null), (8, .int x8)]) hx hb dX4_findFits_91 hl (k := 6) rfl rfl (by decide) rfl (fun ls hl => ?_)
      refine lv_goto (tgt := 6) hx hb dX4_findFits_94 (by decide) ?_
      exact hK6 S x2 x3 x5 ((x6 + 1)) h _ _ _ hw hS (lv_sub hl [1, 2, 3, 4, 5, 6, 0] rfl)
    · replace h := zm_s h
      obtain ⟨bq4, h⟩ := z_gd h
      have hq4 := bq4
      have hl : lv_has ls 9 [(0, .ref (zad F G (60 + 3 * i0))), (1, .ref (zad F G (40 + 2 * s1))), (2, .int x2), (3, .int x3), (4, .ref (F 23)), (5, .int x5), (6, .int x6), (7, .ref (zad F G (100 + 4 * q4))), (8, .int x8)] := hl
      refine lv_aload hx hb dX4_findFits_26 (lv_at hl 7 rfl) ?_
      refine lv_ifnull hx hb dX4_findFits_28 ?_
      refine lv_iload hx hb dX4_findFits_31 (lv_at hl 8 rfl) ?_
      refine lv_bipush (v := 6) hx hb dX4_findFits_33 (by decide) ?_
      refine lv_icmp_ge (tgt := 91) hx hb dX4_findFits_35 (by decide) (fun c5 => ?_) (fun c5 => ?_)
      · replace h := z_ifp c5 h
        refine lv_iinc (v := (x6 + 1)) (lv' := [(6, .int ((x6 + 1))), (0, .ref (zad F G (60 + 3 * i0))), (1, .ref (zad F G (40 + 2 * s1))), (2, .int x2), (3, .int x3), (4, .ref (F 23)), (5, .int x5), (7, .ref (zad F G (100 + 4 * q4))), (8, .int x8)]) hx hb dX4_findFits_91 hl (k := 6) rfl rfl (by decide) rfl (fun ls hl => ?_)
        refine lv_goto (tgt := 6) hx hb dX4_findFits_94 (by decide) ?_
        exact hK6 S x2 x3 x5 ((x6 + 1)) h _ _ _ hw hS (lv_sub hl [1, 2, 3, 4, 5, 6, 0] rfl)
      · replace h := z_ifn c5 h
        refine lv_aload hx hb dX4_findFits_38 (lv_at hl 7 rfl) ?_
        refine lv_iload hx hb dX4_findFits_40 (lv_at hl 8 rfl) ?_
        obtain ⟨w6, ew6, h⟩ := z_bd h
        refine z_goi C0 hw hS (res := (w6, S)) (rest := []) (arr := (Value.ref (zad F G (100 + 4 * q4)) :: [.int x8]).toArray) ?_ (fun H locs hw hS => ?_)
        · rcases zOK_cases hq4 with zz | zz | zz | zz | zz | zz | zz
          · exact va_runU (z_fix C0) (c_X5_isLeft l D Y F G S _ q4 hq4 x8 w6 ew6) (va_cwU 1 hts gX4_findFits_X5_isLeft_u92X0 rfl rfl rfl rfl (by decide +kernel) ⟨Nat.le_of_ble_eq_true rfl, Nat.le_of_ble_eq_true rfl⟩) ⟨zPc_blind, z_prec C0 hw hq4 (ci := 0) zz rfl, z_give C0 hw hS _⟩ rfl rfl hl.1 rfl (lv_room (Nat.le_of_ble_eq_true rfl)) dX4_findFits_42 ⟨Nat.zero_le _, Nat.zero_le _⟩
          · exact va_runU (z_fix C0) (c_X5_isLeft l D Y F G S _ q4 hq4 x8 w6 ew6) (va_cwU 1 hts gX4_findFits_X5_isLeft_u92X1 rfl rfl rfl rfl (by decide +kernel) ⟨Nat.le_of_ble_eq_true rfl, Nat.le_of_ble_eq_true rfl⟩) ⟨zPc_blind, z_prec C0 hw hq4 (ci := 1) zz rfl, z_give C0 hw hS _⟩ rfl rfl hl.1 rfl (lv_room (Nat.le_of_ble_eq_true rfl)) dX4_findFits_42 ⟨Nat.zero_le _, Nat.zero_le _⟩
          · exact va_runU (z_fix C0) (c_X5_isLeft l D Y F G S _ q4 hq4 x8 w6 ew6) (va_cwU 1 hts gX4_findFits_X5_isLeft_u92X2 rfl rfl rfl rfl (by decide +kernel) ⟨Nat.le_of_ble_eq_true rfl, Nat.le_of_ble_eq_true rfl⟩) ⟨zPc_blind, z_prec C0 hw hq4 (ci := 2) zz rfl, z_give C0 hw hS _⟩ rfl rfl hl.1 rfl (lv_room (Nat.le_of_ble_eq_true rfl)) dX4_findFits_42 ⟨Nat.zero_le _, Nat.zero_le _⟩
          · exact va_runU (z_fix C0) (c_X5_isLeft l D Y F G S _ q4 hq4 x8 w6 ew6) (va_cwU 1 hts gX4_findFits_X5_isLeft_u92X3 rfl rfl rfl rfl (by decide +kernel) ⟨Nat.le_of_ble_eq_true rfl, Nat.le_of_ble_eq_true rfl⟩) ⟨zPc_blind, z_prec C0 hw hq4 (ci := 3) zz rfl, z_give C0 hw hS _⟩ rfl rfl hl.1 rfl (lv_room (Nat.le_of_ble_eq_true rfl)) dX4_findFits_42 ⟨Nat.zero_le _, Nat.zero_le _⟩
          · exact va_runV (z_fix C0) (c_X5_isLeft l D Y F G S _ q4 hq4 x8 w6 ew6) (cwV 1 hts gX4_findFits_X5_isLeft rfl rfl rfl (by decide +kernel) ⟨Nat.le_of_ble_eq_true rfl, Nat.le_of_ble_eq_true rfl⟩) ⟨zPc_blind, z_prec C0 hw hq4 (ci := 5) zz rfl, z_give C0 hw hS _⟩ rfl rfl hl.1 rfl (lv_room (Nat.le_of_ble_eq_true rfl)) dX4_findFits_42 ⟨Nat.zero_le _, Nat.zero_le _⟩
          · exact va_runU (z_fix C0) (c_X5_isLeft l D Y F G S _ q4 hq4 x8 w6 ew6) (va_cwU 1 hts gX4_findFits_X5_isLeft_u92X8 rfl rfl rfl rfl (by decide +kernel) ⟨Nat.le_of_ble_eq_true rfl, Nat.le_of_ble_eq_true rfl⟩) ⟨zPc_blind, z_prec C0 hw hq4 (ci := 8) zz rfl, z_give C0 hw hS _⟩ rfl rfl hl.1 rfl (lv_room (Nat.le_of_ble_eq_true rfl)) dX4_findFits_42 ⟨Nat.zero_le _, Nat.zero_le _⟩
          · exact va_runU (z_fix C0) (c_X5_isLeft l D Y F G S _ q4 hq4 x8 w6 ew6) (va_cwU 1 hts gX4_findFits_X5_isLeft_u92X10 rfl rfl rfl rfl (by decide +kernel) ⟨Nat.le_of_ble_eq_true rfl, Nat.le_of_ble_eq_true rfl⟩) ⟨zPc_blind, z_prec C0 hw hq4 (ci := 10) zz rfl, z_give C0 hw hS _⟩ rfl rfl hl.1 rfl (lv_room (Nat.le_of_ble_eq_true rfl)) dX4_findFits_42 ⟨Nat.zero_le _, Nat.zero_le _⟩
        refine lv_if_eq (tgt := 85) hx hb dX4_findFits_45 (by decide) (fun c7 => ?_) (fun c7 => ?_)
        · replace h := z_ifp c7 h
          refine lv_iinc (v := (x8 + 1)) (lv' := [(8, .int ((x8 + 1))), (0, .ref (zad F G (60 + 3 * i0))), (1, .ref (zad F G (40 + 2 * s1))), (2, .int x2), (3, .int x3), (4, .ref (F 23)), (5, .int x5), (6, .int x6), (7, .ref (zad F G (100 + 4 * q4)))]) hx hb dX4_findFits_85 hl (k := 8) rfl rfl (by decide) rfl (fun ls hl => ?_)
          refine lv_goto (tgt := 26) hx hb dX4_findFits_88 (by decide) ?_
          exact ih S x2 x3 x5 x6 (some q4) ((x8 + 1)) h _ _ _ hw hS (lv_sub hl [1, 2, 3, 4, 5, 6, 7, 8, 0] rfl)
        · replace h := z_ifn c7 h
          refine lv_aload hx hb dX4_findFits_48 (lv_at hl 7 rfl) ?_
          refine lv_iload hx hb dX4_findFits_50 (lv_at hl 8 rfl) ?_
          refine lv_aload_n hx hb dX4_findFits_52 rfl (lv_at hl 1 rfl) ?_
          refine lv_iload_n hx hb dX4_findFits_53 rfl (lv_at hl 2 rfl) ?_
          refine lv_iload_n hx hb dX4_findFits_54 rfl (lv_at hl 3 rfl) ?_
          obtain ⟨w8, ew8, h⟩ := z_bd h
          refine z_goi C0 hw hS (res := (w8, S)) (rest := []) (arr := ([.ref (zad F G (100 + 4 * q4)), .int x8, .ref (zad F G (40 + 2 * s1)), .int x2, .int x3] : List Value).toArray) ?_ (fun H locs hw hS => ?_)
          · exact va_runS (z_fix C0) (c_X4_fitsTold l D Y F G S _ q4 s1 hq4 hs1 x8 x2 x3 w8 ew8) (va_cwS 5 hts gX4_findFits_X4_fitsTold rfl rfl rfl (by decide +kernel) ⟨Nat.le_of_ble_eq_true rfl, Nat.le_of_ble_eq_true rfl⟩) ⟨zPc_blind, z_give C0 hw hS _⟩ rfl rfl hl.1 rfl (lv_room (Nat.le_of_ble_eq_true rfl)) dX4_findFits_55 ⟨Nat.zero_le _, Nat.zero_le _⟩
          refine lv_if_eq (tgt := 85) hx hb dX4_findFits_58 (by decide) (fun c9 => ?_) (fun c9 => ?_)
          · replace h := z_ifp c9 h
            refine lv_iinc (v := (x8 + 1)) (lv' := [(8, .int ((x8 + 1))), (0, .ref (zad F G (60 + 3 * i0))), (1, .ref (zad F G (40 + 2 * s1))), (2, .int x2), (3, .int x3), (4, .ref (F 23)), (5, .int x5), (6, .int x6), (7, .ref (zad F G (100 + 4 * q4)))]) hx hb dX4_findFits_85 hl (k := 8) rfl rfl (by decide) rfl (fun ls hl => ?_)
            refine lv_goto (tgt := 26) hx hb dX4_findFits_88 (by decide) ?_
            exact ih S x2 x3 x5 x6 (some q4) ((x8 + 1)) h _ _ _ hw hS (lv_sub hl [1, 2, 3, 4, 5, 6, 7, 8, 0] rfl)
          · replace h := z_ifn c9 h
            refine lv_iload hx hb dX4_findFits_61 (lv_at hl 5 rfl) ?_
            refine lv_aload hx hb dX4_findFits_63 (lv_at hl 4 rfl) ?_
            refine z_alen C0 hw 23 rfl rfl zri_23 (v := Int32.ofNat 36) rfl dX4_findFits_65 ?_
            refine lv_icmp_ge (tgt := 85) hx hb dX4_findFits_66 (by decide) (fun c10 => ?_) (fun c10 => ?_)
            · replace h := z_ifp c10 h
              refine lv_iinc (v := (x8 + 1)) (lv' := [(8, .int ((x8 + 1))), (0, .ref (zad F G (60 + 3 * i0))), (1, .ref (zad F G (40 + 2 * s1))), (2, .int x2), (3, .int x3), (4, .ref (F 23)), (5, .int x5), (6, .int x6), (7, .ref (zad F G (100 + 4 * q4)))]) hx hb dX4_findFits_85 hl (k := 8) rfl rfl (by decide) rfl (fun ls hl => ?_)
              refine lv_goto (tgt := 26) hx hb dX4_findFits_88 (by decide) ?_
              exact ih S x2 x3 x5 x6 (some q4) ((x8 + 1)) h _ _ _ hw hS (lv_sub hl [1, 2, 3, 4, 5, 6, 7, 8, 0] rfl)
            · replace h := z_ifn c10 h
              refine lv_aload hx hb dX4_findFits_69 (lv_at hl 4 rfl) ?_
              refine lv_iload hx hb dX4_findFits_71 (lv_at hl 5 rfl) ?_
              refine lv_bipush (v := 10) hx hb dX4_findFits_73 (by decide) ?_
              refine lv_iload hx hb dX4_findFits_75 (lv_at hl 6 rfl) ?_
              refine lv_imul hx hb dX4_findFits_77 ?_
              refine lv_iload hx hb dX4_findFits_78 (lv_at hl 8 rfl) ?_
              refine lv_iadd hx hb dX4_findFits_80 ?_
              obtain ⟨b11, h⟩ := z_gd h
              refine z_iasts C0 hw hS 23 rfl rfl zri_23 (zin_in b11) dX4_findFits_81 (fun H locs hw hS => ?_)
              refine lv_iinc (v := (x5 + 1)) (lv' := [(5, .int ((x5 + 1))), (0, .ref (zad F G (60 + 3 * i0))), (1, .ref (zad F G (40 + 2 * s1))), (2, .int x2), (3, .int x3), (4, .ref (F 23)), (6, .int x6), (7, .ref (zad F G (100 + 4 * q4))), (8, .int x8)]) hx hb dX4_findFits_82 hl (k := 5) rfl rfl (by decide) rfl (fun ls hl => ?_)
              refine lv_iinc (v := (x8 + 1)) (lv' := [(8, .int ((x8 + 1))), (5, .int ((x5 + 1))), (0, .ref (zad F G (60 + 3 * i0))), (1, .ref (zad F G (40 + 2 * s1))), (2, .int x2), (3, .int x3), (4, .ref (F 23)), (6, .int x6), (7, .ref (zad F G (100 + 4 * q4)))]) hx hb dX4_findFits_85 hl (k := 8) rfl rfl (by decide) rfl (fun ls hl => ?_)
              refine lv_goto (tgt := 26) hx hb dX4_findFits_88 (by decide) ?_
              exact ih ((zAs S 23 (Int32.toNatClampNeg x5) ((((10 : Int32) * x6) + x8)))) x2 x3 ((x5 + 1)) x6 (some q4) ((x8 + 1)) h _ _ _ hw hS (lv_sub hl [2, 3, 4, 5, 6, 1, 7, 8, 0] rfl)
def M_X4_findFits_B6 (pk : Nat → Nat) (i0 : Nat) (s1 : Nat) : Nat → zSt → Int32 → Int32 → Int32 → Int32 → Option (Int32 × zSt)
  | 0, _, _, _, _, _ => none
  | n + 1, S, x2, x3, x5, x6 =>
  (if (zsc S (60 + 3 * i0) 3) ≤ x6 then some (x5, S) else Option.bind (M_X4_personAt pk S i0 x6) (fun w2 => (zm w2 (M_X4_findFits_B26 pk i0 s1 (fun S_ x2_ x3_ x5_ x6_ => M_X4_findFits_B6 pk i0 s1 n S_ x2_ x3_ x5_ x6_) zF S x2 x3 x5 x6 none 0) (fun q3 => zg (zOKb pk q3) (M_X4_findFits_B26 pk i0 s1 (fun S_ x2_ x3_ x5_ x6_ => M_X4_findFits_B6 pk i0 s1 n S_ x2_ x3_ x5_ x6_) zF S x2 x3 x5 x6 (some q3) 0)))))
set_option maxHeartbeats 4000000 in
set_option maxRecDepth 100000 in
theorem t_X4_findFits_B6 {p : Program} {l : Launch} {e : Env} {s : State} {m : MethodId} {args : Array Value} {below : List Frame} {meth : Method} {c : Code} {D : va_G} {Y : Nat → ClassId} {F : Nat → Nat} {A : Nat → Prop} {G : zG} (C0 : zCx p s m args meth c D Y F A RX4 cX4_findFits 9 (some .int) wsX4_findFits) (i0 : Nat) (s1 : Nat) (hi0 : i0 < 3) (hs1 : s1 < 8) (res : Int32 × zSt) : ∀ (n : Nat), ∀ (S : zSt) (x2 : Int32) (x3 : Int32) (x5 : Int32) (x6 : Int32), M_X4_findFits_B6 (zpk G) i0 s1 n S x2 x3 x5 x6 = some res → ∀ (H : Heap) (locs : List Loc) (ls : Array Slot), zH D Y F A G S H → va_S A s.heap H locs → lv_has ls 9 [(0, .ref (zad F G (60 + 3 * i0))), (1, .ref (zad F G (40 + 2 * s1))), (2, .int x2), (3, .int x3), (4, .ref (F 23)), (5, .int x5), (6, .int x6)] → W p l e (zRm 5 110) s m args below meth c H locs 0 0 (MQ below (zQi D Y F A G res) args s 0 0 A) (F0 m 6 ls []) := by
  obtain ⟨hx, hb, hml, hr, hown, hts, hK, hA, hlk, hN⟩ := id C0
  intro n
  induction n with
  | zero =>
    intro S x2 x3 x5 x6 h
    unfold M_X4_findFits_B6 at h
    cases h
  | succ n ih =>
    intro S x2 x3 x5 x6 h H locs ls hw hS hl
    rw [M_X4_findFits_B6] at h
    refine lv_iload hx hb dX4_findFits_6 (lv_at hl 6 rfl) ?_
    refine lv_aload_n hx hb dX4_findFits_8 rfl (lv_at hl 0 rfl) ?_
    refine z_getU C0 in_X4_findFits_X4 (C := RX4) (T := TX4) (N := 6) hw (k := (60 + 3 * i0)) (ci := 4) (v := .int ((zsc S (60 + 3 * i0) 3))) (zld_E hi0) rfl (zld_B hi0) rfl 3 (by decide) rfl 1 rfl (Or.inl rfl) dX4_findFits_9 ?_
    refine lv_icmp_ge (tgt := 97) hx hb dX4_findFits_12 (by decide) (fun c1 => ?_) (fun c1 => ?_)
    · replace h := z_ifp c1 h
      refine lv_iload hx hb dX4_findFits_97 (lv_at hl 5 rfl) ?_
      exact z_reti C0 hw hS (Option.some.inj h) dX4_findFits_99
    · replace h := z_ifn c1 h
      refine lv_aload_n hx hb dX4_findFits_15 rfl (lv_at hl 0 rfl) ?_
      refine lv_iload hx hb dX4_findFits_16 (lv_at hl 6 rfl) ?_
      obtain ⟨w2, ew2, h⟩ := z_bd h
      refine z_goq C0 hw hS (r0 := w2.map (zpa F G)) (rest := []) (arr := (Value.ref (zad F G (60 + 3 * i0)) :: [.int x6]).toArray) ?_ (fun H locs hw hS => ?_)
      · exact va_runV (z_fix C0) (c_X4_personAt l D Y F G S _ i0 hi0 x6 w2 ew2) (cwV 1 hts gX4_findFits_X4_personAt rfl rfl rfl (by decide +kernel) ⟨Nat.le_of_ble_eq_true rfl, Nat.le_of_ble_eq_true rfl⟩) ⟨zPc_blind, z_rv C0 hw (k := (60 + 3 * i0)) (zld_E hi0) rfl (zld_B hi0) rfl, z_give C0 hw hS _⟩ rfl rfl hl.1 rfl (lv_room (Nat.le_of_ble_eq_true rfl)) dX4_findFits_18 ⟨Nat.zero_le _, Nat.zero_le _⟩
      rcases w2 with _ | q3
      · replace h := zm_n h
        refine z_topv (y := .null) rfl ?_
        refine lv_astoreN (lv' := [(7, .null), (0, .ref (zad F G (60 + 3 * i0))), (1, .ref (zad F G (40 + 2 * s1))), (2, .int x2), (3, .int x3), (4, .ref (F 23)), (5, .int x5), (6, .int x6)]) hx hb dX4_findFits_21 hl (by decide) rfl (fun ls hl => ?_)
        refine lv_iconst (v := 0) hx hb dX4_findFits_23 (by decide) ?_
        refine lv_istore (lv' := [(8, .int 0), (7, .null), (0, .ref (zad F G (60 + 3 * i0))), (1, .ref (zad F G (40 + 2 * s1))), (2, .int x2), (3, .int x3), (4, .ref (F 23)), (5, .int x5), (6, .int x6)]) hx hb dX4_findFits_24 hl (by decide) rfl (fun ls hl => ?_)
        exact t_X4_findFits_B26 C0 i0 s1 hi0 hs1 res (fun S_ x2_ x3_ x5_ x6_ => M_X4_findFits_B6 (zpk G) i0 s1 n S_ x2_ x3_ x5_ x6_) ih zF S x2 x3 x5 x6 none 0 h _ _ _ hw hS (lv_sub hl [2, 3, 4, 5, 6, 7, 8, 1, 0] rfl)
      · replace h := zm_s h
        obtain ⟨bq3, h⟩ := z_gd h
        have hq3 := bq3
        refine z_topv (y := .ref (zad F G (100 + 4 * q3))) rfl ?_
        refine lv_astore (lv' := [(7, .ref (zad F G (100 + 4 * q3))), (0, .ref (zad F G (60 + 3 * i0))), (1, .ref (zad F G (40 + 2 * s1))), (2, .int x2), (3, .int x3), (4, .ref (F 23)), (5, .int x5), (6, .int x6)]) hx hb dX4_findFits_21 hl (by decide) rfl (fun ls hl => ?_)
        refine lv_iconst (v := 0) hx hb dX4_findFits_23 (by decide) ?_
        refine lv_istore (lv' := [(8, .int 0), (7, .ref (zad F G (100 + 4 * q3))), (0, .ref (zad F G (60 + 3 * i0))), (1, .ref (zad F G (40 + 2 * s1))), (2, .int x2), (3, .int x3), (4, .ref (F 23)), (5, .int x5), (6, .int x6)]) hx hb dX4_findFits_24 hl (by decide) rfl (fun ls hl => ?_)
        exact t_X4_findFits_B26 C0 i0 s1 hi0 hs1 res (fun S_ x2_ x3_ x5_ x6_ => M_X4_findFits_B6 (zpk G) i0 s1 n S_ x2_ x3_ x5_ x6_) ih zF S x2 x3 x5 x6 (some q3) 0 h _ _ _ hw hS (lv_sub hl [2, 3, 4, 5, 6, 7, 8, 1, 0] rfl)
def M_X4_findFits (pk : Nat → Nat) (S : zSt) (i0 : Nat) (s1 : Nat) (x2 : Int32) (x3 : Int32) : Option (Int32 × zSt) :=
  M_X4_findFits_B6 pk i0 s1 zF S x2 x3 0 0
set_option maxHeartbeats 4000000 in
set_option maxRecDepth 100000 in
theorem c_X4_findFits (l : Launch) (D : va_G) (Y : Nat → ClassId) (F : Nat → Nat) (G : zG) (S : zSt) (sz : Nat) (i0 : Nat) (s1 : Nat) (hi0 : i0 < 3) (hs1 : s1 < 8) (x2 : Int32) (x3 : Int32) (res : Int32 × zSt) (h : M_X4_findFits (zpk G) S i0 s1 x2 x3 = some res) : Met l yX4_findFits wsX4_findFits (zRm 5 110) (zPc D Y F G S sz [.ref (zad F G (60 + 3 * i0)), .ref (zad F G (40 + 2 * s1)), .int x2, .int x3, .ref (F 23)]) (zQi D Y F (zAo F G sz) G res) 0 0 (zAo F G sz) := by
  unfold M_X4_findFits at h
  refine zMet (cc := cX4_findFits) (maxL := 9) (ret := (some .int)) (own := RX4) (by decide +kernel) rfl rfl (Nat.le_of_ble_eq_true rfl) ?_
  intro p e s m args below meth c C0 hin hw hS ls hl
  have hl : lv_has ls 9 [(0, .ref (zad F G (60 + 3 * i0))), (1, .ref (zad F G (40 + 2 * s1))), (2, .int x2), (3, .int x3), (4, .ref (F 23))] := hl
  generalize zAo F G sz = A at C0 hw hS ⊢
  obtain ⟨hx, hb, hml, hr, hown, hts, hK, hA, hlk, hN⟩ := id C0
  refine lv_iconst (v := 0) hx hb dX4_findFits_0 (by decide) ?_
  refine lv_istore (lv' := [(5, .int 0), (0, .ref (zad F G (60 + 3 * i0))), (1, .ref (zad F G (40 + 2 * s1))), (2, .int x2), (3, .int x3), (4, .ref (F 23))]) hx hb dX4_findFits_1 hl (by decide) rfl (fun ls hl => ?_)
  refine lv_iconst (v := 0) hx hb dX4_findFits_3 (by decide) ?_
  refine lv_istore (lv' := [(6, .int 0), (5, .int 0), (0, .ref (zad F G (60 + 3 * i0))), (1, .ref (zad F G (40 + 2 * s1))), (2, .int x2), (3, .int x3), (4, .ref (F 23))]) hx hb dX4_findFits_4 hl (by decide) rfl (fun ls hl => ?_)
  exact t_X4_findFits_B6 C0 i0 s1 hi0 hs1 res zF S x2 x3 0 0 h _ _ _ hw hS (lv_sub hl [2, 3, 4, 5, 6, 1, 0] rfl)
def M_X4_canBe (pk : Nat → Nat) (S : zSt) (i0 : Nat) (x1 : Int32) : Option (Int32) :=
  (if x1 < 10000 then some 0 else (if x1 < 30006 then (if x1 < 30000 then Option.bind (some (((x1 / 1000) - (x1 / 1000) / 10 * 10))) (fun v4 => (if 6 ≤ v4 then some 0 else zg (zin v4 6) ((if (zar S ((60 + 3 * i0 + 2)) (Int32.toNatClampNeg v4)) < 6 then Option.bind (some (((x1 / 100) - (x1 / 100) / 10 * 10))) (fun v8 => (if 20000 ≤ x1 then Option.bind (M_X11_isCopy pk S v8) (fun w10 => (if w10 = 0 then some 0 else zg (zin v4 6) ((if v8 < (zar S ((60 + 3 * i0 + 2)) (Int32.toNatClampNeg v4)) then some 0 else Option.bind (M_X11_isDeed pk S ((x1 - x1 / 100 * 100))) (fun w14 => (if w14 = 0 then some 0 else some 1)))))) else Option.bind (M_X11_isDeed pk S v8) (fun w16 => (if w16 = 0 then some 0 else (if (x1 - x1 / 100 * 100) < 1 then some 0 else some 1))))) else some 0)))) else zg (zin ((x1 - 30000)) 6) ((if 6 ≤ (zar S ((60 + 3 * i0 + 2)) (Int32.toNatClampNeg ((x1 - 30000)))) then some 0 else some 1))) else some 0))
set_option maxHeartbeats 4000000 in
set_option maxRecDepth 100000 in
theorem c_X4_canBe (l : Launch) (D : va_G) (Y : Nat → ClassId) (F : Nat → Nat) (G : zG) (S : zSt) (sz : Nat) (i0 : Nat) (hi0 : i0 < 3) (x1 : Int32) (res : Int32) (h : M_X4_canBe (zpk G) S i0 x1 = some res) : Met l yX4_canBe wsX4_canBe (zRm 1 20) (zPc D Y F G S sz [.ref (zad F G (60 + 3 * i0)), .int x1]) (zQi D Y F (zAo F G sz) G (res, S)) 0 0 (zAo F G sz) := by
  unfold M_X4_canBe at h
  refine zMet (cc := cX4_canBe) (maxL := 5) (ret := (some .boolean)) (own := RX4) (by decide +kernel) rfl rfl (Nat.le_of_ble_eq_true rfl) ?_
  intro p e s m args below meth c C0 hin hw hS ls hl
  have hl : lv_has ls 5 [(0, .ref (zad F G (60 + 3 * i0))), (1, .int x1)] := hl
  generalize zAo F G sz = A at C0 hw hS ⊢
  obtain ⟨hx, hb, hml, hr, hown, hts, hK, hA, hlk, hN⟩ := id C0
  refine lv_iload_n hx hb dX4_canBe_0 rfl (lv_at hl 1 rfl) ?_
  refine lv_sipush (v := 10000) hx hb dX4_canBe_1 (by decide) ?_
  refine lv_icmp_lt (tgt := 14) hx hb dX4_canBe_4 (by decide) (fun c1 => ?_) (fun c1 => ?_)
  · replace h := z_ifp c1 h
    refine lv_iconst (v := 0) hx hb dX4_canBe_14 (by decide) ?_
    exact z_retz C0 hw hS rfl (congrArg (fun z => (z, S)) (Option.some.inj h)) dX4_canBe_15
  · replace h := z_ifn c1 h
    refine lv_iload_n hx hb dX4_canBe_7 rfl (lv_at hl 1 rfl) ?_
    refine lv_sipush (v := 30006) hx hb dX4_canBe_8 (by decide) ?_
    refine lv_icmp_lt (tgt := 16) hx hb dX4_canBe_11 (by decide) (fun c2 => ?_) (fun c2 => ?_)
    · replace h := z_ifp c2 h
      refine lv_iload_n hx hb dX4_canBe_16 rfl (lv_at hl 1 rfl) ?_
      refine lv_sipush (v := 30000) hx hb dX4_canBe_17 (by decide) ?_
      refine lv_icmp_lt (tgt := 44) hx hb dX4_canBe_20 (by decide) (fun c3 => ?_) (fun c3 => ?_)
      · replace h := z_ifp c3 h
        refine lv_iload_n hx hb dX4_canBe_44 rfl (lv_at hl 1 rfl) ?_
        refine lv_sipush (v := 1000) hx hb dX4_canBe_45 (by decide) ?_
        refine lv_idiv hx hb dX4_canBe_48 (by decide) ?_
        refine lv_bipush (v := 10) hx hb dX4_canBe_49 (by decide) ?_
        refine lv_irem hx hb dX4_canBe_51 (by decide) ?_
        obtain ⟨v4, ev4, h⟩ := z_bd h
        refine z_top (Option.some.inj ev4) ?_
        refine lv_istore_n (lv' := [(2, .int v4), (0, .ref (zad F G (60 + 3 * i0))), (1, .int x1)]) hx hb dX4_canBe_52 rfl hl (by decide) rfl (fun ls hl => ?_)
        refine lv_iload_n hx hb dX4_canBe_53 rfl (lv_at hl 0 rfl) ?_
        refine lv_bipush (v := 6) hx hb dX4_canBe_54 (by decide) ?_
        refine lv_icmp_ge (tgt := 70) hx hb dX4_canBe_56 (by decide) (fun c5 => ?_) (fun c5 => ?_)
        · replace h := z_ifp c5 h
          refine lv_iconst (v := 0) hx hb dX4_canBe_70 (by decide) ?_
          exact z_retz C0 hw hS rfl (congrArg (fun z => (z, S)) (Option.some.inj h)) dX4_canBe_71
        · replace h := z_ifn c5 h
          refine lv_aload_n hx hb dX4_canBe_59 rfl (lv_at hl 1 rfl) ?_
          refine z_getU C0 in_X4_canBe_X4 (C := RX4) (T := TX4) (N := 6) hw (k := (60 + 3 * i0)) (ci := 4) (v := .ref (zad F G (60 + 3 * i0 + 2))) (zld_E hi0) rfl (zld_B hi0) rfl 1 (by decide) rfl 1 rfl (Or.inl rfl) dX4_canBe_60 ?_
          refine lv_iload_n hx hb dX4_canBe_63 rfl (lv_at hl 0 rfl) ?_
          obtain ⟨b6, h⟩ := z_gd h
          refine z_iald C0 hw ((60 + 3 * i0 + 2)) (zld_E2 hi0) rfl (zld_R2 hi0) (zin_in b6) dX4_canBe_64 ?_
          refine lv_bipush (v := 6) hx hb dX4_canBe_65 (by decide) ?_
          refine lv_icmp_lt (tgt := 72) hx hb dX4_canBe_67 (by decide) (fun c7 => ?_) (fun c7 => ?_)
          · replace h := z_ifp c7 h
            refine lv_iload_n hx hb dX4_canBe_72 rfl (lv_at hl 2 rfl) ?_
            refine lv_bipush (v := 100) hx hb dX4_canBe_73 (by decide) ?_
            refine lv_idiv hx hb dX4_canBe_75 (by decide) ?_
            refine lv_bipush (v := 10) hx hb dX4_canBe_76 (by decide) ?_
            refine lv_irem hx hb dX4_canBe_78 (by decide) ?_
            obtain ⟨v8, ev8, h⟩ := z_bd h
            refine z_top (Option.some.inj ev8) ?_
            refine lv_istore_n (lv' := [(3, .int v8), (2, .int v4), (0, .ref (zad F G (60 + 3 * i0))), (1, .int x1)]) hx hb dX4_canBe_79 rfl hl (by decide) rfl (fun ls hl => ?_)
            refine lv_iload_n hx hb dX4_canBe_80 rfl (lv_at hl 3 rfl) ?_
            refine lv_bipush (v := 100) hx hb dX4_canBe_81 (by decide) ?_
            refine lv_irem hx hb dX4_canBe_83 (by decide) ?_
            refine lv_istore (lv' := [(4, .int ((x1 - x1 / 100 * 100))), (3, .int v8), (2, .int v4), (0, .ref (zad F G (60 + 3 * i0))), (1, .int x1)]) hx hb dX4_canBe_84 hl (by decide) rfl (fun ls hl => ?_)
            refine lv_iload_n hx hb dX4_canBe_86 rfl (lv_at hl 4 rfl) ?_
            refine lv_sipush (v := 20000) hx hb dX4_canBe_87 (by decide) ?_
            refine lv_icmp_ge (tgt := 112) hx hb dX4_canBe_90 (by decide) (fun c9 => ?_) (fun c9 => ?_)
            · replace h := z_ifp c9 h
              refine lv_iload_n hx hb dX4_canBe_112 rfl (lv_at hl 1 rfl) ?_
              obtain ⟨w10, ew10, h⟩ := z_bd h
              refine z_goi C0 hw hS (res := (w10, S)) (rest := []) (arr := ([.int v8] : List Value).toArray) ?_ (fun H locs hw hS => ?_)
              · exact va_runSN (z_fix C0) (c_X11_isCopy l D Y F G S _ v8 w10 ew10) ⟨va_cnB 1 hts gX4_canBe_X11_isCopy_n115 rfl rfl rfl (hN.1 _ (List.mem_of_getElem? (i := 2) rfl)) (hts _ (List.mem_of_getElem? (i := 3) rfl)) (by decide +kernel) ⟨Nat.le_of_ble_eq_true rfl, Nat.le_of_ble_eq_true rfl⟩, hts _ (List.mem_of_getElem? (i := 5) rfl), trivial⟩ ⟨zPc_blind, z_give C0 hw hS _⟩ rfl rfl hl.1 rfl (lv_room (Nat.le_of_ble_eq_true rfl)) dX4_canBe_113 ⟨Nat.zero_le _, Nat.zero_le _⟩
              refine lv_if_eq (tgt := 141) hx hb dX4_canBe_116 (by decide) (fun c11 => ?_) (fun c11 => ?_)
              · replace h := z_ifp c11 h
                refine lv_iconst (v := 0) hx hb dX4_canBe_141 (by decide) ?_
                exact z_retz C0 hw hS rfl (congrArg (fun z => (z, S)) (Option.some.inj h)) dX4_canBe_142
              · replace h := z_ifn c11 h
                refine lv_iload_n hx hb dX4_canBe_119 rfl (lv_at hl 1 rfl) ?_
                refine lv_aload_n hx hb dX4_canBe_120 rfl (lv_at hl 3 rfl) ?_
                refine z_getU C0 in_X4_canBe_X4 (C := RX4) (T := TX4) (N := 6) hw (k := (60 + 3 * i0)) (ci := 4) (v := .ref (zad F G (60 + 3 * i0 + 2))) (zld_E hi0) rfl (zld_B hi0) rfl 1 (by decide) rfl 1 rfl (Or.inl rfl) dX4_canBe_121 ?_
                refine lv_iload_n hx hb dX4_canBe_124 rfl (lv_at hl 2 rfl) ?_
                obtain ⟨b12, h⟩ := z_gd h
                refine z_iald C0 hw ((60 + 3 * i0 + 2)) (zld_E2 hi0) rfl (zld_R2 hi0) (zin_in b12) dX4_canBe_125 ?_
                refine lv_icmp_lt (tgt := 141) hx hb dX4_canBe_126 (by decide) (fun c13 => ?_) (fun c13 => ?_)
                · replace h := z_ifp c13 h
                  refine lv_iconst (v := 0) hx hb dX4_canBe_141 (by decide) ?_
                  exact z_retz C0 hw hS rfl (congrArg (fun z => (z, S)) (Option.some.inj h)) dX4_canBe_142
                · replace h := z_ifn c13 h
                  refine lv_iload hx hb dX4_canBe_129 (lv_at hl 0 rfl) ?_
                  obtain ⟨w14, ew14, h⟩ := z_bd h
                  refine z_goi C0 hw hS (res := (w14, S)) (rest := []) (arr := ([.int ((x1 - x1 / 100 * 100))] : List Value).toArray) ?_ (fun H locs hw hS => ?_)
                  · exact va_runSN (z_fix C0) (c_X11_isDeed l D Y F G S _ ((x1 - x1 / 100 * 100)) w14 ew14) ⟨va_cnB 1 hts gX4_canBe_X11_isDeed_n112 rfl rfl rfl (hN.1 _ (List.mem_of_getElem? (i := 3) rfl)) (hts _ (List.mem_of_getElem? (i := 3) rfl)) (by decide +kernel) ⟨Nat.le_of_ble_eq_true rfl, Nat.le_of_ble_eq_true rfl⟩, hts _ (List.mem_of_getElem? (i := 2) rfl), trivial⟩ ⟨zPc_blind, z_give C0 hw hS _⟩ rfl rfl hl.1 rfl (lv_room (Nat.le_of_ble_eq_true rfl)) dX4_canBe_131 ⟨Nat.zero_le _, Nat.zero_le _⟩
                  refine lv_if_eq (tgt := 141) hx hb dX4_canBe_134 (by decide) (fun c15 => ?_) (fun c15 => ?_)
                  · replace h := z_ifp c15 h
                    refine lv_iconst (v := 0) hx hb dX4_canBe_141 (by decide) ?_
                    exact z_retz C0 hw hS rfl (congrArg (fun z => (z, S)) (Option.some.inj h)) dX4_canBe_142
                  · replace h := z_ifn c15 h
                    refine lv_iconst (v := 1) hx hb dX4_canBe_137 (by decide) ?_
                    refine lv_goto (tgt := 142) hx hb dX4_canBe_138 (by decide) ?_
                    exact z_retz C0 hw hS rfl (congrArg (fun z => (z, S)) (Option.some.inj h)) dX4_canBe_142
            · replace h := z_ifn c9 h
              refine lv_iload_n hx hb dX4_canBe_93 rfl (lv_at hl 1 rfl) ?_
              obtain ⟨w16, ew16, h⟩ := z_bd h
              refine z_goi C0 hw hS (res := (w16, S)) (rest := []) (arr := ([.int v8] : List Value).toArray) ?_ (fun H locs hw hS => ?_)
              · exact va_runSN (z_fix C0) (c_X11_isDeed l D Y F G S _ v8 w16 ew16) ⟨va_cnB 1 hts gX4_canBe_X11_isDeed_n112 rfl rfl rfl (hN.1 _ (List.mem_of_getElem? (i := 3) rfl)) (hts _ (List.mem_of_getElem? (i := 3) rfl)) (by decide +kernel) ⟨Nat.le_of_ble_eq_true rfl, Nat.le_of_ble_eq_true rfl⟩, hts _ (List.mem_of_getElem? (i := 2) rfl), trivial⟩ ⟨zPc_blind, z_give C0 hw hS _⟩ rfl rfl hl.1 rfl (lv_room (Nat.le_of_ble_eq_true rfl)) dX4_canBe_94 ⟨Nat.zero_le _, Nat.zero_le _⟩
              refine lv_if_eq (tgt := 110) hx hb dX4_canBe_97 (by decide) (fun c17 => ?_) (fun c17 => ?_)
              · replace h := z_ifp c17 h
                refine lv_iconst (v := 0) hx hb dX4_canBe_110 (by decide) ?_
                exact z_retz C0 hw hS rfl (congrArg (fun z => (z, S)) (Option.some.inj h)) dX4_canBe_111
              · replace h := z_ifn c17 h
                refine lv_iload hx hb dX4_canBe_100 (lv_at hl 0 rfl) ?_
                refine lv_iconst (v := 1) hx hb dX4_canBe_102 (by decide) ?_
                refine lv_icmp_lt (tgt := 110) hx hb dX4_canBe_103 (by decide) (fun c18 => ?_) (fun c18 => ?_)
                · replace h := z_ifp c18 h
                  refine lv_iconst (v := 0) hx hb dX4_canBe_110 (by decide) ?_
                  exact z_retz C0 hw hS rfl (congrArg (fun z => (z, S)) (Option.some.inj h)) dX4_canBe_111
                · replace h := z_ifn c18 h
                  refine lv_iconst (v := 1) hx hb dX4_canBe_106 (by decide) ?_
                  refine lv_goto (tgt := 111) hx hb dX4_canBe_107 (by decide) ?_
                  exact z_retz C0 hw hS rfl (congrArg (fun z => (z, S)) (Option.some.inj h)) dX4_canBe_111
          · replace h := z_ifn c7 h
            refine lv_iconst (v := 0) hx hb dX4_canBe_70 (by decide) ?_
            exact z_retz C0 hw hS rfl (congrArg (fun z => (z, S)) (Option.some.inj h)) dX4_canBe_71
      · replace h := z_ifn c3 h
        refine lv_aload_n hx hb dX4_canBe_23 rfl (lv_at hl 0 rfl) ?_
        refine z_getU C0 in_X4_canBe_X4 (C := RX4) (T := TX4) (N := 6) hw (k := (60 + 3 * i0)) (ci := 4) (v := .ref (zad F G (60 + 3 * i0 + 2))) (zld_E hi0) rfl (zld_B hi0) rfl 1 (by decide) rfl 1 rfl (Or.inl rfl) dX4_canBe_24 ?_
        refine lv_iload_n hx hb dX4_canBe_27 rfl (lv_at hl 1 rfl) ?_
        refine lv_sipush (v := 30000) hx hb dX4_canBe_28 (by decide) ?_
        refine lv_isub hx hb dX4_canBe_31 ?_
        obtain ⟨b19, h⟩ := z_gd h
        refine z_iald C0 hw ((60 + 3 * i0 + 2)) (zld_E2 hi0) rfl (zld_R2 hi0) (zin_in b19) dX4_canBe_32 ?_
        refine lv_bipush (v := 6) hx hb dX4_canBe_33 (by decide) ?_
        refine lv_icmp_ge (tgt := 42) hx hb dX4_canBe_35 (by decide) (fun c20 => ?_) (fun c20 => ?_)
        · replace h := z_ifp c20 h
          refine lv_iconst (v := 0) hx hb dX4_canBe_42 (by decide) ?_
          exact z_retz C0 hw hS rfl (congrArg (fun z => (z, S)) (Option.some.inj h)) dX4_canBe_43
        · replace h := z_ifn c20 h
          refine lv_iconst (v := 1) hx hb dX4_canBe_38 (by decide) ?_
          refine lv_goto (tgt := 43) hx hb dX4_canBe_39 (by decide) ?_
          exact z_retz C0 hw hS rfl (congrArg (fun z => (z, S)) (Option.some.inj h)) dX4_canBe_43
    · replace h := z_ifn c2 h
      refine lv_iconst (v := 0) hx hb dX4_canBe_14 (by decide) ?_
      exact z_retz C0 hw hS rfl (congrArg (fun z => (z, S)) (Option.some.inj h)) dX4_canBe_15
