set_option maxRecDepth 20000 in
theorem in_X7_elementAt_X7 : ∀ w ∈ u_ws RX7 TX7 3, w ∈ wsX7_elementAt := by decide +kernel
set_option maxRecDepth 20000 in
theorem in_X7_hasElement_X7 : ∀ w ∈ u_ws RX7 TX7 3, w ∈ wsX7_hasElement := by decide +kernel
set_option maxRecDepth 20000 in
theorem in_X7_hasPart_X7 : ∀ w ∈ u_ws RX7 TX7 3, w ∈ wsX7_hasPart := by decide +kernel
set_option maxRecDepth 20000 in
theorem in_X7_hasPerson_X7 : ∀ w ∈ u_ws RX7 TX7 3, w ∈ wsX7_hasPerson := by decide +kernel
set_option maxRecDepth 20000 in
theorem in_X7_hasRow_X7 : ∀ w ∈ u_ws RX7 TX7 3, w ∈ wsX7_hasRow := by decide +kernel
set_option maxRecDepth 20000 in
theorem in_X7_put_X7 : ∀ w ∈ u_ws RX7 TX7 3, w ∈ wsX7_put := by decide +kernel
set_option maxRecDepth 20000 in
theorem in_X7_takeRow_X7 : ∀ w ∈ u_ws RX7 TX7 3, w ∈ wsX7_takeRow := by decide +kernel
set_option maxRecDepth 20000 in
theorem in_X9_began_X9 : ∀ w ∈ u_ws RX9 TX9 2, w ∈ wsX9_began := by decide +kernel
set_option maxRecDepth 20000 in
theorem in_X9_bodyAt_X9 : ∀ w ∈ u_ws RX9 TX9 2, w ∈ wsX9_bodyAt := by decide +kernel
set_option maxRecDepth 20000 in
theorem in_X9_clear_X9 : ∀ w ∈ u_ws RX9 TX9 2, w ∈ wsX9_clear := by decide +kernel
set_option maxRecDepth 20000 in
theorem inP_X10_goes : ∀ w ∈ wsPers, w ∈ wsX10_goes := by decide +kernel
set_option maxRecDepth 20000 in
theorem inP_X1_goes : ∀ w ∈ wsPers, w ∈ wsX1_goes := by decide +kernel
set_option maxRecDepth 20000 in
theorem inP_X1_lives : ∀ w ∈ wsPers, w ∈ wsX1_lives := by decide +kernel
set_option maxRecDepth 20000 in
theorem inP_X2_goes : ∀ w ∈ wsPers, w ∈ wsX2_goes := by decide +kernel
set_option maxRecDepth 20000 in
theorem inP_X3_lives : ∀ w ∈ wsPers, w ∈ wsX3_lives := by decide +kernel
set_option maxRecDepth 20000 in
theorem inP_X5_begin : ∀ w ∈ wsPers, w ∈ wsX5_begin := by decide +kernel
set_option maxRecDepth 20000 in
theorem inP_X5_goes : ∀ w ∈ wsPers, w ∈ wsX5_goes := by decide +kernel
set_option maxRecDepth 20000 in
theorem inP_X5_isGone : ∀ w ∈ wsPers, w ∈ wsX5_isGone := by decide +kernel
set_option maxRecDepth 20000 in
theorem inP_X5_isLeft : ∀ w ∈ wsPers, w ∈ wsX5_isLeft := by decide +kernel
set_option maxRecDepth 20000 in
theorem inP_X5_lives : ∀ w ∈ wsPers, w ∈ wsX5_lives := by decide +kernel
set_option maxRecDepth 20000 in
theorem inP_X5_looks : ∀ w ∈ wsPers, w ∈ wsX5_looks := by decide +kernel
set_option maxRecDepth 20000 in
theorem inP_X5_lossAt : ∀ w ∈ wsPers, w ∈ wsX5_lossAt := by decide +kernel
set_option maxRecDepth 20000 in
theorem inP_X5_strengthOf : ∀ w ∈ wsPers, w ∈ wsX5_strengthOf := by decide +kernel
set_option maxRecDepth 20000 in
theorem inP_X5_takeFrom : ∀ w ∈ wsPers, w ∈ wsX5_takeFrom := by decide +kernel
set_option maxRecDepth 20000 in
theorem inP_X8_lives : ∀ w ∈ wsPers, w ∈ wsX8_lives := by decide +kernel
def M_X7_hasRow (pk : Nat → Nat) (S : zSt) (s0 : Nat) : Option (Int32) :=
  (if (zsc S (40 + 2 * s0) 1) < 100 then some 0 else some 1)
set_option maxHeartbeats 4000000 in
set_option maxRecDepth 100000 in
theorem c_X7_hasRow (l : Launch) (D : va_G) (Y : Nat → ClassId) (F : Nat → Nat) (G : zG) (S : zSt) (sz : Nat) (s0 : Nat) (hs0 : s0 < 8) (res : Int32) (h : M_X7_hasRow (zpk G) S s0 = some res) : Met l yX7_hasRow wsX7_hasRow (zRm 0 0) (zPc D Y F G S sz [.ref (zad F G (40 + 2 * s0))]) (zQi D Y F (zAo F G sz) G (res, S)) 0 0 (zAo F G sz) := by
  unfold M_X7_hasRow at h
  refine zMet (cc := cX7_hasRow) (maxL := 1) (ret := (some .boolean)) (own := RX7) (by decide +kernel) rfl rfl (Nat.le_of_ble_eq_true rfl) ?_
  intro p e s m args below meth c C0 hin hw hS ls hl
  have hl : lv_has ls 1 [(0, .ref (zad F G (40 + 2 * s0)))] := hl
  generalize zAo F G sz = A at C0 hw hS ⊢
  obtain ⟨hx, hb, hml, hr, hown, hts, hK, hA, hlk, hN⟩ := id C0
  refine lv_aload_n hx hb dX7_hasRow_0 rfl (lv_at hl 0 rfl) ?_
  refine z_getU C0 in_X7_hasRow_X7 (C := RX7) (T := TX7) (N := 3) hw (k := (40 + 2 * s0)) (ci := 7) (v := .int ((zsc S (40 + 2 * s0) 1))) (zsh_E hs0) rfl (zsh_B hs0) rfl 1 (by decide) rfl 1 rfl (Or.inl rfl) dX7_hasRow_1 ?_
  refine lv_bipush (v := 100) hx hb dX7_hasRow_4 (by decide) ?_
  refine lv_icmp_lt (tgt := 13) hx hb dX7_hasRow_6 (by decide) (fun c1 => ?_) (fun c1 => ?_)
  · replace h := z_ifp c1 h
    refine lv_iconst (v := 0) hx hb dX7_hasRow_13 (by decide) ?_
    exact z_retz C0 hw hS rfl (congrArg (fun z => (z, S)) (Option.some.inj h)) dX7_hasRow_14
  · replace h := z_ifn c1 h
    refine lv_iconst (v := 1) hx hb dX7_hasRow_9 (by decide) ?_
    refine lv_goto (tgt := 14) hx hb dX7_hasRow_10 (by decide) ?_
    exact z_retz C0 hw hS rfl (congrArg (fun z => (z, S)) (Option.some.inj h)) dX7_hasRow_14
def M_X7_hasPerson (pk : Nat → Nat) (S : zSt) (s0 : Nat) : Option (Int32) :=
  (if (zsc S (40 + 2 * s0) 1) < 0 then some 0 else (if 100 ≤ (zsc S (40 + 2 * s0) 1) then some 0 else some 1))
set_option maxHeartbeats 4000000 in
set_option maxRecDepth 100000 in
theorem c_X7_hasPerson (l : Launch) (D : va_G) (Y : Nat → ClassId) (F : Nat → Nat) (G : zG) (S : zSt) (sz : Nat) (s0 : Nat) (hs0 : s0 < 8) (res : Int32) (h : M_X7_hasPerson (zpk G) S s0 = some res) : Met l yX7_hasPerson wsX7_hasPerson (zRm 0 0) (zPc D Y F G S sz [.ref (zad F G (40 + 2 * s0))]) (zQi D Y F (zAo F G sz) G (res, S)) 0 0 (zAo F G sz) := by
  unfold M_X7_hasPerson at h
  refine zMet (cc := cX7_hasPerson) (maxL := 1) (ret := (some .boolean)) (own := RX7) (by decide +kernel) rfl rfl (Nat.le_of_ble_eq_true rfl) ?_
  intro p e s m args below meth c C0 hin hw hS ls hl
  have hl : lv_has ls 1 [(0, .ref (zad F G (40 + 2 * s0)))] := hl
  generalize zAo F G sz = A at C0 hw hS ⊢
  obtain ⟨hx, hb, hml, hr, hown, hts, hK, hA, hlk, hN⟩ := id C0
  refine lv_aload_n hx hb dX7_hasPerson_0 rfl (lv_at hl 0 rfl) ?_
  refine z_getU C0 in_X7_hasPerson_X7 (C := RX7) (T := TX7) (N := 3) hw (k := (40 + 2 * s0)) (ci := 7) (v := .int ((zsc S (40 + 2 * s0) 1))) (zsh_E hs0) rfl (zsh_B hs0) rfl 1 (by decide) rfl 1 rfl (Or.inl rfl) dX7_hasPerson_1 ?_
  refine lv_if_lt (tgt := 20) hx hb dX7_hasPerson_4 (by decide) (fun c1 => ?_) (fun c1 => ?_)
  · replace h := z_ifp c1 h
    refine lv_iconst (v := 0) hx hb dX7_hasPerson_20 (by decide) ?_
    exact z_retz C0 hw hS rfl (congrArg (fun z => (z, S)) (Option.some.inj h)) dX7_hasPerson_21
  · replace h := z_ifn c1 h
    refine lv_aload_n hx hb dX7_hasPerson_7 rfl (lv_at hl 0 rfl) ?_
    refine z_getU C0 in_X7_hasPerson_X7 (C := RX7) (T := TX7) (N := 3) hw (k := (40 + 2 * s0)) (ci := 7) (v := .int ((zsc S (40 + 2 * s0) 1))) (zsh_E hs0) rfl (zsh_B hs0) rfl 1 (by decide) rfl 1 rfl (Or.inl rfl) dX7_hasPerson_8 ?_
    refine lv_bipush (v := 100) hx hb dX7_hasPerson_11 (by decide) ?_
    refine lv_icmp_ge (tgt := 20) hx hb dX7_hasPerson_13 (by decide) (fun c2 => ?_) (fun c2 => ?_)
    · replace h := z_ifp c2 h
      refine lv_iconst (v := 0) hx hb dX7_hasPerson_20 (by decide) ?_
      exact z_retz C0 hw hS rfl (congrArg (fun z => (z, S)) (Option.some.inj h)) dX7_hasPerson_21
    · replace h := z_ifn c2 h
      refine lv_iconst (v := 1) hx hb dX7_hasPerson_16 (by decide) ?_
      refine lv_goto (tgt := 21) hx hb dX7_hasPerson_17 (by decide) ?_
      exact z_retz C0 hw hS rfl (congrArg (fun z => (z, S)) (Option.some.inj h)) dX7_hasPerson_21
def M_X7_hasElement (pk : Nat → Nat) (S : zSt) (s0 : Nat) (x1 : Int32) : Option (Int32) :=
  Option.bind (M_X7_hasRow pk S s0) (fun w1 => (if w1 = 0 then some 0 else (if x1 < 0 then some 0 else (if (zsc S (40 + 2 * s0) 2) ≤ x1 then some 0 else some 1))))
set_option maxHeartbeats 4000000 in
set_option maxRecDepth 100000 in
theorem c_X7_hasElement (l : Launch) (D : va_G) (Y : Nat → ClassId) (F : Nat → Nat) (G : zG) (S : zSt) (sz : Nat) (s0 : Nat) (hs0 : s0 < 8) (x1 : Int32) (res : Int32) (h : M_X7_hasElement (zpk G) S s0 x1 = some res) : Met l yX7_hasElement wsX7_hasElement (zRm 1 20) (zPc D Y F G S sz [.ref (zad F G (40 + 2 * s0)), .int x1]) (zQi D Y F (zAo F G sz) G (res, S)) 0 0 (zAo F G sz) := by
  unfold M_X7_hasElement at h
  refine zMet (cc := cX7_hasElement) (maxL := 2) (ret := (some .boolean)) (own := RX7) (by decide +kernel) rfl rfl (Nat.le_of_ble_eq_true rfl) ?_
  intro p e s m args below meth c C0 hin hw hS ls hl
  have hl : lv_has ls 2 [(0, .ref (zad F G (40 + 2 * s0))), (1, .int x1)] := hl
  generalize zAo F G sz = A at C0 hw hS ⊢
  obtain ⟨hx, hb, hml, hr, hown, hts, hK, hA, hlk, hN⟩ := id C0
  refine lv_aload_n hx hb dX7_hasElement_0 rfl (lv_at hl 0 rfl) ?_
  obtain ⟨w1, ew1, h⟩ := z_bd h
  refine z_goi C0 hw hS (res := (w1, S)) (rest := []) (arr := (Value.ref (zad F G (40 + 2 * s0)) :: []).toArray) ?_ (fun H locs hw hS => ?_)
  · exact va_runV (z_fix C0) (c_X7_hasRow l D Y F G S _ s0 hs0 w1 ew1) (cwV 0 hts gX7_hasElement_X7_hasRow rfl rfl rfl (by decide +kernel) ⟨Nat.le_of_ble_eq_true rfl, Nat.le_of_ble_eq_true rfl⟩) ⟨zPc_blind, z_rv C0 hw (k := (40 + 2 * s0)) (zsh_E hs0) rfl (zsh_B hs0) rfl, z_give C0 hw hS _⟩ rfl rfl hl.1 rfl (lv_room (Nat.le_of_ble_eq_true rfl)) dX7_hasElement_1 ⟨Nat.zero_le _, Nat.zero_le _⟩
  refine lv_if_eq (tgt := 23) hx hb dX7_hasElement_4 (by decide) (fun c2 => ?_) (fun c2 => ?_)
  · replace h := z_ifp c2 h
    refine lv_iconst (v := 0) hx hb dX7_hasElement_23 (by decide) ?_
    exact z_retz C0 hw hS rfl (congrArg (fun z => (z, S)) (Option.some.inj h)) dX7_hasElement_24
  · replace h := z_ifn c2 h
    refine lv_iload_n hx hb dX7_hasElement_7 rfl (lv_at hl 1 rfl) ?_
    refine lv_if_lt (tgt := 23) hx hb dX7_hasElement_8 (by decide) (fun c3 => ?_) (fun c3 => ?_)
    · replace h := z_ifp c3 h
      refine lv_iconst (v := 0) hx hb dX7_hasElement_23 (by decide) ?_
      exact z_retz C0 hw hS rfl (congrArg (fun z => (z, S)) (Option.some.inj h)) dX7_hasElement_24
    · replace h := z_ifn c3 h
      refine lv_iload_n hx hb dX7_hasElement_11 rfl (lv_at hl 1 rfl) ?_
      refine lv_aload_n hx hb dX7_hasElement_12 rfl (lv_at hl 0 rfl) ?_
      refine z_getU C0 in_X7_hasElement_X7 (C := RX7) (T := TX7) (N := 3) hw (k := (40 + 2 * s0)) (ci := 7) (v := .int ((zsc S (40 + 2 * s0) 2))) (zsh_E hs0) rfl (zsh_B hs0) rfl 2 (by decide) rfl 1 rfl (Or.inl rfl) dX7_hasElement_13 ?_
      refine lv_icmp_ge (tgt := 23) hx hb dX7_hasElement_16 (by decide) (fun c4 => ?_) (fun c4 => ?_)
      · replace h := z_ifp c4 h
        refine lv_iconst (v := 0) hx hb dX7_hasElement_23 (by decide) ?_
        exact z_retz C0 hw hS rfl (congrArg (fun z => (z, S)) (Option.some.inj h)) dX7_hasElement_24
      · replace h := z_ifn c4 h
        refine lv_iconst (v := 1) hx hb dX7_hasElement_19 (by decide) ?_
        refine lv_goto (tgt := 24) hx hb dX7_hasElement_20 (by decide) ?_
        exact z_retz C0 hw hS rfl (congrArg (fun z => (z, S)) (Option.some.inj h)) dX7_hasElement_24
def M_X7_hasPart (pk : Nat → Nat) (S : zSt) (s0 : Nat) (x1 : Int32) (x2 : Int32) : Option (Int32) :=
  Option.bind (M_X7_hasRow pk S s0) (fun w1 => (if w1 = 0 then some 0 else (if x1 < 0 then some 0 else (if x2 < 0 then some 0 else (if 0 < (lg_cmp (((Int32.toInt64 x1) + (Int32.toInt64 x2))) ((Int32.toInt64 ((zsc S (40 + 2 * s0) 2))))) then some 0 else some 1)))))
set_option maxHeartbeats 4000000 in
set_option maxRecDepth 100000 in
theorem c_X7_hasPart (l : Launch) (D : va_G) (Y : Nat → ClassId) (F : Nat → Nat) (G : zG) (S : zSt) (sz : Nat) (s0 : Nat) (hs0 : s0 < 8) (x1 : Int32) (x2 : Int32) (res : Int32) (h : M_X7_hasPart (zpk G) S s0 x1 x2 = some res) : Met l yX7_hasPart wsX7_hasPart (zRm 1 20) (zPc D Y F G S sz [.ref (zad F G (40 + 2 * s0)), .int x1, .int x2]) (zQi D Y F (zAo F G sz) G (res, S)) 0 0 (zAo F G sz) := by
  unfold M_X7_hasPart at h
  refine zMet (cc := cX7_hasPart) (maxL := 3) (ret := (some .boolean)) (own := RX7) (by decide +kernel) rfl rfl (Nat.le_of_ble_eq_true rfl) ?_
  intro p e s m args below meth c C0 hin hw hS ls hl
  have hl : lv_has ls 3 [(0, .ref (zad F G (40 + 2 * s0))), (1, .int x1), (2, .int x2)] := hl
  generalize zAo F G sz = A at C0 hw hS ⊢
  obtain ⟨hx, hb, hml, hr, hown, hts, hK, hA, hlk, hN⟩ := id C0
  refine lv_aload_n hx hb dX7_hasPart_0 rfl (lv_at hl 0 rfl) ?_
  obtain ⟨w1, ew1, h⟩ := z_bd h
  refine z_goi C0 hw hS (res := (w1, S)) (rest := []) (arr := (Value.ref (zad F G (40 + 2 * s0)) :: []).toArray) ?_ (fun H locs hw hS => ?_)
  · exact va_runV (z_fix C0) (c_X7_hasRow l D Y F G S _ s0 hs0 w1 ew1) (cwV 0 hts gX7_hasPart_X7_hasRow rfl rfl rfl (by decide +kernel) ⟨Nat.le_of_ble_eq_true rfl, Nat.le_of_ble_eq_true rfl⟩) ⟨zPc_blind, z_rv C0 hw (k := (40 + 2 * s0)) (zsh_E hs0) rfl (zsh_B hs0) rfl, z_give C0 hw hS _⟩ rfl rfl hl.1 rfl (lv_room (Nat.le_of_ble_eq_true rfl)) dX7_hasPart_1 ⟨Nat.zero_le _, Nat.zero_le _⟩
  refine lv_if_eq (tgt := 33) hx hb dX7_hasPart_4 (by decide) (fun c2 => ?_) (fun c2 => ?_)
  · replace h := z_ifp c2 h
    refine lv_iconst (v := 0) hx hb dX7_hasPart_33 (by decide) ?_
    exact z_retz C0 hw hS rfl (congrArg (fun z => (z, S)) (Option.some.inj h)) dX7_hasPart_34
  · replace h := z_ifn c2 h
    refine lv_iload_n hx hb dX7_hasPart_7 rfl (lv_at hl 1 rfl) ?_
    refine lv_if_lt (tgt := 33) hx hb dX7_hasPart_8 (by decide) (fun c3 => ?_) (fun c3 => ?_)
    · replace h := z_ifp c3 h
      refine lv_iconst (v := 0) hx hb dX7_hasPart_33 (by decide) ?_
      exact z_retz C0 hw hS rfl (congrArg (fun z => (z, S)) (Option.some.inj h)) dX7_hasPart_34
    · replace h := z_ifn c3 h
      refine lv_iload_n hx hb dX7_hasPart_11 rfl (lv_at hl 2 rfl) ?_
      refine lv_if_lt (tgt := 33) hx hb dX7_hasPart_12 (by decide) (fun c4 => ?_) (fun c4 => ?_)
      · replace h := z_ifp c4 h
        refine lv_iconst (v := 0) hx hb dX7_hasPart_33 (by decide) ?_
        exact z_retz C0 hw hS rfl (congrArg (fun z => (z, S)) (Option.some.inj h)) dX7_hasPart_34
      · replace h := z_ifn c4 h
        refine lv_iload_n hx hb dX7_hasPart_15 rfl (lv_at hl 1 rfl) ?_
        refine lv_i2l (v := (Int32.toInt64 x1)) hx hb dX7_hasPart_16 rfl ?_
        refine lv_iload_n hx hb dX7_hasPart_17 rfl (lv_at hl 2 rfl) ?_
        refine lv_i2l (v := (Int32.toInt64 x2)) hx hb dX7_hasPart_18 rfl ?_
        refine lv_ladd hx hb dX7_hasPart_19 ?_
        refine lv_aload_n hx hb dX7_hasPart_20 rfl (lv_at hl 0 rfl) ?_
        refine z_getU C0 in_X7_hasPart_X7 (C := RX7) (T := TX7) (N := 3) hw (k := (40 + 2 * s0)) (ci := 7) (v := .int ((zsc S (40 + 2 * s0) 2))) (zsh_E hs0) rfl (zsh_B hs0) rfl 2 (by decide) rfl 1 rfl (Or.inl rfl) dX7_hasPart_21 ?_
        refine lv_i2l (v := (Int32.toInt64 ((zsc S (40 + 2 * s0) 2)))) hx hb dX7_hasPart_24 rfl ?_
        refine W.lcmp hx hb dX7_hasPart_25 ?_
        refine lv_if_gt (tgt := 33) hx hb dX7_hasPart_26 (by decide) (fun c5 => ?_) (fun c5 => ?_)
        · replace h := z_ifp c5 h
          refine lv_iconst (v := 0) hx hb dX7_hasPart_33 (by decide) ?_
          exact z_retz C0 hw hS rfl (congrArg (fun z => (z, S)) (Option.some.inj h)) dX7_hasPart_34
        · replace h := z_ifn c5 h
          refine lv_iconst (v := 1) hx hb dX7_hasPart_29 (by decide) ?_
          refine lv_goto (tgt := 34) hx hb dX7_hasPart_30 (by decide) ?_
          exact z_retz C0 hw hS rfl (congrArg (fun z => (z, S)) (Option.some.inj h)) dX7_hasPart_34
def M_J7_fill_d0a16_B6 (k0 : Nat) (n0 : Nat) : Nat → zSt → Int64 → Int32 → Int32 → Option (zSt)
  | 0, _, _, _, _ => none
  | n + 1, S, x1, x3, x4 =>
  (if x4 ≤ x3 then some S else zg (zin x3 n0) (M_J7_fill_d0a16_B6 k0 n0 n ((zLs S k0 (Int32.toNatClampNeg x3) x1)) x1 ((x3 + 1)) x4))
set_option maxHeartbeats 4000000 in
set_option maxRecDepth 100000 in
theorem t_J7_fill_d0a16_B6 {p : Program} {l : Launch} {e : Env} {s : State} {m : MethodId} {args : Array Value} {below : List Frame} {meth : Method} {c : Code} {D : va_G} {Y : Nat → ClassId} {F : Nat → Nat} {A : Nat → Prop} {G : zG} (C0 : zCx p s m args meth c D Y F A RJ7 cJ7_fill_d0a16 5 none wsJ7_fill_d0a16) (k0 : Nat) (n0 : Nat) (hE0 : zE G k0 = true) (hR0 : zRl k0 n0) (res : zSt) : ∀ (n : Nat), ∀ (S : zSt) (x1 : Int64) (x3 : Int32) (x4 : Int32), M_J7_fill_d0a16_B6 k0 n0 n S x1 x3 x4 = some res → ∀ (H : Heap) (locs : List Loc) (ls : Array Slot), zH D Y F A G S H → va_S A s.heap H locs → lv_has ls 5 [(0, .ref (zad F G k0)), (1, .long x1), (3, .int x3), (4, .int x4)] → W p l e (zRm 0 0) s m args below meth c H locs 0 0 (MQ below (zQv D Y F A G res) args s 0 0 A) (F0 m 6 ls []) := by
  obtain ⟨hx, hb, hml, hr, hown, hts, hK, hA, hlk, hN⟩ := id C0
  intro n
  induction n with
  | zero =>
    intro S x1 x3 x4 h
    unfold M_J7_fill_d0a16_B6 at h
    cases h
  | succ n ih =>
    intro S x1 x3 x4 h H locs ls hw hS hl
    rw [M_J7_fill_d0a16_B6] at h
    refine lv_iload_n hx hb dJ7_fill_d0a16_6 rfl (lv_at hl 2 rfl) ?_
    refine lv_iload hx hb dJ7_fill_d0a16_7 (lv_at hl 3 rfl) ?_
    refine lv_icmp_ge (tgt := 22) hx hb dJ7_fill_d0a16_9 (by decide) (fun c1 => ?_) (fun c1 => ?_)
    · replace h := z_ifp c1 h
      exact z_retv C0 hw hS (Option.some.inj h) dJ7_fill_d0a16_22
    · replace h := z_ifn c1 h
      refine lv_aload_n hx hb dJ7_fill_d0a16_12 rfl (lv_at hl 0 rfl) ?_
      refine lv_iload_n hx hb dJ7_fill_d0a16_13 rfl (lv_at hl 2 rfl) ?_
      refine lv_lload_n hx hb dJ7_fill_d0a16_14 rfl (lv_at hl 1 rfl) ?_
      obtain ⟨b2, h⟩ := z_gd h
      refine z_lasts C0 hw hS k0 hE0 rfl hR0 (zin_in b2) dJ7_fill_d0a16_15 (fun H locs hw hS => ?_)
      refine lv_iinc (v := (x3 + 1)) (lv' := [(3, .int ((x3 + 1))), (0, .ref (zad F G k0)), (1, .long x1), (4, .int x4)]) hx hb dJ7_fill_d0a16_16 hl (k := 2) rfl rfl (by decide) rfl (fun ls hl => ?_)
      refine lv_goto (tgt := 6) hx hb dJ7_fill_d0a16_19 (by decide) ?_
      exact ih ((zLs S k0 (Int32.toNatClampNeg x3) x1)) x1 ((x3 + 1)) x4 h _ _ _ hw hS (lv_sub hl [1, 2, 0, 3] rfl)
def M_J7_fill_d0a16 (S : zSt) (k0 : Nat) (n0 : Nat) (x1 : Int64) : Option (zSt) :=
  M_J7_fill_d0a16_B6 k0 n0 zF S x1 0 ((Int32.ofNat n0))
set_option maxHeartbeats 4000000 in
set_option maxRecDepth 100000 in
theorem c_J7_fill_d0a16 (l : Launch) (D : va_G) (Y : Nat → ClassId) (F : Nat → Nat) (G : zG) (S : zSt) (sz : Nat) (k0 : Nat) (n0 : Nat) (hE0 : zE G k0 = true) (hR0 : zRl k0 n0) (x1 : Int64) (res : zSt) (h : M_J7_fill_d0a16 S k0 n0 x1 = some res) : Met l yJ7_fill_d0a16 wsJ7_fill_d0a16 (zRm 0 0) (zPc D Y F G S sz [.ref (zad F G k0), .long x1]) (zQv D Y F (zAo F G sz) G res) 0 0 (zAo F G sz) := by
  unfold M_J7_fill_d0a16 at h
  refine zMet (cc := cJ7_fill_d0a16) (maxL := 5) (ret := none) (own := RJ7) (by decide +kernel) rfl rfl (Nat.le_of_ble_eq_true rfl) ?_
  intro p e s m args below meth c C0 hin hw hS ls hl
  have hl : lv_has ls 5 [(0, .ref (zad F G k0)), (1, .long x1)] := hl
  generalize zAo F G sz = A at C0 hw hS ⊢
  obtain ⟨hx, hb, hml, hr, hown, hts, hK, hA, hlk, hN⟩ := id C0
  refine lv_iconst (v := 0) hx hb dJ7_fill_d0a16_0 (by decide) ?_
  refine lv_istore_n (lv' := [(3, .int 0), (0, .ref (zad F G k0)), (1, .long x1)]) hx hb dJ7_fill_d0a16_1 rfl hl (by decide) rfl (fun ls hl => ?_)
  refine lv_aload_n hx hb dJ7_fill_d0a16_2 rfl (lv_at hl 1 rfl) ?_
  refine z_alenl C0 hw k0 hE0 rfl hR0 (v := Int32.ofNat n0) rfl dJ7_fill_d0a16_3 ?_
  refine lv_istore (lv' := [(4, .int ((Int32.ofNat n0))), (3, .int 0), (0, .ref (zad F G k0)), (1, .long x1)]) hx hb dJ7_fill_d0a16_4 hl (by decide) rfl (fun ls hl => ?_)
  exact t_J7_fill_d0a16_B6 C0 k0 n0 hE0 hR0 res zF S x1 0 ((Int32.ofNat n0)) h _ _ _ hw hS (lv_sub hl [2, 3, 1, 0] rfl)
def M_X7_takeRow (pk : Nat → Nat) (S : zSt) (s0 : Nat) (x1 : Int32) (x2 : Int32) : Option (zSt) :=
  Option.bind (M_J7_fill_d0a16 ((zP ((zP S ((40 + 2 * s0)) 1 (((100 : Int32) + x1)))) ((40 + 2 * s0)) 2 ((if (160 : Int32) < x2 then (160 : Int32) else x2)))) ((40 + 2 * s0 + 1)) 160 ((0 : Int64))) (fun w1 => some w1)
set_option maxHeartbeats 4000000 in
set_option maxRecDepth 100000 in
theorem c_X7_takeRow (l : Launch) (D : va_G) (Y : Nat → ClassId) (F : Nat → Nat) (G : zG) (S : zSt) (sz : Nat) (s0 : Nat) (hs0 : s0 < 8) (x1 : Int32) (x2 : Int32) (res : zSt) (h : M_X7_takeRow (zpk G) S s0 x1 x2 = some res) : Met l yX7_takeRow wsX7_takeRow (zRm 1 24) (zPc D Y F G S sz [.ref (zad F G (40 + 2 * s0)), .int x1, .int x2]) (zQv D Y F (zAo F G sz) G res) 0 0 (zAo F G sz) := by
  unfold M_X7_takeRow at h
  refine zMet (cc := cX7_takeRow) (maxL := 3) (ret := none) (own := RX7) (by decide +kernel) rfl rfl (Nat.le_of_ble_eq_true rfl) ?_
  intro p e s m args below meth c C0 hin hw hS ls hl
  have hl : lv_has ls 3 [(0, .ref (zad F G (40 + 2 * s0))), (1, .int x1), (2, .int x2)] := hl
  generalize zAo F G sz = A at C0 hw hS ⊢
  obtain ⟨hx, hb, hml, hr, hown, hts, hK, hA, hlk, hN⟩ := id C0
  refine lv_aload_n hx hb dX7_takeRow_0 rfl (lv_at hl 0 rfl) ?_
  refine lv_bipush (v := 100) hx hb dX7_takeRow_1 (by decide) ?_
  refine lv_iload_n hx hb dX7_takeRow_3 rfl (lv_at hl 1 rfl) ?_
  refine lv_iadd hx hb dX7_takeRow_4 ?_
  refine z_putU C0 in_X7_takeRow_X7 tyX7 tyX7_ok nmX7 (C := RX7) (T := TX7) (N := 3) hw hS (k := (40 + 2 * s0)) (ci := 7) (v := ((100 : Int32) + x1)) (zsh_E hs0) rfl (zsh_B hs0) rfl 1 (by decide) 1 rfl rfl rfl rfl (Nat.le_of_ble_eq_true rfl) (zsh_P hs0 (by decide)) dX7_takeRow_5 (fun H locs hw hS => ?_)
  refine lv_aload_n hx hb dX7_takeRow_8 rfl (lv_at hl 0 rfl) ?_
  refine lv_iload_n hx hb dX7_takeRow_9 rfl (lv_at hl 2 rfl) ?_
  refine lv_sipush (v := 160) hx hb dX7_takeRow_10 (by decide) ?_
  refine va_mmin hx hb (hml.trans hl.1.symm) hown (hts _ (List.mem_of_getElem? (i := 2) rfl)) (hts _ (List.mem_of_getElem? (i := 3) rfl)) (hts _ (List.mem_of_getElem? (i := 4) rfl)) (hts _ (List.mem_of_getElem? (i := 5) rfl)) (Nat.le_of_ble_eq_true rfl) (Nat.le_of_ble_eq_true rfl) (Nat.zero_le _) (Nat.zero_le _) dX7_takeRow_13 ?_
  refine z_putU C0 in_X7_takeRow_X7 tyX7 tyX7_ok nmX7 (C := RX7) (T := TX7) (N := 3) hw hS (k := (40 + 2 * s0)) (ci := 7) (v := (if (160 : Int32) < x2 then (160 : Int32) else x2)) (zsh_E hs0) rfl (zsh_B hs0) rfl 2 (by decide) 6 rfl rfl rfl rfl (Nat.le_of_ble_eq_true rfl) (zsh_P hs0 (by decide)) dX7_takeRow_16 (fun H locs hw hS => ?_)
  refine lv_aload_n hx hb dX7_takeRow_19 rfl (lv_at hl 0 rfl) ?_
  refine z_getU C0 in_X7_takeRow_X7 (C := RX7) (T := TX7) (N := 3) hw (k := (40 + 2 * s0)) (ci := 7) (v := .ref (zad F G (40 + 2 * s0 + 1))) (zsh_E hs0) rfl (zsh_B hs0) rfl 0 (by decide) rfl 7 rfl (Or.inl rfl) dX7_takeRow_20 ?_
  refine lv_lconst (v := 0) hx hb dX7_takeRow_23 rfl ?_
  obtain ⟨w1, ew1, h⟩ := z_bd h
  refine z_gov C0 hw hS (res := w1) (rest := []) (arr := ([.ref (zad F G (40 + 2 * s0 + 1)), .long ((0 : Int64))] : List Value).toArray) ?_ (fun H locs hw hS => ?_)
  · exact va_runS (z_fix C0) (c_J7_fill_d0a16 l D Y F G ((zP ((zP S ((40 + 2 * s0)) 1 (((100 : Int32) + x1)))) ((40 + 2 * s0)) 2 ((if (160 : Int32) < x2 then (160 : Int32) else x2)))) _ ((40 + 2 * s0 + 1)) 160 (zsh_E1 hs0) (zsh_R hs0) ((0 : Int64)) w1 ew1) (va_cwS 2 hts gX7_takeRow_J7_fill_d0a16 rfl rfl rfl (by decide +kernel) ⟨Nat.le_of_ble_eq_true rfl, Nat.le_of_ble_eq_true rfl⟩) ⟨zPc_blind, z_give C0 hw hS _⟩ rfl rfl hl.1 rfl (lv_room (Nat.le_of_ble_eq_true rfl)) dX7_takeRow_24 ⟨Nat.zero_le _, Nat.zero_le _⟩
  exact z_retv C0 hw hS (Option.some.inj h) dX7_takeRow_27
def M_X7_put (pk : Nat → Nat) (S : zSt) (s0 : Nat) (x1 : Int32) (x2 : Int64) : Option (zSt) :=
  Option.bind (M_X7_hasElement pk S s0 x1) (fun w1 => (if w1 = 0 then some S else (if ((zsc S (40 + 2 * s0) 1) - 100) = 0 then zg (zin x1 160) (some ((zLs S ((40 + 2 * s0 + 1)) (Int32.toNatClampNeg x1) ((Int32.toInt64 ((Int8.toInt32 (Int32.toInt8 ((Int64.toInt32 x2)))))))))) else (if ((zsc S (40 + 2 * s0) 1) - 100) = 1 then zg (zin x1 160) (some ((zLs S ((40 + 2 * s0 + 1)) (Int32.toNatClampNeg x1) ((Int32.toInt64 ((Int16.toInt32 (Int32.toInt16 ((Int64.toInt32 x2)))))))))) else (if ((zsc S (40 + 2 * s0) 1) - 100) = 2 then zg (zin x1 160) (some ((zLs S ((40 + 2 * s0 + 1)) (Int32.toNatClampNeg x1) ((Int32.toInt64 ((Int64.toInt32 x2))))))) else zg (zin x1 160) (some ((zLs S ((40 + 2 * s0 + 1)) (Int32.toNatClampNeg x1) x2))))))))
set_option maxHeartbeats 4000000 in
set_option maxRecDepth 100000 in
theorem c_X7_put (l : Launch) (D : va_G) (Y : Nat → ClassId) (F : Nat → Nat) (G : zG) (S : zSt) (sz : Nat) (s0 : Nat) (hs0 : s0 < 8) (x1 : Int32) (x2 : Int64) (res : zSt) (h : M_X7_put (zpk G) S s0 x1 x2 = some res) : Met l yX7_put wsX7_put (zRm 2 41) (zPc D Y F G S sz [.ref (zad F G (40 + 2 * s0)), .int x1, .long x2]) (zQv D Y F (zAo F G sz) G res) 0 0 (zAo F G sz) := by
  unfold M_X7_put at h
  refine zMet (cc := cX7_put) (maxL := 4) (ret := none) (own := RX7) (by decide +kernel) rfl rfl (Nat.le_of_ble_eq_true rfl) ?_
  intro p e s m args below meth c C0 hin hw hS ls hl
  have hl : lv_has ls 4 [(0, .ref (zad F G (40 + 2 * s0))), (1, .int x1), (2, .long x2)] := hl
  generalize zAo F G sz = A at C0 hw hS ⊢
  obtain ⟨hx, hb, hml, hr, hown, hts, hK, hA, hlk, hN⟩ := id C0
  refine lv_aload_n hx hb dX7_put_0 rfl (lv_at hl 0 rfl) ?_
  refine lv_iload_n hx hb dX7_put_1 rfl (lv_at hl 1 rfl) ?_
  obtain ⟨w1, ew1, h⟩ := z_bd h
  refine z_goi C0 hw hS (res := (w1, S)) (rest := []) (arr := (Value.ref (zad F G (40 + 2 * s0)) :: [.int x1]).toArray) ?_ (fun H locs hw hS => ?_)
  · exact va_runV (z_fix C0) (c_X7_hasElement l D Y F G S _ s0 hs0 x1 w1 ew1) (cwV 1 hts gX7_put_X7_hasElement rfl rfl rfl (by decide +kernel) ⟨Nat.le_of_ble_eq_true rfl, Nat.le_of_ble_eq_true rfl⟩) ⟨zPc_blind, z_rv C0 hw (k := (40 + 2 * s0)) (zsh_E hs0) rfl (zsh_B hs0) rfl, z_give C0 hw hS _⟩ rfl rfl hl.1 rfl (lv_room (Nat.le_of_ble_eq_true rfl)) dX7_put_2 ⟨Nat.zero_le _, Nat.zero_le _⟩
  refine lv_if_ne (tgt := 9) hx hb dX7_put_5 (by decide) (fun c2 => ?_) (fun c2 => ?_)
  · replace h := z_ifn c2 h
    refine lv_aload_n hx hb dX7_put_9 rfl (lv_at hl 0 rfl) ?_
    refine z_getU C0 in_X7_put_X7 (C := RX7) (T := TX7) (N := 3) hw (k := (40 + 2 * s0)) (ci := 7) (v := .int ((zsc S (40 + 2 * s0) 1))) (zsh_E hs0) rfl (zsh_B hs0) rfl 1 (by decide) rfl 1 rfl (Or.inl rfl) dX7_put_10 ?_
    refine lv_bipush (v := 100) hx hb dX7_put_13 (by decide) ?_
    refine lv_isub hx hb dX7_put_15 ?_
    by_cases c3 : ((zsc S (40 + 2 * s0) 1) - 100) = 0
    · replace h := z_ifp c3 h
      refine z_top c3 ?_
      refine lv_tableIn (off := 28) (tgt := 44) hx hb dX7_put_16 (by decide) (by decide) rfl (by decide) ?_
      refine lv_aload_n hx hb dX7_put_44 rfl (lv_at hl 0 rfl) ?_
      refine z_getU C0 in_X7_put_X7 (C := RX7) (T := TX7) (N := 3) hw (k := (40 + 2 * s0)) (ci := 7) (v := .ref (zad F G (40 + 2 * s0 + 1))) (zsh_E hs0) rfl (zsh_B hs0) rfl 0 (by decide) rfl 2 rfl (Or.inl rfl) dX7_put_45 ?_
      refine lv_iload_n hx hb dX7_put_48 rfl (lv_at hl 1 rfl) ?_
      refine lv_lload_n hx hb dX7_put_49 rfl (lv_at hl 2 rfl) ?_
      refine lv_l2i (v := (Int64.toInt32 x2)) hx hb dX7_put_50 rfl ?_
      refine lv_i2b (v := (Int8.toInt32 (Int32.toInt8 ((Int64.toInt32 x2))))) hx hb dX7_put_51 rfl ?_
      refine lv_i2l (v := (Int32.toInt64 ((Int8.toInt32 (Int32.toInt8 ((Int64.toInt32 x2))))))) hx hb dX7_put_52 rfl ?_
      obtain ⟨b4, h⟩ := z_gd h
      refine z_lasts C0 hw hS ((40 + 2 * s0 + 1)) (zsh_E1 hs0) rfl (zsh_R hs0) (zin_in b4) dX7_put_53 (fun H locs hw hS => ?_)
      refine lv_goto (tgt := 89) hx hb dX7_put_54 (by decide) ?_
      exact z_retv C0 hw hS (Option.some.inj h) dX7_put_89
    · replace h := z_ifn c3 h
      by_cases c5 : ((zsc S (40 + 2 * s0) 1) - 100) = 1
      · replace h := z_ifp c5 h
        refine z_top c5 ?_
        refine lv_tableIn (off := 41) (tgt := 57) hx hb dX7_put_16 (by decide) (by decide) rfl (by decide) ?_
        refine lv_aload_n hx hb dX7_put_57 rfl (lv_at hl 0 rfl) ?_
        refine z_getU C0 in_X7_put_X7 (C := RX7) (T := TX7) (N := 3) hw (k := (40 + 2 * s0)) (ci := 7) (v := .ref (zad F G (40 + 2 * s0 + 1))) (zsh_E hs0) rfl (zsh_B hs0) rfl 0 (by decide) rfl 2 rfl (Or.inl rfl) dX7_put_58 ?_
        refine lv_iload_n hx hb dX7_put_61 rfl (lv_at hl 1 rfl) ?_
        refine lv_lload_n hx hb dX7_put_62 rfl (lv_at hl 2 rfl) ?_
        refine lv_l2i (v := (Int64.toInt32 x2)) hx hb dX7_put_63 rfl ?_
        refine lv_i2s (v := (Int16.toInt32 (Int32.toInt16 ((Int64.toInt32 x2))))) hx hb dX7_put_64 rfl ?_
        refine lv_i2l (v := (Int32.toInt64 ((Int16.toInt32 (Int32.toInt16 ((Int64.toInt32 x2))))))) hx hb dX7_put_65 rfl ?_
        obtain ⟨b6, h⟩ := z_gd h
        refine z_lasts C0 hw hS ((40 + 2 * s0 + 1)) (zsh_E1 hs0) rfl (zsh_R hs0) (zin_in b6) dX7_put_66 (fun H locs hw hS => ?_)
        refine lv_goto (tgt := 89) hx hb dX7_put_67 (by decide) ?_
        exact z_retv C0 hw hS (Option.some.inj h) dX7_put_89
      · replace h := z_ifn c5 h
        by_cases c7 : ((zsc S (40 + 2 * s0) 1) - 100) = 2
        · replace h := z_ifp c7 h
          refine z_top c7 ?_
          refine lv_tableIn (off := 54) (tgt := 70) hx hb dX7_put_16 (by decide) (by decide) rfl (by decide) ?_
          refine lv_aload_n hx hb dX7_put_70 rfl (lv_at hl 0 rfl) ?_
          refine z_getU C0 in_X7_put_X7 (C := RX7) (T := TX7) (N := 3) hw (k := (40 + 2 * s0)) (ci := 7) (v := .ref (zad F G (40 + 2 * s0 + 1))) (zsh_E hs0) rfl (zsh_B hs0) rfl 0 (by decide) rfl 2 rfl (Or.inl rfl) dX7_put_71 ?_
          refine lv_iload_n hx hb dX7_put_74 rfl (lv_at hl 1 rfl) ?_
          refine lv_lload_n hx hb dX7_put_75 rfl (lv_at hl 2 rfl) ?_
          refine lv_l2i (v := (Int64.toInt32 x2)) hx hb dX7_put_76 rfl ?_
          refine lv_i2l (v := (Int32.toInt64 ((Int64.toInt32 x2)))) hx hb dX7_put_77 rfl ?_
          obtain ⟨b8, h⟩ := z_gd h
          refine z_lasts C0 hw hS ((40 + 2 * s0 + 1)) (zsh_E1 hs0) rfl (zsh_R hs0) (zin_in b8) dX7_put_78 (fun H locs hw hS => ?_)
          refine lv_goto (tgt := 89) hx hb dX7_put_79 (by decide) ?_
          exact z_retv C0 hw hS (Option.some.inj h) dX7_put_89
        · replace h := z_ifn c7 h
          have nc3 : Int32.toInt (((zsc S (40 + 2 * s0) 1) - 100)) ≠ 0 := fun q => c3 (Int32.toInt_inj.mp (q.trans (by decide)))
          have nc5 : Int32.toInt (((zsc S (40 + 2 * s0) 1) - 100)) ≠ 1 := fun q => c5 (Int32.toInt_inj.mp (q.trans (by decide)))
          have nc7 : Int32.toInt (((zsc S (40 + 2 * s0) 1) - 100)) ≠ 2 := fun q => c7 (Int32.toInt_inj.mp (q.trans (by decide)))
          refine lv_tableOut (tgt := 82) hx hb dX7_put_16 (by omega) (by decide) ?_
          refine lv_aload_n hx hb dX7_put_82 rfl (lv_at hl 0 rfl) ?_
          refine z_getU C0 in_X7_put_X7 (C := RX7) (T := TX7) (N := 3) hw (k := (40 + 2 * s0)) (ci := 7) (v := .ref (zad F G (40 + 2 * s0 + 1))) (zsh_E hs0) rfl (zsh_B hs0) rfl 0 (by decide) rfl 2 rfl (Or.inl rfl) dX7_put_83 ?_
          refine lv_iload_n hx hb dX7_put_86 rfl (lv_at hl 1 rfl) ?_
          refine lv_lload_n hx hb dX7_put_87 rfl (lv_at hl 2 rfl) ?_
          obtain ⟨b9, h⟩ := z_gd h
          refine z_lasts C0 hw hS ((40 + 2 * s0 + 1)) (zsh_E1 hs0) rfl (zsh_R hs0) (zin_in b9) dX7_put_88 (fun H locs hw hS => ?_)
          exact z_retv C0 hw hS (Option.some.inj h) dX7_put_89
  · replace h := z_ifp c2 h
    exact z_retv C0 hw hS (Option.some.inj h) dX7_put_8
def M_X7_elementAt (pk : Nat → Nat) (S : zSt) (s0 : Nat) (x1 : Int32) : Option (Int64) :=
  Option.bind (M_X7_hasElement pk S s0 x1) (fun w1 => (if w1 = 0 then some ((0 : Int64)) else zg (zin x1 160) (some ((zlo S ((40 + 2 * s0 + 1)) (Int32.toNatClampNeg x1))))))
set_option maxHeartbeats 4000000 in
set_option maxRecDepth 100000 in
theorem c_X7_elementAt (l : Launch) (D : va_G) (Y : Nat → ClassId) (F : Nat → Nat) (G : zG) (S : zSt) (sz : Nat) (s0 : Nat) (hs0 : s0 < 8) (x1 : Int32) (res : Int64) (h : M_X7_elementAt (zpk G) S s0 x1 = some res) : Met l yX7_elementAt wsX7_elementAt (zRm 2 41) (zPc D Y F G S sz [.ref (zad F G (40 + 2 * s0)), .int x1]) (zQl D Y F (zAo F G sz) G (res, S)) 0 0 (zAo F G sz) := by
  unfold M_X7_elementAt at h
  refine zMet (cc := cX7_elementAt) (maxL := 2) (ret := (some .long)) (own := RX7) (by decide +kernel) rfl rfl (Nat.le_of_ble_eq_true rfl) ?_
  intro p e s m args below meth c C0 hin hw hS ls hl
  have hl : lv_has ls 2 [(0, .ref (zad F G (40 + 2 * s0))), (1, .int x1)] := hl
  generalize zAo F G sz = A at C0 hw hS ⊢
  obtain ⟨hx, hb, hml, hr, hown, hts, hK, hA, hlk, hN⟩ := id C0
  refine lv_aload_n hx hb dX7_elementAt_0 rfl (lv_at hl 0 rfl) ?_
  refine lv_iload_n hx hb dX7_elementAt_1 rfl (lv_at hl 1 rfl) ?_
  obtain ⟨w1, ew1, h⟩ := z_bd h
  refine z_goi C0 hw hS (res := (w1, S)) (rest := []) (arr := (Value.ref (zad F G (40 + 2 * s0)) :: [.int x1]).toArray) ?_ (fun H locs hw hS => ?_)
  · exact va_runV (z_fix C0) (c_X7_hasElement l D Y F G S _ s0 hs0 x1 w1 ew1) (cwV 1 hts gX7_elementAt_X7_hasElement rfl rfl rfl (by decide +kernel) ⟨Nat.le_of_ble_eq_true rfl, Nat.le_of_ble_eq_true rfl⟩) ⟨zPc_blind, z_rv C0 hw (k := (40 + 2 * s0)) (zsh_E hs0) rfl (zsh_B hs0) rfl, z_give C0 hw hS _⟩ rfl rfl hl.1 rfl (lv_room (Nat.le_of_ble_eq_true rfl)) dX7_elementAt_2 ⟨Nat.zero_le _, Nat.zero_le _⟩
  refine lv_if_eq (tgt := 17) hx hb dX7_elementAt_5 (by decide) (fun c2 => ?_) (fun c2 => ?_)
  · replace h := z_ifp c2 h
    refine lv_lconst (v := 0) hx hb dX7_elementAt_17 rfl ?_
    exact z_retl C0 hw hS (congrArg (fun z => (z, S)) (Option.some.inj h)) dX7_elementAt_18
  · replace h := z_ifn c2 h
    refine lv_aload_n hx hb dX7_elementAt_8 rfl (lv_at hl 0 rfl) ?_
    refine z_getU C0 in_X7_elementAt_X7 (C := RX7) (T := TX7) (N := 3) hw (k := (40 + 2 * s0)) (ci := 7) (v := .ref (zad F G (40 + 2 * s0 + 1))) (zsh_E hs0) rfl (zsh_B hs0) rfl 0 (by decide) rfl 1 rfl (Or.inl rfl) dX7_elementAt_9 ?_
    refine lv_iload_n hx hb dX7_elementAt_12 rfl (lv_at hl 1 rfl) ?_
    obtain ⟨b3, h⟩ := z_gd h
    refine z_lald C0 hw ((40 + 2 * s0 + 1)) (zsh_E1 hs0) rfl (zsh_R hs0) (zin_in b3) dX7_elementAt_13 ?_
    refine lv_goto (tgt := 18) hx hb dX7_elementAt_14 (by decide) ?_
    exact z_retl C0 hw hS (congrArg (fun z => (z, S)) (Option.some.inj h)) dX7_elementAt_18
def M_X7_intAt (pk : Nat → Nat) (S : zSt) (s0 : Nat) (x1 : Int32) : Option (Int32) :=
  Option.bind (M_X7_elementAt pk S s0 x1) (fun w1 => some ((Int64.toInt32 w1)))
set_option maxHeartbeats 4000000 in
set_option maxRecDepth 100000 in
theorem c_X7_intAt (l : Launch) (D : va_G) (Y : Nat → ClassId) (F : Nat → Nat) (G : zG) (S : zSt) (sz : Nat) (s0 : Nat) (hs0 : s0 < 8) (x1 : Int32) (res : Int32) (h : M_X7_intAt (zpk G) S s0 x1 = some res) : Met l yX7_intAt wsX7_intAt (zRm 3 62) (zPc D Y F G S sz [.ref (zad F G (40 + 2 * s0)), .int x1]) (zQi D Y F (zAo F G sz) G (res, S)) 0 0 (zAo F G sz) := by
  unfold M_X7_intAt at h
  refine zMet (cc := cX7_intAt) (maxL := 2) (ret := (some .int)) (own := RX7) (by decide +kernel) rfl rfl (Nat.le_of_ble_eq_true rfl) ?_
  intro p e s m args below meth c C0 hin hw hS ls hl
  have hl : lv_has ls 2 [(0, .ref (zad F G (40 + 2 * s0))), (1, .int x1)] := hl
  generalize zAo F G sz = A at C0 hw hS ⊢
  obtain ⟨hx, hb, hml, hr, hown, hts, hK, hA, hlk, hN⟩ := id C0
  refine lv_aload_n hx hb dX7_intAt_0 rfl (lv_at hl 0 rfl) ?_
  refine lv_iload_n hx hb dX7_intAt_1 rfl (lv_at hl 1 rfl) ?_
  obtain ⟨w1, ew1, h⟩ := z_bd h
  refine z_gol C0 hw hS (res := (w1, S)) (rest := []) (arr := (Value.ref (zad F G (40 + 2 * s0)) :: [.int x1]).toArray) ?_ (fun H locs hw hS => ?_)
  · exact va_runV (z_fix C0) (c_X7_elementAt l D Y F G S _ s0 hs0 x1 w1 ew1) (cwV 1 hts gX7_intAt_X7_elementAt rfl rfl rfl (by decide +kernel) ⟨Nat.le_of_ble_eq_true rfl, Nat.le_of_ble_eq_true rfl⟩) ⟨zPc_blind, z_rv C0 hw (k := (40 + 2 * s0)) (zsh_E hs0) rfl (zsh_B hs0) rfl, z_give C0 hw hS _⟩ rfl rfl hl.1 rfl (lv_room (Nat.le_of_ble_eq_true rfl)) dX7_intAt_2 ⟨Nat.zero_le _, Nat.zero_le _⟩
  refine lv_l2i (v := (Int64.toInt32 w1)) hx hb dX7_intAt_5 rfl ?_
  exact z_reti C0 hw hS (congrArg (fun z => (z, S)) (Option.some.inj h)) dX7_intAt_6
def M_X9_clear (pk : Nat → Nat) (S : zSt) : Option (zSt) :=
  some ((zP S 56 1 0))
set_option maxHeartbeats 4000000 in
set_option maxRecDepth 100000 in
theorem c_X9_clear (l : Launch) (D : va_G) (Y : Nat → ClassId) (F : Nat → Nat) (G : zG) (S : zSt) (sz : Nat) (res : zSt) (h : M_X9_clear (zpk G) S = some res) : Met l yX9_clear wsX9_clear (zRm 0 0) (zPc D Y F G S sz [.ref (F 56)]) (zQv D Y F (zAo F G sz) G res) 0 0 (zAo F G sz) := by
  unfold M_X9_clear at h
  refine zMet (cc := cX9_clear) (maxL := 1) (ret := none) (own := RX9) (by decide +kernel) rfl rfl (Nat.le_of_ble_eq_true rfl) ?_
  intro p e s m args below meth c C0 hin hw hS ls hl
  have hl : lv_has ls 1 [(0, .ref (F 56))] := hl
  generalize zAo F G sz = A at C0 hw hS ⊢
  obtain ⟨hx, hb, hml, hr, hown, hts, hK, hA, hlk, hN⟩ := id C0
  refine lv_aload_n hx hb dX9_clear_0 rfl (lv_at hl 0 rfl) ?_
  refine lv_iconst (v := 0) hx hb dX9_clear_1 (by decide) ?_
  refine z_putU C0 in_X9_clear_X9 tyX9 tyX9_ok nmX9 (C := RX9) (T := TX9) (N := 2) hw hS (k := 56) (ci := 9) (v := 0) rfl rfl rfl rfl 1 (by decide) 1 rfl rfl rfl rfl (Nat.le_of_ble_eq_true rfl) rfl dX9_clear_2 (fun H locs hw hS => ?_)
  exact z_retv C0 hw hS (Option.some.inj h) dX9_clear_5
def M_X9_began_B26 (pk : Nat → Nat) (S : zSt) : Option (zSt) :=
  some ((zP S 56 1 (((zsc S 56 1) + 1))))
set_option maxHeartbeats 4000000 in
set_option maxRecDepth 100000 in
theorem t_X9_began_B26 {p : Program} {l : Launch} {e : Env} {s : State} {m : MethodId} {args : Array Value} {below : List Frame} {meth : Method} {c : Code} {D : va_G} {Y : Nat → ClassId} {F : Nat → Nat} {A : Nat → Prop} {G : zG} (C0 : zCx p s m args meth c D Y F A RX9 cX9_began 2 none wsX9_began) (res : zSt) : ∀ (S : zSt), M_X9_began_B26 (zpk G) S = some res → ∀ (H : Heap) (locs : List Loc) (ls : Array Slot), zH D Y F A G S H → va_S A s.heap H locs → lv_has ls 2 [(0, .ref (F 56))] → W p l e (zRm 0 0) s m args below meth c H locs 0 0 (MQ below (zQv D Y F A G res) args s 0 0 A) (F0 m 26 ls []) := by
  obtain ⟨hx, hb, hml, hr, hown, hts, hK, hA, hlk, hN⟩ := id C0
  intro S h H locs ls hw hS hl
  unfold M_X9_began_B26 at h
  refine lv_aload_n hx hb dX9_began_26 rfl (lv_at hl 0 rfl) ?_
  refine lv_dup hx hb dX9_began_27 rfl ?_
  refine z_getU C0 in_X9_began_X9 (C := RX9) (T := TX9) (N := 2) hw (k := 56) (ci := 9) (v := .int ((zsc S 56 1))) rfl rfl rfl rfl 1 (by decide) rfl 1 rfl (Or.inl rfl) dX9_began_28 ?_
  refine lv_iconst (v := 1) hx hb dX9_began_31 (by decide) ?_
  refine lv_iadd hx hb dX9_began_32 ?_
  refine z_putU C0 in_X9_began_X9 tyX9 tyX9_ok nmX9 (C := RX9) (T := TX9) (N := 2) hw hS (k := 56) (ci := 9) (v := ((zsc S 56 1) + 1)) rfl rfl rfl rfl 1 (by decide) 1 rfl rfl rfl rfl (Nat.le_of_ble_eq_true rfl) rfl dX9_began_33 (fun H locs hw hS => ?_)
  exact z_retv C0 hw hS (Option.some.inj h) dX9_began_36
def M_X9_began (pk : Nat → Nat) (S : zSt) (x1 : Int32) : Option (zSt) :=
  (if (zsc S 56 1) < 0 then M_X9_began_B26 pk S else (if 20 ≤ (zsc S 56 1) then M_X9_began_B26 pk S else zg (zin ((zsc S 56 1)) 20) (M_X9_began_B26 pk ((zAs S 57 (Int32.toNatClampNeg ((zsc S 56 1))) x1)))))
set_option maxHeartbeats 4000000 in
set_option maxRecDepth 100000 in
theorem c_X9_began (l : Launch) (D : va_G) (Y : Nat → ClassId) (F : Nat → Nat) (G : zG) (S : zSt) (sz : Nat) (x1 : Int32) (res : zSt) (h : M_X9_began (zpk G) S x1 = some res) : Met l yX9_began wsX9_began (zRm 0 0) (zPc D Y F G S sz [.ref (F 56), .int x1]) (zQv D Y F (zAo F G sz) G res) 0 0 (zAo F G sz) := by
  unfold M_X9_began at h
  refine zMet (cc := cX9_began) (maxL := 2) (ret := none) (own := RX9) (by decide +kernel) rfl rfl (Nat.le_of_ble_eq_true rfl) ?_
  intro p e s m args below meth c C0 hin hw hS ls hl
  have hl : lv_has ls 2 [(0, .ref (F 56)), (1, .int x1)] := hl
  generalize zAo F G sz = A at C0 hw hS ⊢
  obtain ⟨hx, hb, hml, hr, hown, hts, hK, hA, hlk, hN⟩ := id C0
  refine lv_aload_n hx hb dX9_began_0 rfl (lv_at hl 0 rfl) ?_
  refine z_getU C0 in_X9_began_X9 (C := RX9) (T := TX9) (N := 2) hw (k := 56) (ci := 9) (v := .int ((zsc S 56 1))) rfl rfl rfl rfl 1 (by decide) rfl 1 rfl (Or.inl rfl) dX9_began_1 ?_
  refine lv_if_lt (tgt := 26) hx hb dX9_began_4 (by decide) (fun c1 => ?_) (fun c1 => ?_)
  · replace h := z_ifp c1 h
    exact t_X9_began_B26 C0 res S h _ _ _ hw hS (lv_sub hl [0] rfl)
  · replace h := z_ifn c1 h
    refine lv_aload_n hx hb dX9_began_7 rfl (lv_at hl 0 rfl) ?_
    refine z_getU C0 in_X9_began_X9 (C := RX9) (T := TX9) (N := 2) hw (k := 56) (ci := 9) (v := .int ((zsc S 56 1))) rfl rfl rfl rfl 1 (by decide) rfl 1 rfl (Or.inl rfl) dX9_began_8 ?_
    refine lv_bipush (v := 20) hx hb dX9_began_11 (by decide) ?_
    refine lv_icmp_ge (tgt := 26) hx hb dX9_began_13 (by decide) (fun c2 => ?_) (fun c2 => ?_)
    · replace h := z_ifp c2 h
      exact t_X9_began_B26 C0 res S h _ _ _ hw hS (lv_sub hl [0] rfl)
    · replace h := z_ifn c2 h
      refine lv_aload_n hx hb dX9_began_16 rfl (lv_at hl 0 rfl) ?_
      refine z_getU C0 in_X9_began_X9 (C := RX9) (T := TX9) (N := 2) hw (k := 56) (ci := 9) (v := .ref (F 57)) rfl rfl rfl rfl 0 (by decide) rfl 2 rfl (Or.inl rfl) dX9_began_17 ?_
      refine lv_aload_n hx hb dX9_began_20 rfl (lv_at hl 0 rfl) ?_
      refine z_getU C0 in_X9_began_X9 (C := RX9) (T := TX9) (N := 2) hw (k := 56) (ci := 9) (v := .int ((zsc S 56 1))) rfl rfl rfl rfl 1 (by decide) rfl 1 rfl (Or.inl rfl) dX9_began_21 ?_
      refine lv_iload_n hx hb dX9_began_24 rfl (lv_at hl 1 rfl) ?_
      obtain ⟨b3, h⟩ := z_gd h
      refine z_iasts C0 hw hS 57 rfl rfl zri_57 (zin_in b3) dX9_began_25 (fun H locs hw hS => ?_)
      exact t_X9_began_B26 C0 res ((zAs S 57 (Int32.toNatClampNeg ((zsc S 56 1))) x1)) h _ _ _ hw hS (lv_sub hl [0] rfl)
def M_X9_bodyAt (pk : Nat → Nat) (S : zSt) (x1 : Int32) : Option (Int32) :=
  (if x1 < 0 then some (-1) else (if (zsc S 56 1) ≤ x1 then some (-1) else (if 20 ≤ x1 then some (-1) else zg (zin x1 20) (some ((zar S 57 (Int32.toNatClampNeg x1)))))))
set_option maxHeartbeats 4000000 in
set_option maxRecDepth 100000 in
theorem c_X9_bodyAt (l : Launch) (D : va_G) (Y : Nat → ClassId) (F : Nat → Nat) (G : zG) (S : zSt) (sz : Nat) (x1 : Int32) (res : Int32) (h : M_X9_bodyAt (zpk G) S x1 = some res) : Met l yX9_bodyAt wsX9_bodyAt (zRm 0 0) (zPc D Y F G S sz [.ref (F 56), .int x1]) (zQi D Y F (zAo F G sz) G (res, S)) 0 0 (zAo F G sz) := by
  unfold M_X9_bodyAt at h
  refine zMet (cc := cX9_bodyAt) (maxL := 2) (ret := (some .int)) (own := RX9) (by decide +kernel) rfl rfl (Nat.le_of_ble_eq_true rfl) ?_
  intro p e s m args below meth c C0 hin hw hS ls hl
  have hl : lv_has ls 2 [(0, .ref (F 56)), (1, .int x1)] := hl
  generalize zAo F G sz = A at C0 hw hS ⊢
  obtain ⟨hx, hb, hml, hr, hown, hts, hK, hA, hlk, hN⟩ := id C0
  refine lv_iload_n hx hb dX9_bodyAt_0 rfl (lv_at hl 1 rfl) ?_
  refine lv_if_lt (tgt := 27) hx hb dX9_bodyAt_1 (by decide) (fun c1 => ?_) (fun c1 => ?_)
  · replace h := z_ifp c1 h
    refine lv_iconst (v := (-1)) hx hb dX9_bodyAt_27 (by decide) ?_
    exact z_reti C0 hw hS (congrArg (fun z => (z, S)) (Option.some.inj h)) dX9_bodyAt_28
  · replace h := z_ifn c1 h
    refine lv_iload_n hx hb dX9_bodyAt_4 rfl (lv_at hl 1 rfl) ?_
    refine lv_aload_n hx hb dX9_bodyAt_5 rfl (lv_at hl 0 rfl) ?_
    refine z_getU C0 in_X9_bodyAt_X9 (C := RX9) (T := TX9) (N := 2) hw (k := 56) (ci := 9) (v := .int ((zsc S 56 1))) rfl rfl rfl rfl 1 (by decide) rfl 1 rfl (Or.inl rfl) dX9_bodyAt_6 ?_
    refine lv_icmp_ge (tgt := 27) hx hb dX9_bodyAt_9 (by decide) (fun c2 => ?_) (fun c2 => ?_)
    · replace h := z_ifp c2 h
      refine lv_iconst (v := (-1)) hx hb dX9_bodyAt_27 (by decide) ?_
      exact z_reti C0 hw hS (congrArg (fun z => (z, S)) (Option.some.inj h)) dX9_bodyAt_28
    · replace h := z_ifn c2 h
      refine lv_iload_n hx hb dX9_bodyAt_12 rfl (lv_at hl 1 rfl) ?_
      refine lv_bipush (v := 20) hx hb dX9_bodyAt_13 (by decide) ?_
      refine lv_icmp_ge (tgt := 27) hx hb dX9_bodyAt_15 (by decide) (fun c3 => ?_) (fun c3 => ?_)
      · replace h := z_ifp c3 h
        refine lv_iconst (v := (-1)) hx hb dX9_bodyAt_27 (by decide) ?_
        exact z_reti C0 hw hS (congrArg (fun z => (z, S)) (Option.some.inj h)) dX9_bodyAt_28
      · replace h := z_ifn c3 h
        refine lv_aload_n hx hb dX9_bodyAt_18 rfl (lv_at hl 0 rfl) ?_
        refine z_getU C0 in_X9_bodyAt_X9 (C := RX9) (T := TX9) (N := 2) hw (k := 56) (ci := 9) (v := .ref (F 57)) rfl rfl rfl rfl 0 (by decide) rfl 2 rfl (Or.inl rfl) dX9_bodyAt_19 ?_
        refine lv_iload_n hx hb dX9_bodyAt_22 rfl (lv_at hl 1 rfl) ?_
        obtain ⟨b4, h⟩ := z_gd h
        refine z_iald C0 hw 57 rfl rfl zri_57 (zin_in b4) dX9_bodyAt_23 ?_
        refine lv_goto (tgt := 28) hx hb dX9_bodyAt_24 (by decide) ?_
        exact z_reti C0 hw hS (congrArg (fun z => (z, S)) (Option.some.inj h)) dX9_bodyAt_28
def M_J7_fill_53178_B5 (k0 : Nat) (n0 : Nat) : Nat → zSt → Int32 → Int32 → Int32 → Option (zSt)
  | 0, _, _, _, _ => none
  | n + 1, S, x1, x2, x3 =>
  (if x3 ≤ x2 then some S else zg (zin x2 n0) (M_J7_fill_53178_B5 k0 n0 n ((zAs S k0 (Int32.toNatClampNeg x2) x1)) x1 ((x2 + 1)) x3))
set_option maxHeartbeats 4000000 in
set_option maxRecDepth 100000 in
theorem t_J7_fill_53178_B5 {p : Program} {l : Launch} {e : Env} {s : State} {m : MethodId} {args : Array Value} {below : List Frame} {meth : Method} {c : Code} {D : va_G} {Y : Nat → ClassId} {F : Nat → Nat} {A : Nat → Prop} {G : zG} (C0 : zCx p s m args meth c D Y F A RJ7 cJ7_fill_53178 4 none wsJ7_fill_53178) (k0 : Nat) (n0 : Nat) (hE0 : zE G k0 = true) (hR0 : zRi k0 n0) (res : zSt) : ∀ (n : Nat), ∀ (S : zSt) (x1 : Int32) (x2 : Int32) (x3 : Int32), M_J7_fill_53178_B5 k0 n0 n S x1 x2 x3 = some res → ∀ (H : Heap) (locs : List Loc) (ls : Array Slot), zH D Y F A G S H → va_S A s.heap H locs → lv_has ls 4 [(0, .ref (zad F G k0)), (1, .int x1), (2, .int x2), (3, .int x3)] → W p l e (zRm 0 0) s m args below meth c H locs 0 0 (MQ below (zQv D Y F A G res) args s 0 0 A) (F0 m 5 ls []) := by
  obtain ⟨hx, hb, hml, hr, hown, hts, hK, hA, hlk, hN⟩ := id C0
  intro n
  induction n with
  | zero =>
    intro S x1 x2 x3 h
    unfold M_J7_fill_53178_B5 at h
    cases h
  | succ n ih =>
    intro S x1 x2 x3 h H locs ls hw hS hl
    rw [M_J7_fill_53178_B5] at h
    refine lv_iload_n hx hb dJ7_fill_53178_5 rfl (lv_at hl 2 rfl) ?_
    refine lv_iload_n hx hb dJ7_fill_53178_6 rfl (lv_at hl 3 rfl) ?_
    refine lv_icmp_ge (tgt := 20) hx hb dJ7_fill_53178_7 (by decide) (fun c1 => ?_) (fun c1 => ?_)
    · replace h := z_ifp c1 h
      exact z_retv C0 hw hS (Option.some.inj h) dJ7_fill_53178_20
    · replace h := z_ifn c1 h
      refine lv_aload_n hx hb dJ7_fill_53178_10 rfl (lv_at hl 0 rfl) ?_
      refine lv_iload_n hx hb dJ7_fill_53178_11 rfl (lv_at hl 2 rfl) ?_
      refine lv_iload_n hx hb dJ7_fill_53178_12 rfl (lv_at hl 1 rfl) ?_
      obtain ⟨b2, h⟩ := z_gd h
      refine z_iasts C0 hw hS k0 hE0 rfl hR0 (zin_in b2) dJ7_fill_53178_13 (fun H locs hw hS => ?_)
      refine lv_iinc (v := (x2 + 1)) (lv' := [(2, .int ((x2 + 1))), (0, .ref (zad F G k0)), (1, .int x1), (3, .int x3)]) hx hb dJ7_fill_53178_14 hl (k := 2) rfl rfl (by decide) rfl (fun ls hl => ?_)
      refine lv_goto (tgt := 5) hx hb dJ7_fill_53178_17 (by decide) ?_
      exact ih ((zAs S k0 (Int32.toNatClampNeg x2) x1)) x1 ((x2 + 1)) x3 h _ _ _ hw hS (lv_sub hl [1, 2, 0, 3] rfl)
def M_J7_fill_53178 (S : zSt) (k0 : Nat) (n0 : Nat) (x1 : Int32) : Option (zSt) :=
  M_J7_fill_53178_B5 k0 n0 zF S x1 0 ((Int32.ofNat n0))
set_option maxHeartbeats 4000000 in
set_option maxRecDepth 100000 in
theorem c_J7_fill_53178 (l : Launch) (D : va_G) (Y : Nat → ClassId) (F : Nat → Nat) (G : zG) (S : zSt) (sz : Nat) (k0 : Nat) (n0 : Nat) (hE0 : zE G k0 = true) (hR0 : zRi k0 n0) (x1 : Int32) (res : zSt) (h : M_J7_fill_53178 S k0 n0 x1 = some res) : Met l yJ7_fill_53178 wsJ7_fill_53178 (zRm 0 0) (zPc D Y F G S sz [.ref (zad F G k0), .int x1]) (zQv D Y F (zAo F G sz) G res) 0 0 (zAo F G sz) := by
  unfold M_J7_fill_53178 at h
  refine zMet (cc := cJ7_fill_53178) (maxL := 4) (ret := none) (own := RJ7) (by decide +kernel) rfl rfl (Nat.le_of_ble_eq_true rfl) ?_
  intro p e s m args below meth c C0 hin hw hS ls hl
  have hl : lv_has ls 4 [(0, .ref (zad F G k0)), (1, .int x1)] := hl
  generalize zAo F G sz = A at C0 hw hS ⊢
  obtain ⟨hx, hb, hml, hr, hown, hts, hK, hA, hlk, hN⟩ := id C0
  refine lv_iconst (v := 0) hx hb dJ7_fill_53178_0 (by decide) ?_
  refine lv_istore_n (lv' := [(2, .int 0), (0, .ref (zad F G k0)), (1, .int x1)]) hx hb dJ7_fill_53178_1 rfl hl (by decide) rfl (fun ls hl => ?_)
  refine lv_aload_n hx hb dJ7_fill_53178_2 rfl (lv_at hl 1 rfl) ?_
  refine z_alen C0 hw k0 hE0 rfl hR0 (v := Int32.ofNat n0) rfl dJ7_fill_53178_3 ?_
  refine lv_istore_n (lv' := [(3, .int ((Int32.ofNat n0))), (2, .int 0), (0, .ref (zad F G k0)), (1, .int x1)]) hx hb dJ7_fill_53178_4 rfl hl (by decide) rfl (fun ls hl => ?_)
  exact t_J7_fill_53178_B5 C0 k0 n0 hE0 hR0 res zF S x1 0 ((Int32.ofNat n0)) h _ _ _ hw hS (lv_sub hl [2, 3, 1, 0] rfl)
def M_X5_begin (pk : Nat → Nat) (S : zSt) (q0 : Nat) (x1 : Int32) (x2 : Int32) : Option (zSt) :=
  Option.bind (M_J7_fill_53178 ((zP ((zP ((zP S ((100 + 4 * q0)) 6 x1)) ((100 + 4 * q0)) 7 x2)) ((100 + 4 * q0)) 8 0)) ((100 + 4 * q0 + 1)) 48 0) (fun w1 => Option.bind (M_J7_fill_53178 w1 ((100 + 4 * q0 + 2)) 6 0) (fun w2 => Option.bind (M_J7_fill_53178 w2 ((100 + 4 * q0 + 3)) 6 0) (fun w3 => some w3)))
set_option maxHeartbeats 4000000 in
set_option maxRecDepth 100000 in
theorem c_X5_begin (l : Launch) (D : va_G) (Y : Nat → ClassId) (F : Nat → Nat) (G : zG) (S : zSt) (sz : Nat) (q0 : Nat) (hq0 : zOKb (zpk G) q0 = true) (x1 : Int32) (x2 : Int32) (res : zSt) (h : M_X5_begin (zpk G) S q0 x1 x2 = some res) : Met l yX5_begin wsX5_begin (zRm 1 23) (zPc D Y F G S sz [.ref (zad F G (100 + 4 * q0)), .int x1, .int x2]) (zQv D Y F (zAo F G sz) G res) 0 0 (zAo F G sz) := by
  unfold M_X5_begin at h
  refine zMet (cc := cX5_begin) (maxL := 3) (ret := none) (own := RX5) (by decide +kernel) rfl rfl (Nat.le_of_ble_eq_true rfl) ?_
  intro p e s m args below meth c C0 hin hw hS ls hl
  have hl : lv_has ls 3 [(0, .ref (zad F G (100 + 4 * q0))), (1, .int x1), (2, .int x2)] := hl
  generalize zAo F G sz = A at C0 hw hS ⊢
  obtain ⟨hx, hb, hml, hr, hown, hts, hK, hA, hlk, hN⟩ := id C0
  refine lv_aload_n hx hb dX5_begin_0 rfl (lv_at hl 0 rfl) ?_
  refine lv_iload_n hx hb dX5_begin_1 rfl (lv_at hl 1 rfl) ?_
  refine z_putP C0 inP_X5_begin hw hS hq0 6 (by decide) 1 rfl rfl (v := x1) dX5_begin_2 (fun H locs hw hS => ?_)
  refine lv_aload_n hx hb dX5_begin_5 rfl (lv_at hl 0 rfl) ?_
  refine lv_iload_n hx hb dX5_begin_6 rfl (lv_at hl 2 rfl) ?_
  refine z_putP C0 inP_X5_begin hw hS hq0 7 (by decide) 2 rfl rfl (v := x2) dX5_begin_7 (fun H locs hw hS => ?_)
  refine lv_aload_n hx hb dX5_begin_10 rfl (lv_at hl 0 rfl) ?_
  refine lv_iconst (v := 0) hx hb dX5_begin_11 (by decide) ?_
  refine z_putP C0 inP_X5_begin hw hS hq0 8 (by decide) 3 rfl rfl (v := 0) dX5_begin_12 (fun H locs hw hS => ?_)
  refine lv_aload_n hx hb dX5_begin_15 rfl (lv_at hl 0 rfl) ?_
  refine z_getP C0 inP_X5_begin hw hq0 3 (by decide) (v := .ref (zad F G (100 + 4 * q0 + 1))) rfl 4 rfl (Or.inl rfl) dX5_begin_16 ?_
  refine lv_iconst (v := 0) hx hb dX5_begin_19 (by decide) ?_
  obtain ⟨w1, ew1, h⟩ := z_bd h
  refine z_gov C0 hw hS (res := w1) (rest := []) (arr := ([.ref (zad F G (100 + 4 * q0 + 1)), .int 0] : List Value).toArray) ?_ (fun H locs hw hS => ?_)
  · exact va_runS (z_fix C0) (c_J7_fill_53178 l D Y F G ((zP ((zP ((zP S ((100 + 4 * q0)) 6 x1)) ((100 + 4 * q0)) 7 x2)) ((100 + 4 * q0)) 8 0)) _ ((100 + 4 * q0 + 1)) 48 (zOK_E hq0 1 (by decide)) (zPR1 q0) 0 w1 ew1) (va_cwS 2 hts gX5_begin_J7_fill_53178 rfl rfl rfl (by decide +kernel) ⟨Nat.le_of_ble_eq_true rfl, Nat.le_of_ble_eq_true rfl⟩) ⟨zPc_blind, z_give C0 hw hS _⟩ rfl rfl hl.1 rfl (lv_room (Nat.le_of_ble_eq_true rfl)) dX5_begin_20 ⟨Nat.zero_le _, Nat.zero_le _⟩
  refine lv_aload_n hx hb dX5_begin_23 rfl (lv_at hl 0 rfl) ?_
  refine z_getP C0 inP_X5_begin hw hq0 4 (by decide) (v := .ref (zad F G (100 + 4 * q0 + 2))) rfl 5 rfl (Or.inl rfl) dX5_begin_24 ?_
  refine lv_iconst (v := 0) hx hb dX5_begin_27 (by decide) ?_
  obtain ⟨w2, ew2, h⟩ := z_bd h
  refine z_gov C0 hw hS (res := w2) (rest := []) (arr := ([.ref (zad F G (100 + 4 * q0 + 2)), .int 0] : List Value).toArray) ?_ (fun H locs hw hS => ?_)
  · exact va_runS (z_fix C0) (c_J7_fill_53178 l D Y F G w1 _ ((100 + 4 * q0 + 2)) 6 (zOK_E hq0 2 (by decide)) (zPR2 q0) 0 w2 ew2) (va_cwS 2 hts gX5_begin_J7_fill_53178 rfl rfl rfl (by decide +kernel) ⟨Nat.le_of_ble_eq_true rfl, Nat.le_of_ble_eq_true rfl⟩) ⟨zPc_blind, z_give C0 hw hS _⟩ rfl rfl hl.1 rfl (lv_room (Nat.le_of_ble_eq_true rfl)) dX5_begin_28 ⟨Nat.zero_le _, Nat.zero_le _⟩
  refine lv_aload_n hx hb dX5_begin_31 rfl (lv_at hl 0 rfl) ?_
  refine z_getP C0 inP_X5_begin hw hq0 5 (by decide) (v := .ref (zad F G (100 + 4 * q0 + 3))) rfl 6 rfl (Or.inl rfl) dX5_begin_32 ?_
  refine lv_iconst (v := 0) hx hb dX5_begin_35 (by decide) ?_
  obtain ⟨w3, ew3, h⟩ := z_bd h
  refine z_gov C0 hw hS (res := w3) (rest := []) (arr := ([.ref (zad F G (100 + 4 * q0 + 3)), .int 0] : List Value).toArray) ?_ (fun H locs hw hS => ?_)
  · exact va_runS (z_fix C0) (c_J7_fill_53178 l D Y F G w2 _ ((100 + 4 * q0 + 3)) 6 (zOK_E hq0 3 (by decide)) (zPR3 q0) 0 w3 ew3) (va_cwS 2 hts gX5_begin_J7_fill_53178 rfl rfl rfl (by decide +kernel) ⟨Nat.le_of_ble_eq_true rfl, Nat.le_of_ble_eq_true rfl⟩) ⟨zPc_blind, z_give C0 hw hS _⟩ rfl rfl hl.1 rfl (lv_room (Nat.le_of_ble_eq_true rfl)) dX5_begin_36 ⟨Nat.zero_le _, Nat.zero_le _⟩
  exact z_retv C0 hw hS (Option.some.inj h) dX5_begin_39
def M_X5_takeFrom (pk : Nat → Nat) (S : zSt) (q0 : Nat) (q1 : Nat) : Option (zSt) :=
  zg (zcp 0 0 ((Int32.ofNat 48)) 48 48) (zg (zcp 0 0 ((Int32.ofNat 6)) 6 6) (zg (zcp 0 0 ((Int32.ofNat 6)) 6 6) (some ((zA ((zA ((zA ((zP ((zP ((zP S ((100 + 4 * q0)) 6 ((zsc S (100 + 4 * q1) 6)))) ((100 + 4 * q0)) 7 ((zsc ((zP S ((100 + 4 * q0)) 6 ((zsc S (100 + 4 * q1) 6)))) (100 + 4 * q1) 7)))) ((100 + 4 * q0)) 8 ((zsc ((zP ((zP S ((100 + 4 * q0)) 6 ((zsc S (100 + 4 * q1) 6)))) ((100 + 4 * q0)) 7 ((zsc ((zP S ((100 + 4 * q0)) 6 ((zsc S (100 + 4 * q1) 6)))) (100 + 4 * q1) 7)))) (100 + 4 * q1) 8)))) ((100 + 4 * q0 + 1)) (va_cpy (zar ((zP ((zP ((zP S ((100 + 4 * q0)) 6 ((zsc S (100 + 4 * q1) 6)))) ((100 + 4 * q0)) 7 ((zsc ((zP S ((100 + 4 * q0)) 6 ((zsc S (100 + 4 * q1) 6)))) (100 + 4 * q1) 7)))) ((100 + 4 * q0)) 8 ((zsc ((zP ((zP S ((100 + 4 * q0)) 6 ((zsc S (100 + 4 * q1) 6)))) ((100 + 4 * q0)) 7 ((zsc ((zP S ((100 + 4 * q0)) 6 ((zsc S (100 + 4 * q1) 6)))) (100 + 4 * q1) 7)))) (100 + 4 * q1) 8)))) ((100 + 4 * q1 + 1))) (zar ((zP ((zP ((zP S ((100 + 4 * q0)) 6 ((zsc S (100 + 4 * q1) 6)))) ((100 + 4 * q0)) 7 ((zsc ((zP S ((100 + 4 * q0)) 6 ((zsc S (100 + 4 * q1) 6)))) (100 + 4 * q1) 7)))) ((100 + 4 * q0)) 8 ((zsc ((zP ((zP S ((100 + 4 * q0)) 6 ((zsc S (100 + 4 * q1) 6)))) ((100 + 4 * q0)) 7 ((zsc ((zP S ((100 + 4 * q0)) 6 ((zsc S (100 + 4 * q1) 6)))) (100 + 4 * q1) 7)))) (100 + 4 * q1) 8)))) ((100 + 4 * q0 + 1))) (Int32.toNatClampNeg 0) (Int32.toNatClampNeg 0) (Int32.toNatClampNeg ((Int32.ofNat 48)))))) ((100 + 4 * q0 + 2)) (va_cpy (zar ((zA ((zP ((zP ((zP S ((100 + 4 * q0)) 6 ((zsc S (100 + 4 * q1) 6)))) ((100 + 4 * q0)) 7 ((zsc ((zP S ((100 + 4 * q0)) 6 ((zsc S (100 + 4 * q1) 6)))) (100 + 4 * q1) 7)))) ((100 + 4 * q0)) 8 ((zsc ((zP ((zP S ((100 + 4 * q0)) 6 ((zsc S (100 + 4 * q1) 6)))) ((100 + 4 * q0)) 7 ((zsc ((zP S ((100 + 4 * q0)) 6 ((zsc S (100 + 4 * q1) 6)))) (100 + 4 * q1) 7)))) (100 + 4 * q1) 8)))) ((100 + 4 * q0 + 1)) (va_cpy (zar ((zP ((zP ((zP S ((100 + 4 * q0)) 6 ((zsc S (100 + 4 * q1) 6)))) ((100 + 4 * q0)) 7 ((zsc ((zP S ((100 + 4 * q0)) 6 ((zsc S (100 + 4 * q1) 6)))) (100 + 4 * q1) 7)))) ((100 + 4 * q0)) 8 ((zsc ((zP ((zP S ((100 + 4 * q0)) 6 ((zsc S (100 + 4 * q1) 6)))) ((100 + 4 * q0)) 7 ((zsc ((zP S ((100 + 4 * q0)) 6 ((zsc S (100 + 4 * q1) 6)))) (100 + 4 * q1) 7)))) (100 + 4 * q1) 8)))) ((100 + 4 * q1 + 1))) (zar ((zP ((zP ((zP S ((100 + 4 * q0)) 6 ((zsc S (100 + 4 * q1) 6)))) ((100 + 4 * q0)) 7 ((zsc ((zP S ((100 + 4 * q0)) 6 ((zsc S (100 + 4 * q1) 6)))) (100 + 4 * q1) 7)))) ((100 + 4 * q0)) 8 ((zsc ((zP ((zP S ((100 + 4 * q0)) 6 ((zsc S (100 + 4 * q1) 6)))) ((100 + 4 * q0)) 7 ((zsc ((zP S ((100 + 4 * q0)) 6 ((zsc S (100 + 4 * q1) 6)))) (100 + 4 * q1) 7)))) (100 + 4 * q1) 8)))) ((100 + 4 * q0 + 1))) (Int32.toNatClampNeg 0) (Int32.toNatClampNeg 0) (Int32.toNatClampNeg ((Int32.ofNat 48)))))) ((100 + 4 * q1 + 2))) (zar ((zA ((zP ((zP ((zP S ((100 + 4 * q0)) 6 ((zsc S (100 + 4 * q1) 6)))) ((100 + 4 * q0)) 7 ((zsc ((zP S ((100 + 4 * q0)) 6 ((zsc S (100 + 4 * q1) 6)))) (100 + 4 * q1) 7)))) ((100 + 4 * q0)) 8 ((zsc ((zP ((zP S ((100 + 4 * q0)) 6 ((zsc S (100 + 4 * q1) 6)))) ((100 + 4 * q0)) 7 ((zsc ((zP S ((100 + 4 * q0)) 6 ((zsc S (100 + 4 * q1) 6)))) (100 + 4 * q1) 7)))) (100 + 4 * q1) 8)))) ((100 + 4 * q0 + 1)) (va_cpy (zar ((zP ((zP ((zP S ((100 + 4 * q0)) 6 ((zsc S (100 + 4 * q1) 6)))) ((100 + 4 * q0)) 7 ((zsc ((zP S ((100 + 4 * q0)) 6 ((zsc S (100 + 4 * q1) 6)))) (100 + 4 * q1) 7)))) ((100 + 4 * q0)) 8 ((zsc ((zP ((zP S ((100 + 4 * q0)) 6 ((zsc S (100 + 4 * q1) 6)))) ((100 + 4 * q0)) 7 ((zsc ((zP S ((100 + 4 * q0)) 6 ((zsc S (100 + 4 * q1) 6)))) (100 + 4 * q1) 7)))) (100 + 4 * q1) 8)))) ((100 + 4 * q1 + 1))) (zar ((zP ((zP ((zP S ((100 + 4 * q0)) 6 ((zsc S (100 + 4 * q1) 6)))) ((100 + 4 * q0)) 7 ((zsc ((zP S ((100 + 4 * q0)) 6 ((zsc S (100 + 4 * q1) 6)))) (100 + 4 * q1) 7)))) ((100 + 4 * q0)) 8 ((zsc ((zP ((zP S ((100 + 4 * q0)) 6 ((zsc S (100 + 4 * q1) 6)))) ((100 + 4 * q0)) 7 ((zsc ((zP S ((100 + 4 * q0)) 6 ((zsc S (100 + 4 * q1) 6)))) (100 + 4 * q1) 7)))) (100 + 4 * q1) 8)))) ((100 + 4 * q0 + 1))) (Int32.toNatClampNeg 0) (Int32.toNatClampNeg 0) (Int32.toNatClampNeg ((Int32.ofNat 48)))))) ((100 + 4 * q0 + 2))) (Int32.toNatClampNeg 0) (Int32.toNatClampNeg 0) (Int32.toNatClampNeg ((Int32.ofNat 6)))))) ((100 + 4 * q0 + 3)) (va_cpy (zar ((zA ((zA ((zP ((zP ((zP S ((100 + 4 * q0)) 6 ((zsc S (100 + 4 * q1) 6)))) ((100 + 4 * q0)) 7 ((zsc ((zP S ((100 + 4 * q0)) 6 ((zsc S (100 + 4 * q1) 6)))) (100 + 4 * q1) 7)))) ((100 + 4 * q0)) 8 ((zsc ((zP ((zP S ((100 + 4 * q0)) 6 ((zsc S (100 + 4 * q1) 6)))) ((100 + 4 * q0)) 7 ((zsc ((zP S ((100 + 4 * q0)) 6 ((zsc S (100 + 4 * q1) 6)))) (100 + 4 * q1) 7)))) (100 + 4 * q1) 8)))) ((100 + 4 * q0 + 1)) (va_cpy (zar ((zP ((zP ((zP S ((100 + 4 * q0)) 6 ((zsc S (100 + 4 * q1) 6)))) ((100 + 4 * q0)) 7 ((zsc ((zP S ((100 + 4 * q0)) 6 ((zsc S (100 + 4 * q1) 6)))) (100 + 4 * q1) 7)))) ((100 + 4 * q0)) 8 ((zsc ((zP ((zP S ((100 + 4 * q0)) 6 ((zsc S (100 + 4 * q1) 6)))) ((100 + 4 * q0)) 7 ((zsc ((zP S ((100 + 4 * q0)) 6 ((zsc S (100 + 4 * q1) 6)))) (100 + 4 * q1) 7)))) (100 + 4 * q1) 8)))) ((100 + 4 * q1 + 1))) (zar ((zP ((zP ((zP S ((100 + 4 * q0)) 6 ((zsc S (100 + 4 * q1) 6)))) ((100 + 4 * q0)) 7 ((zsc ((zP S ((100 + 4 * q0)) 6 ((zsc S (100 + 4 * q1) 6)))) (100 + 4 * q1) 7)))) ((100 + 4 * q0)) 8 ((zsc ((zP ((zP S ((100 + 4 * q0)) 6 ((zsc S (100 + 4 * q1) 6)))) ((100 + 4 * q0)) 7 ((zsc ((zP S ((100 + 4 * q0)) 6 ((zsc S (100 + 4 * q1) 6)))) (100 + 4 * q1) 7)))) (100 + 4 * q1) 8)))) ((100 + 4 * q0 + 1))) (Int32.toNatClampNeg 0) (Int32.toNatClampNeg 0) (Int32.toNatClampNeg ((Int32.ofNat 48)))))) ((100 + 4 * q0 + 2)) (va_cpy (zar ((zA ((zP ((zP ((zP S ((100 + 4 * q0)) 6 ((zsc S (100 + 4 * q1) 6)))) ((100 + 4 * q0)) 7 ((zsc ((zP S ((100 + 4 * q0)) 6 ((zsc S (100 + 4 * q1) 6)))) (100 + 4 * q1) 7)))) ((100 + 4 * q0)) 8 ((zsc ((zP ((zP S ((100 + 4 * q0)) 6 ((zsc S (100 + 4 * q1) 6)))) ((100 + 4 * q0)) 7 ((zsc ((zP S ((100 + 4 * q0)) 6 ((zsc S (100 + 4 * q1) 6)))) (100 + 4 * q1) 7)))) (100 + 4 * q1) 8)))) ((100 + 4 * q0 + 1)) (va_cpy (zar ((zP ((zP ((zP S ((100 + 4 * q0)) 6 ((zsc S (100 + 4 * q1) 6)))) ((100 + 4 * q0)) 7 ((zsc ((zP S ((100 + 4 * q0)) 6 ((zsc S (100 + 4 * q1) 6)))) (100 + 4 * q1) 7)))) ((100 + 4 * q0)) 8 ((zsc ((zP ((zP S ((100 + 4 * q0)) 6 ((zsc S (100 + 4 * q1) 6)))) ((100 + 4 * q0)) 7 ((zsc ((zP S ((100 + 4 * q0)) 6 ((zsc S (100 + 4 * q1) 6)))) (100 + 4 * q1) 7)))) (100 + 4 * q1) 8)))) ((100 + 4 * q1 + 1))) (zar ((zP ((zP ((zP S ((100 + 4 * q0)) 6 ((zsc S (100 + 4 * q1) 6)))) ((100 + 4 * q0)) 7 ((zsc ((zP S ((100 + 4 * q0)) 6 ((zsc S (100 + 4 * q1) 6)))) (100 + 4 * q1) 7)))) ((100 + 4 * q0)) 8 ((zsc ((zP ((zP S ((100 + 4 * q0)) 6 ((zsc S (100 + 4 * q1) 6)))) ((100 + 4 * q0)) 7 ((zsc ((zP S ((100 + 4 * q0)) 6 ((zsc S (100 + 4 * q1) 6)))) (100 + 4 * q1) 7)))) (100 + 4 * q1) 8)))) ((100 + 4 * q0 + 1))) (Int32.toNatClampNeg 0) (Int32.toNatClampNeg 0) (Int32.toNatClampNeg ((Int32.ofNat 48)))))) ((100 + 4 * q1 + 2))) (zar ((zA ((zP ((zP ((zP S ((100 + 4 * q0)) 6 ((zsc S (100 + 4 * q1) 6)))) ((100 + 4 * q0)) 7 ((zsc ((zP S ((100 + 4 * q0)) 6 ((zsc S (100 + 4 * q1) 6)))) (100 + 4 * q1) 7)))) ((100 + 4 * q0)) 8 ((zsc ((zP ((zP S ((100 + 4 * q0)) 6 ((zsc S (100 + 4 * q1) 6)))) ((100 + 4 * q0)) 7 ((zsc ((zP S ((100 + 4 * q0)) 6 ((zsc S (100 + 4 * q1) 6)))) (100 + 4 * q1) 7)))) (100 + 4 * q1) 8)))) ((100 + 4 * q0 + 1)) (va_cpy (zar ((zP ((zP ((zP S ((100 + 4 * q0)) 6 ((zsc S (100 + 4 * q1) 6)))) ((100 + 4 * q0)) 7 ((zsc ((zP S ((100 + 4 * q0)) 6 ((zsc S (100 + 4 * q1) 6)))) (100 + 4 * q1) 7)))) ((100 + 4 * q0)) 8 ((zsc ((zP ((zP S ((100 + 4 * q0)) 6 ((zsc S (100 + 4 * q1) 6)))) ((100 + 4 * q0)) 7 ((zsc ((zP S ((100 + 4 * q0)) 6 ((zsc S (100 + 4 * q1) 6)))) (100 + 4 * q1) 7)))) (100 + 4 * q1) 8)))) ((100 + 4 * q1 + 1))) (zar ((zP ((zP ((zP S ((100 + 4 * q0)) 6 ((zsc S (100 + 4 * q1) 6)))) ((100 + 4 * q0)) 7 ((zsc ((zP S ((100 + 4 * q0)) 6 ((zsc S (100 + 4 * q1) 6)))) (100 + 4 * q1) 7)))) ((100 + 4 * q0)) 8 ((zsc ((zP ((zP S ((100 + 4 * q0)) 6 ((zsc S (100 + 4 * q1) 6)))) ((100 + 4 * q0)) 7 ((zsc ((zP S ((100 + 4 * q0)) 6 ((zsc S (100 + 4 * q1) 6)))) (100 + 4 * q1) 7)))) (100 + 4 * q1) 8)))) ((100 + 4 * q0 + 1))) (Int32.toNatClampNeg 0) (Int32.toNatClampNeg 0) (Int32.toNatClampNeg ((Int32.ofNat 48)))))) ((100 + 4 * q0 + 2))) (Int32.toNatClampNeg 0) (Int32.toNatClampNeg 0) (Int32.toNatClampNeg ((Int32.ofNat 6)))))) ((100 + 4 * q1 + 3))) (zar ((zA ((zA ((zP ((zP ((zP S ((100 + 4 * q0)) 6 ((zsc S (100 + 4 * q1) 6)))) ((100 + 4 * q0)) 7 ((zsc ((zP S ((100 + 4 * q0)) 6 ((zsc S (100 + 4 * q1) 6)))) (100 + 4 * q1) 7)))) ((100 + 4 * q0)) 8 ((zsc ((zP ((zP S ((100 + 4 * q0)) 6 ((zsc S (100 + 4 * q1) 6)))) ((100 + 4 * q0)) 7 ((zsc ((zP S ((100 + 4 * q0)) 6 ((zsc S (100 + 4 * q1) 6)))) (100 + 4 * q1) 7)))) (100 + 4 * q1) 8)))) ((100 + 4 * q0 + 1)) (va_cpy (zar ((zP ((zP ((zP S ((100 + 4 * q0)) 6 ((zsc S (100 + 4 * q1) 6)))) ((100 + 4 * q0)) 7 ((zsc ((zP S ((100 + 4 * q0)) 6 ((zsc S (100 + 4 * q1) 6)))) (100 + 4 * q1) 7)))) ((100 + 4 * q0)) 8 ((zsc ((zP ((zP S ((100 + 4 * q0)) 6 ((zsc S (100 + 4 * q1) 6)))) ((100 + 4 * q0)) 7 ((zsc ((zP S ((100 + 4 * q0)) 6 ((zsc S (100 + 4 * q1) 6)))) (100 + 4 * q1) 7)))) (100 + 4 * q1) 8)))) ((100 + 4 * q1 + 1))) (zar ((zP ((zP ((zP S ((100 + 4 * q0)) 6 ((zsc S (100 + 4 * q1) 6)))) ((100 + 4 * q0)) 7 ((zsc ((zP S ((100 + 4 * q0)) 6 ((zsc S (100 + 4 * q1) 6)))) (100 + 4 * q1) 7)))) ((100 + 4 * q0)) 8 ((zsc ((zP ((zP S ((100 + 4 * q0)) 6 ((zsc S (100 + 4 * q1) 6)))) ((100 + 4 * q0)) 7 ((zsc ((zP S ((100 + 4 * q0)) 6 ((zsc S (100 + 4 * q1) 6)))) (100 + 4 * q1) 7)))) (100 + 4 * q1) 8)))) ((100 + 4 * q0 + 1))) (Int32.toNatClampNeg 0) (Int32.toNatClampNeg 0) (Int32.toNatClampNeg ((Int32.ofNat 48)))))) ((100 + 4 * q0 + 2)) (va_cpy (zar ((zA ((zP ((zP ((zP S ((100 + 4 * q0)) 6 ((zsc S (100 + 4 * q1) 6)))) ((100 + 4 * q0)) 7 ((zsc ((zP S ((100 + 4 * q0)) 6 ((zsc S (100 + 4 * q1) 6)))) (100 + 4 * q1) 7)))) ((100 + 4 * q0)) 8 ((zsc ((zP ((zP S ((100 + 4 * q0)) 6 ((zsc S (100 + 4 * q1) 6)))) ((100 + 4 * q0)) 7 ((zsc ((zP S ((100 + 4 * q0)) 6 ((zsc S (100 + 4 * q1) 6)))) (100 + 4 * q1) 7)))) (100 + 4 * q1) 8)))) ((100 + 4 * q0 + 1)) (va_cpy (zar ((zP ((zP ((zP S ((100 + 4 * q0)) 6 ((zsc S (100 + 4 * q1) 6)))) ((100 + 4 * q0)) 7 ((zsc ((zP S ((100 + 4 * q0)) 6 ((zsc S (100 + 4 * q1) 6)))) (100 + 4 * q1) 7)))) ((100 + 4 * q0)) 8 ((zsc ((zP ((zP S ((100 + 4 * q0)) 6 ((zsc S (100 + 4 * q1) 6)))) ((100 + 4 * q0)) 7 ((zsc ((zP S ((100 + 4 * q0)) 6 ((zsc S (100 + 4 * q1) 6)))) (100 + 4 * q1) 7)))) (100 + 4 * q1) 8)))) ((100 + 4 * q1 + 1))) (zar ((zP ((zP ((zP S ((100 + 4 * q0)) 6 ((zsc S (100 + 4 * q1) 6)))) ((100 + 4 * q0)) 7 ((zsc ((zP S ((100 + 4 * q0)) 6 ((zsc S (100 + 4 * q1) 6)))) (100 + 4 * q1) 7)))) ((100 + 4 * q0)) 8 ((zsc ((zP ((zP S ((100 + 4 * q0)) 6 ((zsc S (100 + 4 * q1) 6)))) ((100 + 4 * q0)) 7 ((zsc ((zP S ((100 + 4 * q0)) 6 ((zsc S (100 + 4 * q1) 6)))) (100 + 4 * q1) 7)))) (100 + 4 * q1) 8)))) ((100 + 4 * q0 + 1))) (Int32.toNatClampNeg 0) (Int32.toNatClampNeg 0) (Int32.toNatClampNeg ((Int32.ofNat 48)))))) ((100 + 4 * q1 + 2))) (zar ((zA ((zP ((zP ((zP S ((100 + 4 * q0)) 6 ((zsc S (100 + 4 * q1) 6)))) ((100 + 4 * q0)) 7 ((zsc ((zP S ((100 + 4 * q0)) 6 ((zsc S (100 + 4 * q1) 6)))) (100 + 4 * q1) 7)))) ((100 + 4 * q0)) 8 ((zsc ((zP ((zP S ((100 + 4 * q0)) 6 ((zsc S (100 + 4 * q1) 6)))) ((100 + 4 * q0)) 7 ((zsc ((zP S ((100 + 4 * q0)) 6 ((zsc S (100 + 4 * q1) 6)))) (100 + 4 * q1) 7)))) (100 + 4 * q1) 8)))) ((100 + 4 * q0 + 1)) (va_cpy (zar ((zP ((zP ((zP S ((100 + 4 * q0)) 6 ((zsc S (100 + 4 * q1) 6)))) ((100 + 4 * q0)) 7 ((zsc ((zP S ((100 + 4 * q0)) 6 ((zsc S (100 + 4 * q1) 6)))) (100 + 4 * q1) 7)))) ((100 + 4 * q0)) 8 ((zsc ((zP ((zP S ((100 + 4 * q0)) 6 ((zsc S (100 + 4 * q1) 6)))) ((100 + 4 * q0)) 7 ((zsc ((zP S ((100 + 4 * q0)) 6 ((zsc S (100 + 4 * q1) 6)))) (100 + 4 * q1) 7)))) (100 + 4 * q1) 8)))) ((100 + 4 * q1 + 1))) (zar ((zP ((zP ((zP S ((100 + 4 * q0)) 6 ((zsc S (100 + 4 * q1) 6)))) ((100 + 4 * q0)) 7 ((zsc ((zP S ((100 + 4 * q0)) 6 ((zsc S (100 + 4 * q1) 6)))) (100 + 4 * q1) 7)))) ((100 + 4 * q0)) 8 ((zsc ((zP ((zP S ((100 + 4 * q0)) 6 ((zsc S (100 + 4 * q1) 6)))) ((100 + 4 * q0)) 7 ((zsc ((zP S ((100 + 4 * q0)) 6 ((zsc S (100 + 4 * q1) 6)))) (100 + 4 * q1) 7)))) (100 + 4 * q1) 8)))) ((100 + 4 * q0 + 1))) (Int32.toNatClampNeg 0) (Int32.toNatClampNeg 0) (Int32.toNatClampNeg ((Int32.ofNat 48)))))) ((100 + 4 * q0 + 2))) (Int32.toNatClampNeg 0) (Int32.toNatClampNeg 0) (Int32.toNatClampNeg ((Int32.ofNat 6)))))) ((100 + 4 * q0 + 3))) (Int32.toNatClampNeg 0) (Int32.toNatClampNeg 0) (Int32.toNatClampNeg ((Int32.ofNat 6)))))))))
set_option maxHeartbeats 4000000 in
set_option maxRecDepth 100000 in
theorem c_X5_takeFrom (l : Launch) (D : va_G) (Y : Nat → ClassId) (F : Nat → Nat) (G : zG) (S : zSt) (sz : Nat) (q0 : Nat) (q1 : Nat) (hq0 : zOKb (zpk G) q0 = true) (hq1 : zOKb (zpk G) q1 = true) (res : zSt) (h : M_X5_takeFrom (zpk G) S q0 q1 = some res) : Met l yX5_takeFrom wsX5_takeFrom (zRm 1 60) (zPc D Y F G S sz [.ref (zad F G (100 + 4 * q0)), .ref (zad F G (100 + 4 * q1))]) (zQv D Y F (zAo F G sz) G res) 0 0 (zAo F G sz) := by
  unfold M_X5_takeFrom at h
  refine zMet (cc := cX5_takeFrom) (maxL := 2) (ret := none) (own := RX5) (by decide +kernel) rfl rfl (Nat.le_of_ble_eq_true rfl) ?_
  intro p e s m args below meth c C0 hin hw hS ls hl
  have hl : lv_has ls 2 [(0, .ref (zad F G (100 + 4 * q0))), (1, .ref (zad F G (100 + 4 * q1)))] := hl
  generalize zAo F G sz = A at C0 hw hS ⊢
  obtain ⟨hx, hb, hml, hr, hown, hts, hK, hA, hlk, hN⟩ := id C0
  refine lv_aload_n hx hb dX5_takeFrom_0 rfl (lv_at hl 0 rfl) ?_
  refine lv_aload_n hx hb dX5_takeFrom_1 rfl (lv_at hl 1 rfl) ?_
  refine z_getP C0 inP_X5_takeFrom hw hq1 6 (by decide) (v := .int ((zsc S (100 + 4 * q1) 6))) rfl 1 rfl (Or.inl rfl) dX5_takeFrom_2 ?_
  refine z_putP C0 inP_X5_takeFrom hw hS hq0 6 (by decide) 1 rfl rfl (v := (zsc S (100 + 4 * q1) 6)) dX5_takeFrom_5 (fun H locs hw hS => ?_)
  refine lv_aload_n hx hb dX5_takeFrom_8 rfl (lv_at hl 0 rfl) ?_
  refine lv_aload_n hx hb dX5_takeFrom_9 rfl (lv_at hl 1 rfl) ?_
  refine z_getP C0 inP_X5_takeFrom hw hq1 7 (by decide) (v := .int ((zsc ((zP S ((100 + 4 * q0)) 6 ((zsc S (100 + 4 * q1) 6)))) (100 + 4 * q1) 7))) rfl 2 rfl (Or.inl rfl) dX5_takeFrom_10 ?_
  refine z_putP C0 inP_X5_takeFrom hw hS hq0 7 (by decide) 2 rfl rfl (v := (zsc ((zP S ((100 + 4 * q0)) 6 ((zsc S (100 + 4 * q1) 6)))) (100 + 4 * q1) 7)) dX5_takeFrom_13 (fun H locs hw hS => ?_)
  refine lv_aload_n hx hb dX5_takeFrom_16 rfl (lv_at hl 0 rfl) ?_
  refine lv_aload_n hx hb dX5_takeFrom_17 rfl (lv_at hl 1 rfl) ?_
  refine z_getP C0 inP_X5_takeFrom hw hq1 8 (by decide) (v := .int ((zsc ((zP ((zP S ((100 + 4 * q0)) 6 ((zsc S (100 + 4 * q1) 6)))) ((100 + 4 * q0)) 7 ((zsc ((zP S ((100 + 4 * q0)) 6 ((zsc S (100 + 4 * q1) 6)))) (100 + 4 * q1) 7)))) (100 + 4 * q1) 8))) rfl 3 rfl (Or.inl rfl) dX5_takeFrom_18 ?_
  refine z_putP C0 inP_X5_takeFrom hw hS hq0 8 (by decide) 3 rfl rfl (v := (zsc ((zP ((zP S ((100 + 4 * q0)) 6 ((zsc S (100 + 4 * q1) 6)))) ((100 + 4 * q0)) 7 ((zsc ((zP S ((100 + 4 * q0)) 6 ((zsc S (100 + 4 * q1) 6)))) (100 + 4 * q1) 7)))) (100 + 4 * q1) 8)) dX5_takeFrom_21 (fun H locs hw hS => ?_)
  refine lv_aload_n hx hb dX5_takeFrom_24 rfl (lv_at hl 1 rfl) ?_
  refine z_getP C0 inP_X5_takeFrom hw hq1 3 (by decide) (v := .ref (zad F G (100 + 4 * q1 + 1))) rfl 4 rfl (Or.inl rfl) dX5_takeFrom_25 ?_
  refine lv_iconst (v := 0) hx hb dX5_takeFrom_28 (by decide) ?_
  refine lv_aload_n hx hb dX5_takeFrom_29 rfl (lv_at hl 0 rfl) ?_
  refine z_getP C0 inP_X5_takeFrom hw hq0 3 (by decide) (v := .ref (zad F G (100 + 4 * q0 + 1))) rfl 4 rfl (Or.inl rfl) dX5_takeFrom_30 ?_
  refine lv_iconst (v := 0) hx hb dX5_takeFrom_33 (by decide) ?_
  refine lv_aload_n hx hb dX5_takeFrom_34 rfl (lv_at hl 0 rfl) ?_
  refine z_getP C0 inP_X5_takeFrom hw hq0 3 (by decide) (v := .ref (zad F G (100 + 4 * q0 + 1))) rfl 4 rfl (Or.inl rfl) dX5_takeFrom_35 ?_
  refine z_alen C0 hw ((100 + 4 * q0 + 1)) (zOK_E hq0 1 (by decide)) rfl (zPR1 q0) (v := Int32.ofNat 48) rfl dX5_takeFrom_38 ?_
  obtain ⟨b1, h⟩ := z_gd h
  refine z_copyi C0 hw hS hl.1 5 6 7 8 rfl rfl rfl rfl ((100 + 4 * q1 + 1)) ((100 + 4 * q0 + 1)) (zOK_E hq1 1 (by decide)) (zPR1 q1) (zOK_E hq0 1 (by decide)) (zPR1 q0) rfl rfl b1 (Nat.le_of_ble_eq_true rfl) (by decide +kernel) dX5_takeFrom_39 (fun H locs hw hS => ?_)
  refine lv_aload_n hx hb dX5_takeFrom_42 rfl (lv_at hl 1 rfl) ?_
  refine z_getP C0 inP_X5_takeFrom hw hq1 4 (by decide) (v := .ref (zad F G (100 + 4 * q1 + 2))) rfl 9 rfl (Or.inl rfl) dX5_takeFrom_43 ?_
  refine lv_iconst (v := 0) hx hb dX5_takeFrom_46 (by decide) ?_
  refine lv_aload_n hx hb dX5_takeFrom_47 rfl (lv_at hl 0 rfl) ?_
  refine z_getP C0 inP_X5_takeFrom hw hq0 4 (by decide) (v := .ref (zad F G (100 + 4 * q0 + 2))) rfl 9 rfl (Or.inl rfl) dX5_takeFrom_48 ?_
  refine lv_iconst (v := 0) hx hb dX5_takeFrom_51 (by decide) ?_
  refine lv_aload_n hx hb dX5_takeFrom_52 rfl (lv_at hl 0 rfl) ?_
  refine z_getP C0 inP_X5_takeFrom hw hq0 4 (by decide) (v := .ref (zad F G (100 + 4 * q0 + 2))) rfl 9 rfl (Or.inl rfl) dX5_takeFrom_53 ?_
  refine z_alen C0 hw ((100 + 4 * q0 + 2)) (zOK_E hq0 2 (by decide)) rfl (zPR2 q0) (v := Int32.ofNat 6) rfl dX5_takeFrom_56 ?_
  obtain ⟨b2, h⟩ := z_gd h
  refine z_copyi C0 hw hS hl.1 5 6 7 8 rfl rfl rfl rfl ((100 + 4 * q1 + 2)) ((100 + 4 * q0 + 2)) (zOK_E hq1 2 (by decide)) (zPR2 q1) (zOK_E hq0 2 (by decide)) (zPR2 q0) rfl rfl b2 (Nat.le_of_ble_eq_true rfl) (by decide +kernel) dX5_takeFrom_57 (fun H locs hw hS => ?_)
  refine lv_aload_n hx hb dX5_takeFrom_60 rfl (lv_at hl 1 rfl) ?_
  refine z_getP C0 inP_X5_takeFrom hw hq1 5 (by decide) (v := .ref (zad F G (100 + 4 * q1 + 3))) rfl 10 rfl (Or.inl rfl) dX5_takeFrom_61 ?_
  refine lv_iconst (v := 0) hx hb dX5_takeFrom_64 (by decide) ?_
  refine lv_aload_n hx hb dX5_takeFrom_65 rfl (lv_at hl 0 rfl) ?_
  refine z_getP C0 inP_X5_takeFrom hw hq0 5 (by decide) (v := .ref (zad F G (100 + 4 * q0 + 3))) rfl 10 rfl (Or.inl rfl) dX5_takeFrom_66 ?_
  refine lv_iconst (v := 0) hx hb dX5_takeFrom_69 (by decide) ?_
  refine lv_aload_n hx hb dX5_takeFrom_70 rfl (lv_at hl 0 rfl) ?_
  refine z_getP C0 inP_X5_takeFrom hw hq0 5 (by decide) (v := .ref (zad F G (100 + 4 * q0 + 3))) rfl 10 rfl (Or.inl rfl) dX5_takeFrom_71 ?_
  refine z_alen C0 hw ((100 + 4 * q0 + 3)) (zOK_E hq0 3 (by decide)) rfl (zPR3 q0) (v := Int32.ofNat 6) rfl dX5_takeFrom_74 ?_
  obtain ⟨b3, h⟩ := z_gd h
  refine z_copyi C0 hw hS hl.1 5 6 7 8 rfl rfl rfl rfl ((100 + 4 * q1 + 3)) ((100 + 4 * q0 + 3)) (zOK_E hq1 3 (by decide)) (zPR3 q1) (zOK_E hq0 3 (by decide)) (zPR3 q0) rfl rfl b3 (Nat.le_of_ble_eq_true rfl) (by decide +kernel) dX5_takeFrom_75 (fun H locs hw hS => ?_)
  exact z_retv C0 hw hS (Option.some.inj h) dX5_takeFrom_78
def M_X5_lossAt (pk : Nat → Nat) (S : zSt) (q0 : Nat) (x1 : Int32) : Option (Int32) :=
  some ((zsc S (100 + 4 * q0) 7))
set_option maxHeartbeats 4000000 in
set_option maxRecDepth 100000 in
theorem c_X5_lossAt (l : Launch) (D : va_G) (Y : Nat → ClassId) (F : Nat → Nat) (G : zG) (S : zSt) (sz : Nat) (q0 : Nat) (hq0 : zOKb (zpk G) q0 = true) (x1 : Int32) (res : Int32) (h : M_X5_lossAt (zpk G) S q0 x1 = some res) : Met l yX5_lossAt wsX5_lossAt (zRm 0 0) (zPc D Y F G S sz [.ref (zad F G (100 + 4 * q0)), .int x1]) (zQi D Y F (zAo F G sz) G (res, S)) 0 0 (zAo F G sz) := by
  unfold M_X5_lossAt at h
  refine zMet (cc := cX5_lossAt) (maxL := 2) (ret := (some .int)) (own := RX5) (by decide +kernel) rfl rfl (Nat.le_of_ble_eq_true rfl) ?_
  intro p e s m args below meth c C0 hin hw hS ls hl
  have hl : lv_has ls 2 [(0, .ref (zad F G (100 + 4 * q0))), (1, .int x1)] := hl
  generalize zAo F G sz = A at C0 hw hS ⊢
  obtain ⟨hx, hb, hml, hr, hown, hts, hK, hA, hlk, hN⟩ := id C0
  refine lv_aload_n hx hb dX5_lossAt_0 rfl (lv_at hl 0 rfl) ?_
  refine z_getP C0 inP_X5_lossAt hw hq0 7 (by decide) (v := .int ((zsc S (100 + 4 * q0) 7))) rfl 1 rfl (Or.inl rfl) dX5_lossAt_1 ?_
  exact z_reti C0 hw hS (congrArg (fun z => (z, S)) (Option.some.inj h)) dX5_lossAt_4
def M_X5_driftOver (pk : Nat → Nat) (S : zSt) (q0 : Nat) (x1 : Int32) : Option (Int32) :=
  some x1
set_option maxHeartbeats 4000000 in
set_option maxRecDepth 100000 in
theorem c_X5_driftOver (l : Launch) (D : va_G) (Y : Nat → ClassId) (F : Nat → Nat) (G : zG) (S : zSt) (sz : Nat) (q0 : Nat) (hq0 : zOKb (zpk G) q0 = true) (x1 : Int32) (res : Int32) (h : M_X5_driftOver (zpk G) S q0 x1 = some res) : Met l yX5_driftOver wsX5_driftOver (zRm 0 0) (zPc D Y F G S sz [.ref (zad F G (100 + 4 * q0)), .int x1]) (zQi D Y F (zAo F G sz) G (res, S)) 0 0 (zAo F G sz) := by
  unfold M_X5_driftOver at h
  refine zMet (cc := cX5_driftOver) (maxL := 2) (ret := (some .int)) (own := RX5) (by decide +kernel) rfl rfl (Nat.le_of_ble_eq_true rfl) ?_
  intro p e s m args below meth c C0 hin hw hS ls hl
  have hl : lv_has ls 2 [(0, .ref (zad F G (100 + 4 * q0))), (1, .int x1)] := hl
  generalize zAo F G sz = A at C0 hw hS ⊢
  obtain ⟨hx, hb, hml, hr, hown, hts, hK, hA, hlk, hN⟩ := id C0
  refine lv_iload_n hx hb dX5_driftOver_0 rfl (lv_at hl 1 rfl) ?_
  exact z_reti C0 hw hS (congrArg (fun z => (z, S)) (Option.some.inj h)) dX5_driftOver_1
def M_X5_lives (pk : Nat → Nat) (S : zSt) (q0 : Nat) (x1 : Int32) : Option (Int32 × zSt) :=
  Option.bind (M_X9_began pk S 10) (fun w1 => some ((x1 + (zsc w1 (100 + 4 * q0) 1)), w1))
set_option maxHeartbeats 4000000 in
set_option maxRecDepth 100000 in
theorem c_X5_lives (l : Launch) (D : va_G) (Y : Nat → ClassId) (F : Nat → Nat) (G : zG) (S : zSt) (sz : Nat) (q0 : Nat) (hq0 : zOKb (zpk G) q0 = true) (x1 : Int32) (res : Int32 × zSt) (h : M_X5_lives (zpk G) S q0 x1 = some res) : Met l yX5_lives wsX5_lives (zRm 1 21) (zPc D Y F G S sz [.ref (zad F G (100 + 4 * q0)), .int x1]) (zQi D Y F (zAo F G sz) G res) 0 0 (zAo F G sz) := by
  unfold M_X5_lives at h
  refine zMet (cc := cX5_lives) (maxL := 2) (ret := (some .int)) (own := RX5) (by decide +kernel) rfl rfl (Nat.le_of_ble_eq_true rfl) ?_
  intro p e s m args below meth c C0 hin hw hS ls hl
  have hl : lv_has ls 2 [(0, .ref (zad F G (100 + 4 * q0))), (1, .int x1)] := hl
  generalize zAo F G sz = A at C0 hw hS ⊢
  obtain ⟨hx, hb, hml, hr, hown, hts, hK, hA, hlk, hN⟩ := id C0
  refine lv_aload_n hx hb dX5_lives_0 rfl (lv_at hl 0 rfl) ?_
  refine z_getP C0 inP_X5_lives hw hq0 2 (by decide) (v := .ref (F 56)) rfl 1 rfl (Or.inl rfl) dX5_lives_1 ?_
  refine lv_bipush (v := 10) hx hb dX5_lives_4 (by decide) ?_
  obtain ⟨w1, ew1, h⟩ := z_bd h
  refine z_gov C0 hw hS (res := w1) (rest := []) (arr := (Value.ref (F 56) :: [.int 10]).toArray) ?_ (fun H locs hw hS => ?_)
  · exact va_runV (z_fix C0) (c_X9_began l D Y F G S _ 10 w1 ew1) (cwV 1 hts gX5_lives_X9_began rfl rfl rfl (by decide +kernel) ⟨Nat.le_of_ble_eq_true rfl, Nat.le_of_ble_eq_true rfl⟩) ⟨zPc_blind, z_rv C0 hw (k := 56) rfl rfl rfl rfl, z_give C0 hw hS _⟩ rfl rfl hl.1 rfl (lv_room (Nat.le_of_ble_eq_true rfl)) dX5_lives_6 ⟨Nat.zero_le _, Nat.zero_le _⟩
  refine lv_iload_n hx hb dX5_lives_9 rfl (lv_at hl 1 rfl) ?_
  refine lv_aload_n hx hb dX5_lives_10 rfl (lv_at hl 0 rfl) ?_
  refine z_getP C0 inP_X5_lives hw hq0 1 (by decide) (v := .int ((zsc w1 (100 + 4 * q0) 1))) rfl 2 rfl (Or.inl rfl) dX5_lives_11 ?_
  refine lv_iadd hx hb dX5_lives_14 ?_
  exact z_reti C0 hw hS (Option.some.inj h) dX5_lives_15
def M_X8_lives (pk : Nat → Nat) (S : zSt) (q0 : Nat) (x1 : Int32) : Option (Int32 × zSt) :=
  Option.bind (M_X9_began pk S 20) (fun w1 => Option.bind (M_X5_lives pk w1 q0 x1) (fun w2 => some ((w2.1 + (zsc w2.2 (100 + 4 * q0) 6)), w2.2)))
set_option maxHeartbeats 4000000 in
set_option maxRecDepth 100000 in
theorem c_X8_lives (l : Launch) (D : va_G) (Y : Nat → ClassId) (F : Nat → Nat) (G : zG) (S : zSt) (sz : Nat) (q0 : Nat) (hq0 : zOKb (zpk G) q0 = true) (x1 : Int32) (res : Int32 × zSt) (h : M_X8_lives (zpk G) S q0 x1 = some res) : Met l yX8_lives wsX8_lives (zRm 2 42) (zPc D Y F G S sz [.ref (zad F G (100 + 4 * q0)), .int x1]) (zQi D Y F (zAo F G sz) G res) 0 0 (zAo F G sz) := by
  unfold M_X8_lives at h
  refine zMet (cc := cX8_lives) (maxL := 2) (ret := (some .int)) (own := RX8) (by decide +kernel) rfl rfl (Nat.le_of_ble_eq_true rfl) ?_
  intro p e s m args below meth c C0 hin hw hS ls hl
  have hl : lv_has ls 2 [(0, .ref (zad F G (100 + 4 * q0))), (1, .int x1)] := hl
  generalize zAo F G sz = A at C0 hw hS ⊢
  obtain ⟨hx, hb, hml, hr, hown, hts, hK, hA, hlk, hN⟩ := id C0
  refine lv_aload_n hx hb dX8_lives_0 rfl (lv_at hl 0 rfl) ?_
  refine z_getP C0 inP_X8_lives hw hq0 2 (by decide) (v := .ref (F 56)) rfl 1 rfl (Or.inr ⟨2, rfl⟩) dX8_lives_1 ?_
  refine lv_bipush (v := 20) hx hb dX8_lives_4 (by decide) ?_
  obtain ⟨w1, ew1, h⟩ := z_bd h
  refine z_gov C0 hw hS (res := w1) (rest := []) (arr := (Value.ref (F 56) :: [.int 20]).toArray) ?_ (fun H locs hw hS => ?_)
  · exact va_runV (z_fix C0) (c_X9_began l D Y F G S _ 20 w1 ew1) (cwV 1 hts gX8_lives_X9_began rfl rfl rfl (by decide +kernel) ⟨Nat.le_of_ble_eq_true rfl, Nat.le_of_ble_eq_true rfl⟩) ⟨zPc_blind, z_rv C0 hw (k := 56) rfl rfl rfl rfl, z_give C0 hw hS _⟩ rfl rfl hl.1 rfl (lv_room (Nat.le_of_ble_eq_true rfl)) dX8_lives_6 ⟨Nat.zero_le _, Nat.zero_le _⟩
  refine lv_aload_n hx hb dX8_lives_9 rfl (lv_at hl 0 rfl) ?_
  refine lv_iload_n hx hb dX8_lives_10 rfl (lv_at hl 1 rfl) ?_
  obtain ⟨w2, ew2, h⟩ := z_bd h
  refine z_goi C0 hw hS (res := w2) (rest := []) (arr := (Value.ref (zad F G (100 + 4 * q0)) :: [.int x1]).toArray) ?_ (fun H locs hw hS => ?_)
  · rcases zOK_cases hq0 with zz | zz | zz | zz | zz | zz | zz
    · exact va_runSU (z_pat C0 (ci := 0) rfl) (z_fix C0) (c_X5_lives l D Y F G w1 _ q0 hq0 x1 w2 ew2) (va_cwSU 1 hts gX8_lives_X5_lives_s23 rfl rfl rfl (by decide +kernel) ⟨Nat.le_of_ble_eq_true rfl, Nat.le_of_ble_eq_true rfl⟩) ⟨zPc_blind, z_prec C0 hw hq0 (ci := 0) zz rfl, z_give C0 hw hS _⟩ rfl rfl hl.1 rfl (lv_room (Nat.le_of_ble_eq_true rfl)) dX8_lives_11 ⟨Nat.zero_le _, Nat.zero_le _⟩
    · exact va_runSU (z_pat C0 (ci := 1) rfl) (z_fix C0) (c_X5_lives l D Y F G w1 _ q0 hq0 x1 w2 ew2) (va_cwSU 1 hts gX8_lives_X5_lives_s23 rfl rfl rfl (by decide +kernel) ⟨Nat.le_of_ble_eq_true rfl, Nat.le_of_ble_eq_true rfl⟩) ⟨zPc_blind, z_prec C0 hw hq0 (ci := 1) zz rfl, z_give C0 hw hS _⟩ rfl rfl hl.1 rfl (lv_room (Nat.le_of_ble_eq_true rfl)) dX8_lives_11 ⟨Nat.zero_le _, Nat.zero_le _⟩
    · exact va_runSU (z_pat C0 (ci := 2) rfl) (z_fix C0) (c_X5_lives l D Y F G w1 _ q0 hq0 x1 w2 ew2) (va_cwSU 1 hts gX8_lives_X5_lives_s23 rfl rfl rfl (by decide +kernel) ⟨Nat.le_of_ble_eq_true rfl, Nat.le_of_ble_eq_true rfl⟩) ⟨zPc_blind, z_prec C0 hw hq0 (ci := 2) zz rfl, z_give C0 hw hS _⟩ rfl rfl hl.1 rfl (lv_room (Nat.le_of_ble_eq_true rfl)) dX8_lives_11 ⟨Nat.zero_le _, Nat.zero_le _⟩
    · exact va_runSU (z_pat C0 (ci := 3) rfl) (z_fix C0) (c_X5_lives l D Y F G w1 _ q0 hq0 x1 w2 ew2) (va_cwSU 1 hts gX8_lives_X5_lives_s23 rfl rfl rfl (by decide +kernel) ⟨Nat.le_of_ble_eq_true rfl, Nat.le_of_ble_eq_true rfl⟩) ⟨zPc_blind, z_prec C0 hw hq0 (ci := 3) zz rfl, z_give C0 hw hS _⟩ rfl rfl hl.1 rfl (lv_room (Nat.le_of_ble_eq_true rfl)) dX8_lives_11 ⟨Nat.zero_le _, Nat.zero_le _⟩
    · exact va_runSU (z_pat C0 (ci := 5) rfl) (z_fix C0) (c_X5_lives l D Y F G w1 _ q0 hq0 x1 w2 ew2) (va_cwSU 1 hts gX8_lives_X5_lives_s23 rfl rfl rfl (by decide +kernel) ⟨Nat.le_of_ble_eq_true rfl, Nat.le_of_ble_eq_true rfl⟩) ⟨zPc_blind, z_prec C0 hw hq0 (ci := 5) zz rfl, z_give C0 hw hS _⟩ rfl rfl hl.1 rfl (lv_room (Nat.le_of_ble_eq_true rfl)) dX8_lives_11 ⟨Nat.zero_le _, Nat.zero_le _⟩
    · exact va_runSU (z_pat C0 (ci := 8) rfl) (z_fix C0) (c_X5_lives l D Y F G w1 _ q0 hq0 x1 w2 ew2) (va_cwSU 1 hts gX8_lives_X5_lives_s23 rfl rfl rfl (by decide +kernel) ⟨Nat.le_of_ble_eq_true rfl, Nat.le_of_ble_eq_true rfl⟩) ⟨zPc_blind, z_prec C0 hw hq0 (ci := 8) zz rfl, z_give C0 hw hS _⟩ rfl rfl hl.1 rfl (lv_room (Nat.le_of_ble_eq_true rfl)) dX8_lives_11 ⟨Nat.zero_le _, Nat.zero_le _⟩
    · exact va_runSU (z_pat C0 (ci := 10) rfl) (z_fix C0) (c_X5_lives l D Y F G w1 _ q0 hq0 x1 w2 ew2) (va_cwSU 1 hts gX8_lives_X5_lives_s23 rfl rfl rfl (by decide +kernel) ⟨Nat.le_of_ble_eq_true rfl, Nat.le_of_ble_eq_true rfl⟩) ⟨zPc_blind, z_prec C0 hw hq0 (ci := 10) zz rfl, z_give C0 hw hS _⟩ rfl rfl hl.1 rfl (lv_room (Nat.le_of_ble_eq_true rfl)) dX8_lives_11 ⟨Nat.zero_le _, Nat.zero_le _⟩
  refine lv_aload_n hx hb dX8_lives_14 rfl (lv_at hl 0 rfl) ?_
  refine z_getP C0 inP_X8_lives hw hq0 6 (by decide) (v := .int ((zsc w2.2 (100 + 4 * q0) 6))) rfl 3 rfl (Or.inr ⟨4, rfl⟩) dX8_lives_15 ?_
  refine lv_iadd hx hb dX8_lives_18 ?_
  exact z_reti C0 hw hS (Option.some.inj h) dX8_lives_19
def M_X1_lives (pk : Nat → Nat) (S : zSt) (q0 : Nat) (x1 : Int32) : Option (Int32 × zSt) :=
  Option.bind (M_X9_began pk S 70) (fun w1 => Option.bind (M_X8_lives pk w1 q0 x1) (fun w2 => some ((w2.1 * 2), w2.2)))
set_option maxHeartbeats 4000000 in
set_option maxRecDepth 100000 in
theorem c_X1_lives (l : Launch) (D : va_G) (Y : Nat → ClassId) (F : Nat → Nat) (G : zG) (S : zSt) (sz : Nat) (q0 : Nat) (hq0 : zOKb (zpk G) q0 = true) (x1 : Int32) (res : Int32 × zSt) (h : M_X1_lives (zpk G) S q0 x1 = some res) : Met l yX1_lives wsX1_lives (zRm 3 63) (zPc D Y F G S sz [.ref (zad F G (100 + 4 * q0)), .int x1]) (zQi D Y F (zAo F G sz) G res) 0 0 (zAo F G sz) := by
  unfold M_X1_lives at h
  refine zMet (cc := cX1_lives) (maxL := 2) (ret := (some .int)) (own := RX1) (by decide +kernel) rfl rfl (Nat.le_of_ble_eq_true rfl) ?_
  intro p e s m args below meth c C0 hin hw hS ls hl
  have hl : lv_has ls 2 [(0, .ref (zad F G (100 + 4 * q0))), (1, .int x1)] := hl
  generalize zAo F G sz = A at C0 hw hS ⊢
  obtain ⟨hx, hb, hml, hr, hown, hts, hK, hA, hlk, hN⟩ := id C0
  refine lv_aload_n hx hb dX1_lives_0 rfl (lv_at hl 0 rfl) ?_
  refine z_getP C0 inP_X1_lives hw hq0 2 (by decide) (v := .ref (F 56)) rfl 1 rfl (Or.inr ⟨2, rfl⟩) dX1_lives_1 ?_
  refine lv_bipush (v := 70) hx hb dX1_lives_4 (by decide) ?_
  obtain ⟨w1, ew1, h⟩ := z_bd h
  refine z_gov C0 hw hS (res := w1) (rest := []) (arr := (Value.ref (F 56) :: [.int 70]).toArray) ?_ (fun H locs hw hS => ?_)
  · exact va_runV (z_fix C0) (c_X9_began l D Y F G S _ 70 w1 ew1) (cwV 1 hts gX1_lives_X9_began rfl rfl rfl (by decide +kernel) ⟨Nat.le_of_ble_eq_true rfl, Nat.le_of_ble_eq_true rfl⟩) ⟨zPc_blind, z_rv C0 hw (k := 56) rfl rfl rfl rfl, z_give C0 hw hS _⟩ rfl rfl hl.1 rfl (lv_room (Nat.le_of_ble_eq_true rfl)) dX1_lives_6 ⟨Nat.zero_le _, Nat.zero_le _⟩
  refine lv_aload_n hx hb dX1_lives_9 rfl (lv_at hl 0 rfl) ?_
  refine lv_iload_n hx hb dX1_lives_10 rfl (lv_at hl 1 rfl) ?_
  obtain ⟨w2, ew2, h⟩ := z_bd h
  refine z_goi C0 hw hS (res := w2) (rest := []) (arr := (Value.ref (zad F G (100 + 4 * q0)) :: [.int x1]).toArray) ?_ (fun H locs hw hS => ?_)
  · rcases zOK_cases hq0 with zz | zz | zz | zz | zz | zz | zz
    · exact va_runSU (z_pat C0 (ci := 0) rfl) (z_fix C0) (c_X8_lives l D Y F G w1 _ q0 hq0 x1 w2 ew2) (va_cwSU 1 hts gX1_lives_X8_lives_s27 rfl rfl rfl (by decide +kernel) ⟨Nat.le_of_ble_eq_true rfl, Nat.le_of_ble_eq_true rfl⟩) ⟨zPc_blind, z_prec C0 hw hq0 (ci := 0) zz rfl, z_give C0 hw hS _⟩ rfl rfl hl.1 rfl (lv_room (Nat.le_of_ble_eq_true rfl)) dX1_lives_11 ⟨Nat.zero_le _, Nat.zero_le _⟩
    · exact va_runSU (z_pat C0 (ci := 1) rfl) (z_fix C0) (c_X8_lives l D Y F G w1 _ q0 hq0 x1 w2 ew2) (va_cwSU 1 hts gX1_lives_X8_lives_s27 rfl rfl rfl (by decide +kernel) ⟨Nat.le_of_ble_eq_true rfl, Nat.le_of_ble_eq_true rfl⟩) ⟨zPc_blind, z_prec C0 hw hq0 (ci := 1) zz rfl, z_give C0 hw hS _⟩ rfl rfl hl.1 rfl (lv_room (Nat.le_of_ble_eq_true rfl)) dX1_lives_11 ⟨Nat.zero_le _, Nat.zero_le _⟩
    · exact va_runSU (z_pat C0 (ci := 2) rfl) (z_fix C0) (c_X8_lives l D Y F G w1 _ q0 hq0 x1 w2 ew2) (va_cwSU 1 hts gX1_lives_X8_lives_s27 rfl rfl rfl (by decide +kernel) ⟨Nat.le_of_ble_eq_true rfl, Nat.le_of_ble_eq_true rfl⟩) ⟨zPc_blind, z_prec C0 hw hq0 (ci := 2) zz rfl, z_give C0 hw hS _⟩ rfl rfl hl.1 rfl (lv_room (Nat.le_of_ble_eq_true rfl)) dX1_lives_11 ⟨Nat.zero_le _, Nat.zero_le _⟩
    · exact va_runSU (z_pat C0 (ci := 3) rfl) (z_fix C0) (c_X8_lives l D Y F G w1 _ q0 hq0 x1 w2 ew2) (va_cwSU 1 hts gX1_lives_X8_lives_s27 rfl rfl rfl (by decide +kernel) ⟨Nat.le_of_ble_eq_true rfl, Nat.le_of_ble_eq_true rfl⟩) ⟨zPc_blind, z_prec C0 hw hq0 (ci := 3) zz rfl, z_give C0 hw hS _⟩ rfl rfl hl.1 rfl (lv_room (Nat.le_of_ble_eq_true rfl)) dX1_lives_11 ⟨Nat.zero_le _, Nat.zero_le _⟩
    · exact va_runSU (z_pat C0 (ci := 5) rfl) (z_fix C0) (c_X8_lives l D Y F G w1 _ q0 hq0 x1 w2 ew2) (va_cwSU 1 hts gX1_lives_X8_lives_s27 rfl rfl rfl (by decide +kernel) ⟨Nat.le_of_ble_eq_true rfl, Nat.le_of_ble_eq_true rfl⟩) ⟨zPc_blind, z_prec C0 hw hq0 (ci := 5) zz rfl, z_give C0 hw hS _⟩ rfl rfl hl.1 rfl (lv_room (Nat.le_of_ble_eq_true rfl)) dX1_lives_11 ⟨Nat.zero_le _, Nat.zero_le _⟩
    · exact va_runSU (z_pat C0 (ci := 8) rfl) (z_fix C0) (c_X8_lives l D Y F G w1 _ q0 hq0 x1 w2 ew2) (va_cwSU 1 hts gX1_lives_X8_lives_s27 rfl rfl rfl (by decide +kernel) ⟨Nat.le_of_ble_eq_true rfl, Nat.le_of_ble_eq_true rfl⟩) ⟨zPc_blind, z_prec C0 hw hq0 (ci := 8) zz rfl, z_give C0 hw hS _⟩ rfl rfl hl.1 rfl (lv_room (Nat.le_of_ble_eq_true rfl)) dX1_lives_11 ⟨Nat.zero_le _, Nat.zero_le _⟩
    · exact va_runSU (z_pat C0 (ci := 10) rfl) (z_fix C0) (c_X8_lives l D Y F G w1 _ q0 hq0 x1 w2 ew2) (va_cwSU 1 hts gX1_lives_X8_lives_s27 rfl rfl rfl (by decide +kernel) ⟨Nat.le_of_ble_eq_true rfl, Nat.le_of_ble_eq_true rfl⟩) ⟨zPc_blind, z_prec C0 hw hq0 (ci := 10) zz rfl, z_give C0 hw hS _⟩ rfl rfl hl.1 rfl (lv_room (Nat.le_of_ble_eq_true rfl)) dX1_lives_11 ⟨Nat.zero_le _, Nat.zero_le _⟩
  refine lv_iconst (v := 2) hx hb dX1_lives_14 (by decide) ?_
  refine lv_imul hx hb dX1_lives_15 ?_
  exact z_reti C0 hw hS (Option.some.inj h) dX1_lives_16
def M_X3_lives (pk : Nat → Nat) (S : zSt) (q0 : Nat) (x1 : Int32) : Option (Int32 × zSt) :=
  Option.bind (M_X9_began pk S 51) (fun w1 => Option.bind (M_X5_lives pk w1 q0 x1) (fun w2 => some ((w2.1 - (zsc w2.2 (100 + 4 * q0) 1)), w2.2)))
set_option maxHeartbeats 4000000 in
set_option maxRecDepth 100000 in
theorem c_X3_lives (l : Launch) (D : va_G) (Y : Nat → ClassId) (F : Nat → Nat) (G : zG) (S : zSt) (sz : Nat) (q0 : Nat) (hq0 : zOKb (zpk G) q0 = true) (x1 : Int32) (res : Int32 × zSt) (h : M_X3_lives (zpk G) S q0 x1 = some res) : Met l yX3_lives wsX3_lives (zRm 2 42) (zPc D Y F G S sz [.ref (zad F G (100 + 4 * q0)), .int x1]) (zQi D Y F (zAo F G sz) G res) 0 0 (zAo F G sz) := by
  unfold M_X3_lives at h
  refine zMet (cc := cX3_lives) (maxL := 2) (ret := (some .int)) (own := RX3) (by decide +kernel) rfl rfl (Nat.le_of_ble_eq_true rfl) ?_
  intro p e s m args below meth c C0 hin hw hS ls hl
  have hl : lv_has ls 2 [(0, .ref (zad F G (100 + 4 * q0))), (1, .int x1)] := hl
  generalize zAo F G sz = A at C0 hw hS ⊢
  obtain ⟨hx, hb, hml, hr, hown, hts, hK, hA, hlk, hN⟩ := id C0
  refine lv_aload_n hx hb dX3_lives_0 rfl (lv_at hl 0 rfl) ?_
  refine z_getP C0 inP_X3_lives hw hq0 2 (by decide) (v := .ref (F 56)) rfl 1 rfl (Or.inr ⟨2, rfl⟩) dX3_lives_1 ?_
  refine lv_bipush (v := 51) hx hb dX3_lives_4 (by decide) ?_
  obtain ⟨w1, ew1, h⟩ := z_bd h
  refine z_gov C0 hw hS (res := w1) (rest := []) (arr := (Value.ref (F 56) :: [.int 51]).toArray) ?_ (fun H locs hw hS => ?_)
  · exact va_runV (z_fix C0) (c_X9_began l D Y F G S _ 51 w1 ew1) (cwV 1 hts gX3_lives_X9_began rfl rfl rfl (by decide +kernel) ⟨Nat.le_of_ble_eq_true rfl, Nat.le_of_ble_eq_true rfl⟩) ⟨zPc_blind, z_rv C0 hw (k := 56) rfl rfl rfl rfl, z_give C0 hw hS _⟩ rfl rfl hl.1 rfl (lv_room (Nat.le_of_ble_eq_true rfl)) dX3_lives_6 ⟨Nat.zero_le _, Nat.zero_le _⟩
  refine lv_aload_n hx hb dX3_lives_9 rfl (lv_at hl 0 rfl) ?_
  refine lv_iload_n hx hb dX3_lives_10 rfl (lv_at hl 1 rfl) ?_
  obtain ⟨w2, ew2, h⟩ := z_bd h
  refine z_goi C0 hw hS (res := w2) (rest := []) (arr := (Value.ref (zad F G (100 + 4 * q0)) :: [.int x1]).toArray) ?_ (fun H locs hw hS => ?_)
  · rcases zOK_cases hq0 with zz | zz | zz | zz | zz | zz | zz
    · exact va_runSU (z_pat C0 (ci := 0) rfl) (z_fix C0) (c_X5_lives l D Y F G w1 _ q0 hq0 x1 w2 ew2) (va_cwSU 1 hts gX3_lives_X5_lives_s26 rfl rfl rfl (by decide +kernel) ⟨Nat.le_of_ble_eq_true rfl, Nat.le_of_ble_eq_true rfl⟩) ⟨zPc_blind, z_prec C0 hw hq0 (ci := 0) zz rfl, z_give C0 hw hS _⟩ rfl rfl hl.1 rfl (lv_room (Nat.le_of_ble_eq_true rfl)) dX3_lives_11 ⟨Nat.zero_le _, Nat.zero_le _⟩
    · exact va_runSU (z_pat C0 (ci := 1) rfl) (z_fix C0) (c_X5_lives l D Y F G w1 _ q0 hq0 x1 w2 ew2) (va_cwSU 1 hts gX3_lives_X5_lives_s26 rfl rfl rfl (by decide +kernel) ⟨Nat.le_of_ble_eq_true rfl, Nat.le_of_ble_eq_true rfl⟩) ⟨zPc_blind, z_prec C0 hw hq0 (ci := 1) zz rfl, z_give C0 hw hS _⟩ rfl rfl hl.1 rfl (lv_room (Nat.le_of_ble_eq_true rfl)) dX3_lives_11 ⟨Nat.zero_le _, Nat.zero_le _⟩
    · exact va_runSU (z_pat C0 (ci := 2) rfl) (z_fix C0) (c_X5_lives l D Y F G w1 _ q0 hq0 x1 w2 ew2) (va_cwSU 1 hts gX3_lives_X5_lives_s26 rfl rfl rfl (by decide +kernel) ⟨Nat.le_of_ble_eq_true rfl, Nat.le_of_ble_eq_true rfl⟩) ⟨zPc_blind, z_prec C0 hw hq0 (ci := 2) zz rfl, z_give C0 hw hS _⟩ rfl rfl hl.1 rfl (lv_room (Nat.le_of_ble_eq_true rfl)) dX3_lives_11 ⟨Nat.zero_le _, Nat.zero_le _⟩
    · exact va_runSU (z_pat C0 (ci := 3) rfl) (z_fix C0) (c_X5_lives l D Y F G w1 _ q0 hq0 x1 w2 ew2) (va_cwSU 1 hts gX3_lives_X5_lives_s26 rfl rfl rfl (by decide +kernel) ⟨Nat.le_of_ble_eq_true rfl, Nat.le_of_ble_eq_true rfl⟩) ⟨zPc_blind, z_prec C0 hw hq0 (ci := 3) zz rfl, z_give C0 hw hS _⟩ rfl rfl hl.1 rfl (lv_room (Nat.le_of_ble_eq_true rfl)) dX3_lives_11 ⟨Nat.zero_le _, Nat.zero_le _⟩
    · exact va_runSU (z_pat C0 (ci := 5) rfl) (z_fix C0) (c_X5_lives l D Y F G w1 _ q0 hq0 x1 w2 ew2) (va_cwSU 1 hts gX3_lives_X5_lives_s26 rfl rfl rfl (by decide +kernel) ⟨Nat.le_of_ble_eq_true rfl, Nat.le_of_ble_eq_true rfl⟩) ⟨zPc_blind, z_prec C0 hw hq0 (ci := 5) zz rfl, z_give C0 hw hS _⟩ rfl rfl hl.1 rfl (lv_room (Nat.le_of_ble_eq_true rfl)) dX3_lives_11 ⟨Nat.zero_le _, Nat.zero_le _⟩
    · exact va_runSU (z_pat C0 (ci := 8) rfl) (z_fix C0) (c_X5_lives l D Y F G w1 _ q0 hq0 x1 w2 ew2) (va_cwSU 1 hts gX3_lives_X5_lives_s26 rfl rfl rfl (by decide +kernel) ⟨Nat.le_of_ble_eq_true rfl, Nat.le_of_ble_eq_true rfl⟩) ⟨zPc_blind, z_prec C0 hw hq0 (ci := 8) zz rfl, z_give C0 hw hS _⟩ rfl rfl hl.1 rfl (lv_room (Nat.le_of_ble_eq_true rfl)) dX3_lives_11 ⟨Nat.zero_le _, Nat.zero_le _⟩
    · exact va_runSU (z_pat C0 (ci := 10) rfl) (z_fix C0) (c_X5_lives l D Y F G w1 _ q0 hq0 x1 w2 ew2) (va_cwSU 1 hts gX3_lives_X5_lives_s26 rfl rfl rfl (by decide +kernel) ⟨Nat.le_of_ble_eq_true rfl, Nat.le_of_ble_eq_true rfl⟩) ⟨zPc_blind, z_prec C0 hw hq0 (ci := 10) zz rfl, z_give C0 hw hS _⟩ rfl rfl hl.1 rfl (lv_room (Nat.le_of_ble_eq_true rfl)) dX3_lives_11 ⟨Nat.zero_le _, Nat.zero_le _⟩
  refine lv_aload_n hx hb dX3_lives_14 rfl (lv_at hl 0 rfl) ?_
  refine z_getP C0 inP_X3_lives hw hq0 1 (by decide) (v := .int ((zsc w2.2 (100 + 4 * q0) 1))) rfl 3 rfl (Or.inr ⟨4, rfl⟩) dX3_lives_15 ?_
  refine lv_isub hx hb dX3_lives_18 ?_
  exact z_reti C0 hw hS (Option.some.inj h) dX3_lives_19
def V_lives (pk : Nat → Nat) (S : zSt) (q : Nat) (x1 : Int32) : Option (Int32 × zSt) :=
  if pk q = 1 then M_X3_lives pk S q x1 else if pk q = 2 then M_X1_lives pk S q x1 else if pk q = 3 then M_X5_lives pk S q x1 else if pk q = 4 then M_X3_lives pk S q x1 else if pk q = 6 then M_X5_lives pk S q x1 else if pk q = 9 then M_X8_lives pk S q x1 else if pk q = 11 then M_X5_lives pk S q x1 else none
theorem V_lives_X0 {pk : Nat → Nat} {S : zSt} {q : Nat} {x1 : Int32} {w : Int32 × zSt} (hp : pk q = 1) (hv : V_lives pk S q x1 = some w) : M_X3_lives pk S q x1 = some w := by
  unfold V_lives at hv
  rw [if_pos hp] at hv
  exact hv
theorem V_lives_X1 {pk : Nat → Nat} {S : zSt} {q : Nat} {x1 : Int32} {w : Int32 × zSt} (hp : pk q = 2) (hv : V_lives pk S q x1 = some w) : M_X1_lives pk S q x1 = some w := by
  unfold V_lives at hv
  rw [if_neg (show ¬ (pk q = 1) by omega)] at hv
  rw [if_pos hp] at hv
  exact hv
theorem V_lives_X2 {pk : Nat → Nat} {S : zSt} {q : Nat} {x1 : Int32} {w : Int32 × zSt} (hp : pk q = 3) (hv : V_lives pk S q x1 = some w) : M_X5_lives pk S q x1 = some w := by
  unfold V_lives at hv
  rw [if_neg (show ¬ (pk q = 1) by omega)] at hv
  rw [if_neg (show ¬ (pk q = 2) by omega)] at hv
  rw [if_pos hp] at hv
  exact hv
theorem V_lives_X3 {pk : Nat → Nat} {S : zSt} {q : Nat} {x1 : Int32} {w : Int32 × zSt} (hp : pk q = 4) (hv : V_lives pk S q x1 = some w) : M_X3_lives pk S q x1 = some w := by
  unfold V_lives at hv
  rw [if_neg (show ¬ (pk q = 1) by omega)] at hv
  rw [if_neg (show ¬ (pk q = 2) by omega)] at hv
  rw [if_neg (show ¬ (pk q = 3) by omega)] at hv
  rw [if_pos hp] at hv
  exact hv
theorem V_lives_X5 {pk : Nat → Nat} {S : zSt} {q : Nat} {x1 : Int32} {w : Int32 × zSt} (hp : pk q = 6) (hv : V_lives pk S q x1 = some w) : M_X5_lives pk S q x1 = some w := by
  unfold V_lives at hv
  rw [if_neg (show ¬ (pk q = 1) by omega)] at hv
  rw [if_neg (show ¬ (pk q = 2) by omega)] at hv
  rw [if_neg (show ¬ (pk q = 3) by omega)] at hv
  rw [if_neg (show ¬ (pk q = 4) by omega)] at hv
  rw [if_pos hp] at hv
  exact hv
theorem V_lives_X8 {pk : Nat → Nat} {S : zSt} {q : Nat} {x1 : Int32} {w : Int32 × zSt} (hp : pk q = 9) (hv : V_lives pk S q x1 = some w) : M_X8_lives pk S q x1 = some w := by
  unfold V_lives at hv
  rw [if_neg (show ¬ (pk q = 1) by omega)] at hv
  rw [if_neg (show ¬ (pk q = 2) by omega)] at hv
  rw [if_neg (show ¬ (pk q = 3) by omega)] at hv
  rw [if_neg (show ¬ (pk q = 4) by omega)] at hv
  rw [if_neg (show ¬ (pk q = 6) by omega)] at hv
  rw [if_pos hp] at hv
  exact hv
theorem V_lives_X10 {pk : Nat → Nat} {S : zSt} {q : Nat} {x1 : Int32} {w : Int32 × zSt} (hp : pk q = 11) (hv : V_lives pk S q x1 = some w) : M_X5_lives pk S q x1 = some w := by
  unfold V_lives at hv
  rw [if_neg (show ¬ (pk q = 1) by omega)] at hv
  rw [if_neg (show ¬ (pk q = 2) by omega)] at hv
  rw [if_neg (show ¬ (pk q = 3) by omega)] at hv
  rw [if_neg (show ¬ (pk q = 4) by omega)] at hv
  rw [if_neg (show ¬ (pk q = 6) by omega)] at hv
  rw [if_neg (show ¬ (pk q = 9) by omega)] at hv
  rw [if_pos hp] at hv
  exact hv
def M_X5_goes (pk : Nat → Nat) (S : zSt) (q0 : Nat) (x1 : Int32) : Option (Int32 × zSt) :=
  Option.bind (M_X9_began pk S 11) (fun w1 => Option.bind (V_lives pk w1 q0 x1) (fun w2 => some ((w2.1 * 2), w2.2)))
set_option maxHeartbeats 4000000 in
set_option maxRecDepth 100000 in
theorem c_X5_goes (l : Launch) (D : va_G) (Y : Nat → ClassId) (F : Nat → Nat) (G : zG) (S : zSt) (sz : Nat) (q0 : Nat) (hq0 : zOKb (zpk G) q0 = true) (x1 : Int32) (res : Int32 × zSt) (h : M_X5_goes (zpk G) S q0 x1 = some res) : Met l yX5_goes wsX5_goes (zRm 4 84) (zPc D Y F G S sz [.ref (zad F G (100 + 4 * q0)), .int x1]) (zQi D Y F (zAo F G sz) G res) 0 0 (zAo F G sz) := by
  unfold M_X5_goes at h
  refine zMet (cc := cX5_goes) (maxL := 2) (ret := (some .int)) (own := RX5) (by decide +kernel) rfl rfl (Nat.le_of_ble_eq_true rfl) ?_
  intro p e s m args below meth c C0 hin hw hS ls hl
  have hl : lv_has ls 2 [(0, .ref (zad F G (100 + 4 * q0))), (1, .int x1)] := hl
  generalize zAo F G sz = A at C0 hw hS ⊢
  obtain ⟨hx, hb, hml, hr, hown, hts, hK, hA, hlk, hN⟩ := id C0
  refine lv_aload_n hx hb dX5_goes_0 rfl (lv_at hl 0 rfl) ?_
  refine z_getP C0 inP_X5_goes hw hq0 2 (by decide) (v := .ref (F 56)) rfl 1 rfl (Or.inl rfl) dX5_goes_1 ?_
  refine lv_bipush (v := 11) hx hb dX5_goes_4 (by decide) ?_
  obtain ⟨w1, ew1, h⟩ := z_bd h
  refine z_gov C0 hw hS (res := w1) (rest := []) (arr := (Value.ref (F 56) :: [.int 11]).toArray) ?_ (fun H locs hw hS => ?_)
  · exact va_runV (z_fix C0) (c_X9_began l D Y F G S _ 11 w1 ew1) (cwV 1 hts gX5_goes_X9_began rfl rfl rfl (by decide +kernel) ⟨Nat.le_of_ble_eq_true rfl, Nat.le_of_ble_eq_true rfl⟩) ⟨zPc_blind, z_rv C0 hw (k := 56) rfl rfl rfl rfl, z_give C0 hw hS _⟩ rfl rfl hl.1 rfl (lv_room (Nat.le_of_ble_eq_true rfl)) dX5_goes_6 ⟨Nat.zero_le _, Nat.zero_le _⟩
  refine lv_aload_n hx hb dX5_goes_9 rfl (lv_at hl 0 rfl) ?_
  refine lv_iload_n hx hb dX5_goes_10 rfl (lv_at hl 1 rfl) ?_
  obtain ⟨w2, ew2, h⟩ := z_bd h
  refine z_goi C0 hw hS (res := w2) (rest := []) (arr := (Value.ref (zad F G (100 + 4 * q0)) :: [.int x1]).toArray) ?_ (fun H locs hw hS => ?_)
  · rcases zOK_cases hq0 with zz | zz | zz | zz | zz | zz | zz
    · exact va_runU (z_fix C0) (c_X3_lives l D Y F G w1 _ q0 hq0 x1 w2 (V_lives_X0 zz ew2)) (va_cwO 1 hts gX5_goes_X3_lives_u59X0 rfl rfl rfl (List.mem_of_getElem? (i := 25) rfl) (by decide +kernel) ⟨Nat.le_of_ble_eq_true rfl, Nat.le_of_ble_eq_true rfl⟩) ⟨zPc_blind, z_prec C0 hw hq0 (ci := 0) zz rfl, z_give C0 hw hS _⟩ rfl rfl hl.1 rfl (lv_room (Nat.le_of_ble_eq_true rfl)) dX5_goes_11 ⟨Nat.zero_le _, Nat.zero_le _⟩
    · exact va_runU (z_fix C0) (c_X1_lives l D Y F G w1 _ q0 hq0 x1 w2 (V_lives_X1 zz ew2)) (va_cwO 1 hts gX5_goes_X1_lives_u59X1 rfl rfl rfl (List.mem_of_getElem? (i := 25) rfl) (by decide +kernel) ⟨Nat.le_of_ble_eq_true rfl, Nat.le_of_ble_eq_true rfl⟩) ⟨zPc_blind, z_prec C0 hw hq0 (ci := 1) zz rfl, z_give C0 hw hS _⟩ rfl rfl hl.1 rfl (lv_room (Nat.le_of_ble_eq_true rfl)) dX5_goes_11 ⟨Nat.zero_le _, Nat.zero_le _⟩
    · exact va_runU (z_fix C0) (c_X5_lives l D Y F G w1 _ q0 hq0 x1 w2 (V_lives_X2 zz ew2)) (va_cwU 1 hts gX5_goes_X5_lives_u59X2 rfl rfl rfl rfl (by decide +kernel) ⟨Nat.le_of_ble_eq_true rfl, Nat.le_of_ble_eq_true rfl⟩) ⟨zPc_blind, z_prec C0 hw hq0 (ci := 2) zz rfl, z_give C0 hw hS _⟩ rfl rfl hl.1 rfl (lv_room (Nat.le_of_ble_eq_true rfl)) dX5_goes_11 ⟨Nat.zero_le _, Nat.zero_le _⟩
    · exact va_runU (z_fix C0) (c_X3_lives l D Y F G w1 _ q0 hq0 x1 w2 (V_lives_X3 zz ew2)) (va_cwO 1 hts gX5_goes_X3_lives_u59X3 rfl rfl rfl (List.mem_of_getElem? (i := 25) rfl) (by decide +kernel) ⟨Nat.le_of_ble_eq_true rfl, Nat.le_of_ble_eq_true rfl⟩) ⟨zPc_blind, z_prec C0 hw hq0 (ci := 3) zz rfl, z_give C0 hw hS _⟩ rfl rfl hl.1 rfl (lv_room (Nat.le_of_ble_eq_true rfl)) dX5_goes_11 ⟨Nat.zero_le _, Nat.zero_le _⟩
    · exact va_runV (z_fix C0) (c_X5_lives l D Y F G w1 _ q0 hq0 x1 w2 (V_lives_X5 zz ew2)) (cwV 1 hts gX5_goes_X5_lives rfl rfl rfl (by decide +kernel) ⟨Nat.le_of_ble_eq_true rfl, Nat.le_of_ble_eq_true rfl⟩) ⟨zPc_blind, z_prec C0 hw hq0 (ci := 5) zz rfl, z_give C0 hw hS _⟩ rfl rfl hl.1 rfl (lv_room (Nat.le_of_ble_eq_true rfl)) dX5_goes_11 ⟨Nat.zero_le _, Nat.zero_le _⟩
    · exact va_runU (z_fix C0) (c_X8_lives l D Y F G w1 _ q0 hq0 x1 w2 (V_lives_X8 zz ew2)) (va_cwO 1 hts gX5_goes_X8_lives_u59X8 rfl rfl rfl (List.mem_of_getElem? (i := 25) rfl) (by decide +kernel) ⟨Nat.le_of_ble_eq_true rfl, Nat.le_of_ble_eq_true rfl⟩) ⟨zPc_blind, z_prec C0 hw hq0 (ci := 8) zz rfl, z_give C0 hw hS _⟩ rfl rfl hl.1 rfl (lv_room (Nat.le_of_ble_eq_true rfl)) dX5_goes_11 ⟨Nat.zero_le _, Nat.zero_le _⟩
    · exact va_runU (z_fix C0) (c_X5_lives l D Y F G w1 _ q0 hq0 x1 w2 (V_lives_X10 zz ew2)) (va_cwU 1 hts gX5_goes_X5_lives_u59X10 rfl rfl rfl rfl (by decide +kernel) ⟨Nat.le_of_ble_eq_true rfl, Nat.le_of_ble_eq_true rfl⟩) ⟨zPc_blind, z_prec C0 hw hq0 (ci := 10) zz rfl, z_give C0 hw hS _⟩ rfl rfl hl.1 rfl (lv_room (Nat.le_of_ble_eq_true rfl)) dX5_goes_11 ⟨Nat.zero_le _, Nat.zero_le _⟩
  refine lv_iconst (v := 2) hx hb dX5_goes_14 (by decide) ?_
  refine lv_imul hx hb dX5_goes_15 ?_
  exact z_reti C0 hw hS (Option.some.inj h) dX5_goes_16
def M_X1_goes (pk : Nat → Nat) (S : zSt) (q0 : Nat) (x1 : Int32) : Option (Int32 × zSt) :=
  Option.bind (M_X9_began pk S 71) (fun w1 => Option.bind (M_X5_goes pk w1 q0 ((x1 - (zsc w1 (100 + 4 * q0) 6)))) (fun w2 => some (w2.1, w2.2)))
set_option maxHeartbeats 4000000 in
set_option maxRecDepth 100000 in
theorem c_X1_goes (l : Launch) (D : va_G) (Y : Nat → ClassId) (F : Nat → Nat) (G : zG) (S : zSt) (sz : Nat) (q0 : Nat) (hq0 : zOKb (zpk G) q0 = true) (x1 : Int32) (res : Int32 × zSt) (h : M_X1_goes (zpk G) S q0 x1 = some res) : Met l yX1_goes wsX1_goes (zRm 5 105) (zPc D Y F G S sz [.ref (zad F G (100 + 4 * q0)), .int x1]) (zQi D Y F (zAo F G sz) G res) 0 0 (zAo F G sz) := by
  unfold M_X1_goes at h
  refine zMet (cc := cX1_goes) (maxL := 2) (ret := (some .int)) (own := RX1) (by decide +kernel) rfl rfl (Nat.le_of_ble_eq_true rfl) ?_
  intro p e s m args below meth c C0 hin hw hS ls hl
  have hl : lv_has ls 2 [(0, .ref (zad F G (100 + 4 * q0))), (1, .int x1)] := hl
  generalize zAo F G sz = A at C0 hw hS ⊢
  obtain ⟨hx, hb, hml, hr, hown, hts, hK, hA, hlk, hN⟩ := id C0
  refine lv_aload_n hx hb dX1_goes_0 rfl (lv_at hl 0 rfl) ?_
  refine z_getP C0 inP_X1_goes hw hq0 2 (by decide) (v := .ref (F 56)) rfl 1 rfl (Or.inr ⟨2, rfl⟩) dX1_goes_1 ?_
  refine lv_bipush (v := 71) hx hb dX1_goes_4 (by decide) ?_
  obtain ⟨w1, ew1, h⟩ := z_bd h
  refine z_gov C0 hw hS (res := w1) (rest := []) (arr := (Value.ref (F 56) :: [.int 71]).toArray) ?_ (fun H locs hw hS => ?_)
  · exact va_runV (z_fix C0) (c_X9_began l D Y F G S _ 71 w1 ew1) (cwV 1 hts gX1_goes_X9_began rfl rfl rfl (by decide +kernel) ⟨Nat.le_of_ble_eq_true rfl, Nat.le_of_ble_eq_true rfl⟩) ⟨zPc_blind, z_rv C0 hw (k := 56) rfl rfl rfl rfl, z_give C0 hw hS _⟩ rfl rfl hl.1 rfl (lv_room (Nat.le_of_ble_eq_true rfl)) dX1_goes_6 ⟨Nat.zero_le _, Nat.zero_le _⟩
  refine lv_aload_n hx hb dX1_goes_9 rfl (lv_at hl 0 rfl) ?_
  refine lv_iload_n hx hb dX1_goes_10 rfl (lv_at hl 1 rfl) ?_
  refine lv_aload_n hx hb dX1_goes_11 rfl (lv_at hl 0 rfl) ?_
  refine z_getP C0 inP_X1_goes hw hq0 6 (by decide) (v := .int ((zsc w1 (100 + 4 * q0) 6))) rfl 3 rfl (Or.inr ⟨4, rfl⟩) dX1_goes_12 ?_
  refine lv_isub hx hb dX1_goes_15 ?_
  obtain ⟨w2, ew2, h⟩ := z_bd h
  refine z_goi C0 hw hS (res := w2) (rest := []) (arr := (Value.ref (zad F G (100 + 4 * q0)) :: [.int ((x1 - (zsc w1 (100 + 4 * q0) 6)))]).toArray) ?_ (fun H locs hw hS => ?_)
  · rcases zOK_cases hq0 with zz | zz | zz | zz | zz | zz | zz
    · exact z_runSX C0 (z_pat C0 (ci := 0) rfl) (c_X5_goes l D Y F G w1 _ q0 hq0 ((x1 - (zsc w1 (100 + 4 * q0) 6))) w2 ew2) ⟨Nat.le_of_ble_eq_true rfl, Nat.le_of_ble_eq_true rfl⟩ ⟨zPc_blind, z_prec C0 hw hq0 (ci := 0) zz rfl, z_give C0 hw hS _⟩ rfl rfl rfl rfl hl.1 rfl (lv_room (Nat.le_of_ble_eq_true rfl)) dX1_goes_16 ⟨Nat.zero_le _, Nat.zero_le _⟩
    · exact z_runSX C0 (z_pat C0 (ci := 1) rfl) (c_X5_goes l D Y F G w1 _ q0 hq0 ((x1 - (zsc w1 (100 + 4 * q0) 6))) w2 ew2) ⟨Nat.le_of_ble_eq_true rfl, Nat.le_of_ble_eq_true rfl⟩ ⟨zPc_blind, z_prec C0 hw hq0 (ci := 1) zz rfl, z_give C0 hw hS _⟩ rfl rfl rfl rfl hl.1 rfl (lv_room (Nat.le_of_ble_eq_true rfl)) dX1_goes_16 ⟨Nat.zero_le _, Nat.zero_le _⟩
    · exact z_runSX C0 (z_pat C0 (ci := 2) rfl) (c_X5_goes l D Y F G w1 _ q0 hq0 ((x1 - (zsc w1 (100 + 4 * q0) 6))) w2 ew2) ⟨Nat.le_of_ble_eq_true rfl, Nat.le_of_ble_eq_true rfl⟩ ⟨zPc_blind, z_prec C0 hw hq0 (ci := 2) zz rfl, z_give C0 hw hS _⟩ rfl rfl rfl rfl hl.1 rfl (lv_room (Nat.le_of_ble_eq_true rfl)) dX1_goes_16 ⟨Nat.zero_le _, Nat.zero_le _⟩
    · exact z_runSX C0 (z_pat C0 (ci := 3) rfl) (c_X5_goes l D Y F G w1 _ q0 hq0 ((x1 - (zsc w1 (100 + 4 * q0) 6))) w2 ew2) ⟨Nat.le_of_ble_eq_true rfl, Nat.le_of_ble_eq_true rfl⟩ ⟨zPc_blind, z_prec C0 hw hq0 (ci := 3) zz rfl, z_give C0 hw hS _⟩ rfl rfl rfl rfl hl.1 rfl (lv_room (Nat.le_of_ble_eq_true rfl)) dX1_goes_16 ⟨Nat.zero_le _, Nat.zero_le _⟩
    · exact z_runSX C0 (z_pat C0 (ci := 5) rfl) (c_X5_goes l D Y F G w1 _ q0 hq0 ((x1 - (zsc w1 (100 + 4 * q0) 6))) w2 ew2) ⟨Nat.le_of_ble_eq_true rfl, Nat.le_of_ble_eq_true rfl⟩ ⟨zPc_blind, z_prec C0 hw hq0 (ci := 5) zz rfl, z_give C0 hw hS _⟩ rfl rfl rfl rfl hl.1 rfl (lv_room (Nat.le_of_ble_eq_true rfl)) dX1_goes_16 ⟨Nat.zero_le _, Nat.zero_le _⟩
    · exact z_runSX C0 (z_pat C0 (ci := 8) rfl) (c_X5_goes l D Y F G w1 _ q0 hq0 ((x1 - (zsc w1 (100 + 4 * q0) 6))) w2 ew2) ⟨Nat.le_of_ble_eq_true rfl, Nat.le_of_ble_eq_true rfl⟩ ⟨zPc_blind, z_prec C0 hw hq0 (ci := 8) zz rfl, z_give C0 hw hS _⟩ rfl rfl rfl rfl hl.1 rfl (lv_room (Nat.le_of_ble_eq_true rfl)) dX1_goes_16 ⟨Nat.zero_le _, Nat.zero_le _⟩
    · exact z_runSX C0 (z_pat C0 (ci := 10) rfl) (c_X5_goes l D Y F G w1 _ q0 hq0 ((x1 - (zsc w1 (100 + 4 * q0) 6))) w2 ew2) ⟨Nat.le_of_ble_eq_true rfl, Nat.le_of_ble_eq_true rfl⟩ ⟨zPc_blind, z_prec C0 hw hq0 (ci := 10) zz rfl, z_give C0 hw hS _⟩ rfl rfl rfl rfl hl.1 rfl (lv_room (Nat.le_of_ble_eq_true rfl)) dX1_goes_16 ⟨Nat.zero_le _, Nat.zero_le _⟩
  exact z_reti C0 hw hS (Option.some.inj h) dX1_goes_19
def M_X2_goes (pk : Nat → Nat) (S : zSt) (q0 : Nat) (x1 : Int32) : Option (Int32 × zSt) :=
  Option.bind (M_X9_began pk S 30) (fun w1 => Option.bind (M_X5_goes pk w1 q0 x1) (fun w2 => some ((w2.1 * 3), w2.2)))
set_option maxHeartbeats 4000000 in
set_option maxRecDepth 100000 in
theorem c_X2_goes (l : Launch) (D : va_G) (Y : Nat → ClassId) (F : Nat → Nat) (G : zG) (S : zSt) (sz : Nat) (q0 : Nat) (hq0 : zOKb (zpk G) q0 = true) (x1 : Int32) (res : Int32 × zSt) (h : M_X2_goes (zpk G) S q0 x1 = some res) : Met l yX2_goes wsX2_goes (zRm 5 105) (zPc D Y F G S sz [.ref (zad F G (100 + 4 * q0)), .int x1]) (zQi D Y F (zAo F G sz) G res) 0 0 (zAo F G sz) := by
  unfold M_X2_goes at h
  refine zMet (cc := cX2_goes) (maxL := 2) (ret := (some .int)) (own := RX2) (by decide +kernel) rfl rfl (Nat.le_of_ble_eq_true rfl) ?_
  intro p e s m args below meth c C0 hin hw hS ls hl
  have hl : lv_has ls 2 [(0, .ref (zad F G (100 + 4 * q0))), (1, .int x1)] := hl
  generalize zAo F G sz = A at C0 hw hS ⊢
  obtain ⟨hx, hb, hml, hr, hown, hts, hK, hA, hlk, hN⟩ := id C0
  refine lv_aload_n hx hb dX2_goes_0 rfl (lv_at hl 0 rfl) ?_
  refine z_getP C0 inP_X2_goes hw hq0 2 (by decide) (v := .ref (F 56)) rfl 1 rfl (Or.inr ⟨2, rfl⟩) dX2_goes_1 ?_
  refine lv_bipush (v := 30) hx hb dX2_goes_4 (by decide) ?_
  obtain ⟨w1, ew1, h⟩ := z_bd h
  refine z_gov C0 hw hS (res := w1) (rest := []) (arr := (Value.ref (F 56) :: [.int 30]).toArray) ?_ (fun H locs hw hS => ?_)
  · exact va_runV (z_fix C0) (c_X9_began l D Y F G S _ 30 w1 ew1) (cwV 1 hts gX2_goes_X9_began rfl rfl rfl (by decide +kernel) ⟨Nat.le_of_ble_eq_true rfl, Nat.le_of_ble_eq_true rfl⟩) ⟨zPc_blind, z_rv C0 hw (k := 56) rfl rfl rfl rfl, z_give C0 hw hS _⟩ rfl rfl hl.1 rfl (lv_room (Nat.le_of_ble_eq_true rfl)) dX2_goes_6 ⟨Nat.zero_le _, Nat.zero_le _⟩
  refine lv_aload_n hx hb dX2_goes_9 rfl (lv_at hl 0 rfl) ?_
  refine lv_iload_n hx hb dX2_goes_10 rfl (lv_at hl 1 rfl) ?_
  obtain ⟨w2, ew2, h⟩ := z_bd h
  refine z_goi C0 hw hS (res := w2) (rest := []) (arr := (Value.ref (zad F G (100 + 4 * q0)) :: [.int x1]).toArray) ?_ (fun H locs hw hS => ?_)
  · rcases zOK_cases hq0 with zz | zz | zz | zz | zz | zz | zz
    · exact va_runSU (z_pat C0 (ci := 0) rfl) (z_fix C0) (c_X5_goes l D Y F G w1 _ q0 hq0 x1 w2 ew2) (va_cwSU 1 hts gX2_goes_X5_goes_s23 rfl rfl rfl (by decide +kernel) ⟨Nat.le_of_ble_eq_true rfl, Nat.le_of_ble_eq_true rfl⟩) ⟨zPc_blind, z_prec C0 hw hq0 (ci := 0) zz rfl, z_give C0 hw hS _⟩ rfl rfl hl.1 rfl (lv_room (Nat.le_of_ble_eq_true rfl)) dX2_goes_11 ⟨Nat.zero_le _, Nat.zero_le _⟩
    · exact va_runSU (z_pat C0 (ci := 1) rfl) (z_fix C0) (c_X5_goes l D Y F G w1 _ q0 hq0 x1 w2 ew2) (va_cwSU 1 hts gX2_goes_X5_goes_s23 rfl rfl rfl (by decide +kernel) ⟨Nat.le_of_ble_eq_true rfl, Nat.le_of_ble_eq_true rfl⟩) ⟨zPc_blind, z_prec C0 hw hq0 (ci := 1) zz rfl, z_give C0 hw hS _⟩ rfl rfl hl.1 rfl (lv_room (Nat.le_of_ble_eq_true rfl)) dX2_goes_11 ⟨Nat.zero_le _, Nat.zero_le _⟩
    · exact va_runSU (z_pat C0 (ci := 2) rfl) (z_fix C0) (c_X5_goes l D Y F G w1 _ q0 hq0 x1 w2 ew2) (va_cwSU 1 hts gX2_goes_X5_goes_s23 rfl rfl rfl (by decide +kernel) ⟨Nat.le_of_ble_eq_true rfl, Nat.le_of_ble_eq_true rfl⟩) ⟨zPc_blind, z_prec C0 hw hq0 (ci := 2) zz rfl, z_give C0 hw hS _⟩ rfl rfl hl.1 rfl (lv_room (Nat.le_of_ble_eq_true rfl)) dX2_goes_11 ⟨Nat.zero_le _, Nat.zero_le _⟩
    · exact va_runSU (z_pat C0 (ci := 3) rfl) (z_fix C0) (c_X5_goes l D Y F G w1 _ q0 hq0 x1 w2 ew2) (va_cwSU 1 hts gX2_goes_X5_goes_s23 rfl rfl rfl (by decide +kernel) ⟨Nat.le_of_ble_eq_true rfl, Nat.le_of_ble_eq_true rfl⟩) ⟨zPc_blind, z_prec C0 hw hq0 (ci := 3) zz rfl, z_give C0 hw hS _⟩ rfl rfl hl.1 rfl (lv_room (Nat.le_of_ble_eq_true rfl)) dX2_goes_11 ⟨Nat.zero_le _, Nat.zero_le _⟩
    · exact va_runSU (z_pat C0 (ci := 5) rfl) (z_fix C0) (c_X5_goes l D Y F G w1 _ q0 hq0 x1 w2 ew2) (va_cwSU 1 hts gX2_goes_X5_goes_s23 rfl rfl rfl (by decide +kernel) ⟨Nat.le_of_ble_eq_true rfl, Nat.le_of_ble_eq_true rfl⟩) ⟨zPc_blind, z_prec C0 hw hq0 (ci := 5) zz rfl, z_give C0 hw hS _⟩ rfl rfl hl.1 rfl (lv_room (Nat.le_of_ble_eq_true rfl)) dX2_goes_11 ⟨Nat.zero_le _, Nat.zero_le _⟩
    · exact va_runSU (z_pat C0 (ci := 8) rfl) (z_fix C0) (c_X5_goes l D Y F G w1 _ q0 hq0 x1 w2 ew2) (va_cwSU 1 hts gX2_goes_X5_goes_s23 rfl rfl rfl (by decide +kernel) ⟨Nat.le_of_ble_eq_true rfl, Nat.le_of_ble_eq_true rfl⟩) ⟨zPc_blind, z_prec C0 hw hq0 (ci := 8) zz rfl, z_give C0 hw hS _⟩ rfl rfl hl.1 rfl (lv_room (Nat.le_of_ble_eq_true rfl)) dX2_goes_11 ⟨Nat.zero_le _, Nat.zero_le _⟩
    · exact va_runSU (z_pat C0 (ci := 10) rfl) (z_fix C0) (c_X5_goes l D Y F G w1 _ q0 hq0 x1 w2 ew2) (va_cwSU 1 hts gX2_goes_X5_goes_s23 rfl rfl rfl (by decide +kernel) ⟨Nat.le_of_ble_eq_true rfl, Nat.le_of_ble_eq_true rfl⟩) ⟨zPc_blind, z_prec C0 hw hq0 (ci := 10) zz rfl, z_give C0 hw hS _⟩ rfl rfl hl.1 rfl (lv_room (Nat.le_of_ble_eq_true rfl)) dX2_goes_11 ⟨Nat.zero_le _, Nat.zero_le _⟩
  refine lv_iconst (v := 3) hx hb dX2_goes_14 (by decide) ?_
  refine lv_imul hx hb dX2_goes_15 ?_
  exact z_reti C0 hw hS (Option.some.inj h) dX2_goes_16
def M_X10_goes (pk : Nat → Nat) (S : zSt) (q0 : Nat) (x1 : Int32) : Option (Int32 × zSt) :=
  Option.bind (M_X9_began pk S 40) (fun w1 => Option.bind (M_X2_goes pk w1 q0 ((x1 + 1))) (fun w2 => some (w2.1, w2.2)))
set_option maxHeartbeats 4000000 in
set_option maxRecDepth 100000 in
theorem c_X10_goes (l : Launch) (D : va_G) (Y : Nat → ClassId) (F : Nat → Nat) (G : zG) (S : zSt) (sz : Nat) (q0 : Nat) (hq0 : zOKb (zpk G) q0 = true) (x1 : Int32) (res : Int32 × zSt) (h : M_X10_goes (zpk G) S q0 x1 = some res) : Met l yX10_goes wsX10_goes (zRm 6 126) (zPc D Y F G S sz [.ref (zad F G (100 + 4 * q0)), .int x1]) (zQi D Y F (zAo F G sz) G res) 0 0 (zAo F G sz) := by
  unfold M_X10_goes at h
  refine zMet (cc := cX10_goes) (maxL := 2) (ret := (some .int)) (own := RX10) (by decide +kernel) rfl rfl (Nat.le_of_ble_eq_true rfl) ?_
  intro p e s m args below meth c C0 hin hw hS ls hl
  have hl : lv_has ls 2 [(0, .ref (zad F G (100 + 4 * q0))), (1, .int x1)] := hl
  generalize zAo F G sz = A at C0 hw hS ⊢
  obtain ⟨hx, hb, hml, hr, hown, hts, hK, hA, hlk, hN⟩ := id C0
  refine lv_aload_n hx hb dX10_goes_0 rfl (lv_at hl 0 rfl) ?_
  refine z_getP C0 inP_X10_goes hw hq0 2 (by decide) (v := .ref (F 56)) rfl 1 rfl (Or.inr ⟨2, rfl⟩) dX10_goes_1 ?_
  refine lv_bipush (v := 40) hx hb dX10_goes_4 (by decide) ?_
  obtain ⟨w1, ew1, h⟩ := z_bd h
  refine z_gov C0 hw hS (res := w1) (rest := []) (arr := (Value.ref (F 56) :: [.int 40]).toArray) ?_ (fun H locs hw hS => ?_)
  · exact va_runV (z_fix C0) (c_X9_began l D Y F G S _ 40 w1 ew1) (cwV 1 hts gX10_goes_X9_began rfl rfl rfl (by decide +kernel) ⟨Nat.le_of_ble_eq_true rfl, Nat.le_of_ble_eq_true rfl⟩) ⟨zPc_blind, z_rv C0 hw (k := 56) rfl rfl rfl rfl, z_give C0 hw hS _⟩ rfl rfl hl.1 rfl (lv_room (Nat.le_of_ble_eq_true rfl)) dX10_goes_6 ⟨Nat.zero_le _, Nat.zero_le _⟩
  refine lv_aload_n hx hb dX10_goes_9 rfl (lv_at hl 0 rfl) ?_
  refine lv_iload_n hx hb dX10_goes_10 rfl (lv_at hl 1 rfl) ?_
  refine lv_iconst (v := 1) hx hb dX10_goes_11 (by decide) ?_
  refine lv_iadd hx hb dX10_goes_12 ?_
  obtain ⟨w2, ew2, h⟩ := z_bd h
  refine z_goi C0 hw hS (res := w2) (rest := []) (arr := (Value.ref (zad F G (100 + 4 * q0)) :: [.int ((x1 + 1))]).toArray) ?_ (fun H locs hw hS => ?_)
  · rcases zOK_cases hq0 with zz | zz | zz | zz | zz | zz | zz
    · exact va_runSU (z_pat C0 (ci := 0) rfl) (z_fix C0) (c_X2_goes l D Y F G w1 _ q0 hq0 ((x1 + 1)) w2 ew2) (va_cwSU 1 hts gX10_goes_X2_goes_s25 rfl rfl rfl (by decide +kernel) ⟨Nat.le_of_ble_eq_true rfl, Nat.le_of_ble_eq_true rfl⟩) ⟨zPc_blind, z_prec C0 hw hq0 (ci := 0) zz rfl, z_give C0 hw hS _⟩ rfl rfl hl.1 rfl (lv_room (Nat.le_of_ble_eq_true rfl)) dX10_goes_13 ⟨Nat.zero_le _, Nat.zero_le _⟩
    · exact va_runSU (z_pat C0 (ci := 1) rfl) (z_fix C0) (c_X2_goes l D Y F G w1 _ q0 hq0 ((x1 + 1)) w2 ew2) (va_cwSU 1 hts gX10_goes_X2_goes_s25 rfl rfl rfl (by decide +kernel) ⟨Nat.le_of_ble_eq_true rfl, Nat.le_of_ble_eq_true rfl⟩) ⟨zPc_blind, z_prec C0 hw hq0 (ci := 1) zz rfl, z_give C0 hw hS _⟩ rfl rfl hl.1 rfl (lv_room (Nat.le_of_ble_eq_true rfl)) dX10_goes_13 ⟨Nat.zero_le _, Nat.zero_le _⟩
    · exact va_runSU (z_pat C0 (ci := 2) rfl) (z_fix C0) (c_X2_goes l D Y F G w1 _ q0 hq0 ((x1 + 1)) w2 ew2) (va_cwSU 1 hts gX10_goes_X2_goes_s25 rfl rfl rfl (by decide +kernel) ⟨Nat.le_of_ble_eq_true rfl, Nat.le_of_ble_eq_true rfl⟩) ⟨zPc_blind, z_prec C0 hw hq0 (ci := 2) zz rfl, z_give C0 hw hS _⟩ rfl rfl hl.1 rfl (lv_room (Nat.le_of_ble_eq_true rfl)) dX10_goes_13 ⟨Nat.zero_le _, Nat.zero_le _⟩
    · exact va_runSU (z_pat C0 (ci := 3) rfl) (z_fix C0) (c_X2_goes l D Y F G w1 _ q0 hq0 ((x1 + 1)) w2 ew2) (va_cwSU 1 hts gX10_goes_X2_goes_s25 rfl rfl rfl (by decide +kernel) ⟨Nat.le_of_ble_eq_true rfl, Nat.le_of_ble_eq_true rfl⟩) ⟨zPc_blind, z_prec C0 hw hq0 (ci := 3) zz rfl, z_give C0 hw hS _⟩ rfl rfl hl.1 rfl (lv_room (Nat.le_of_ble_eq_true rfl)) dX10_goes_13 ⟨Nat.zero_le _, Nat.zero_le _⟩
    · exact va_runSU (z_pat C0 (ci := 5) rfl) (z_fix C0) (c_X2_goes l D Y F G w1 _ q0 hq0 ((x1 + 1)) w2 ew2) (va_cwSU 1 hts gX10_goes_X2_goes_s25 rfl rfl rfl (by decide +kernel) ⟨Nat.le_of_ble_eq_true rfl, Nat.le_of_ble_eq_true rfl⟩) ⟨zPc_blind, z_prec C0 hw hq0 (ci := 5) zz rfl, z_give C0 hw hS _⟩ rfl rfl hl.1 rfl (lv_room (Nat.le_of_ble_eq_true rfl)) dX10_goes_13 ⟨Nat.zero_le _, Nat.zero_le _⟩
    · exact va_runSU (z_pat C0 (ci := 8) rfl) (z_fix C0) (c_X2_goes l D Y F G w1 _ q0 hq0 ((x1 + 1)) w2 ew2) (va_cwSU 1 hts gX10_goes_X2_goes_s25 rfl rfl rfl (by decide +kernel) ⟨Nat.le_of_ble_eq_true rfl, Nat.le_of_ble_eq_true rfl⟩) ⟨zPc_blind, z_prec C0 hw hq0 (ci := 8) zz rfl, z_give C0 hw hS _⟩ rfl rfl hl.1 rfl (lv_room (Nat.le_of_ble_eq_true rfl)) dX10_goes_13 ⟨Nat.zero_le _, Nat.zero_le _⟩
    · exact va_runSU (z_pat C0 (ci := 10) rfl) (z_fix C0) (c_X2_goes l D Y F G w1 _ q0 hq0 ((x1 + 1)) w2 ew2) (va_cwSU 1 hts gX10_goes_X2_goes_s25 rfl rfl rfl (by decide +kernel) ⟨Nat.le_of_ble_eq_true rfl, Nat.le_of_ble_eq_true rfl⟩) ⟨zPc_blind, z_prec C0 hw hq0 (ci := 10) zz rfl, z_give C0 hw hS _⟩ rfl rfl hl.1 rfl (lv_room (Nat.le_of_ble_eq_true rfl)) dX10_goes_13 ⟨Nat.zero_le _, Nat.zero_le _⟩
  exact z_reti C0 hw hS (Option.some.inj h) dX10_goes_16
def V_goes (pk : Nat → Nat) (S : zSt) (q : Nat) (x1 : Int32) : Option (Int32 × zSt) :=
  if pk q = 1 then M_X5_goes pk S q x1 else if pk q = 2 then M_X1_goes pk S q x1 else if pk q = 3 then M_X2_goes pk S q x1 else if pk q = 4 then M_X5_goes pk S q x1 else if pk q = 6 then M_X5_goes pk S q x1 else if pk q = 9 then M_X5_goes pk S q x1 else if pk q = 11 then M_X10_goes pk S q x1 else none
theorem V_goes_X0 {pk : Nat → Nat} {S : zSt} {q : Nat} {x1 : Int32} {w : Int32 × zSt} (hp : pk q = 1) (hv : V_goes pk S q x1 = some w) : M_X5_goes pk S q x1 = some w := by
  unfold V_goes at hv
  rw [if_pos hp] at hv
  exact hv
theorem V_goes_X1 {pk : Nat → Nat} {S : zSt} {q : Nat} {x1 : Int32} {w : Int32 × zSt} (hp : pk q = 2) (hv : V_goes pk S q x1 = some w) : M_X1_goes pk S q x1 = some w := by
  unfold V_goes at hv
  rw [if_neg (show ¬ (pk q = 1) by omega)] at hv
  rw [if_pos hp] at hv
  exact hv
theorem V_goes_X2 {pk : Nat → Nat} {S : zSt} {q : Nat} {x1 : Int32} {w : Int32 × zSt} (hp : pk q = 3) (hv : V_goes pk S q x1 = some w) : M_X2_goes pk S q x1 = some w := by
  unfold V_goes at hv
  rw [if_neg (show ¬ (pk q = 1) by omega)] at hv
  rw [if_neg (show ¬ (pk q = 2) by omega)] at hv
  rw [if_pos hp] at hv
  exact hv
theorem V_goes_X3 {pk : Nat → Nat} {S : zSt} {q : Nat} {x1 : Int32} {w : Int32 × zSt} (hp : pk q = 4) (hv : V_goes pk S q x1 = some w) : M_X5_goes pk S q x1 = some w := by
  unfold V_goes at hv
  rw [if_neg (show ¬ (pk q = 1) by omega)] at hv
  rw [if_neg (show ¬ (pk q = 2) by omega)] at hv
  rw [if_neg (show ¬ (pk q = 3) by omega)] at hv
  rw [if_pos hp] at hv
  exact hv
theorem V_goes_X5 {pk : Nat → Nat} {S : zSt} {q : Nat} {x1 : Int32} {w : Int32 × zSt} (hp : pk q = 6) (hv : V_goes pk S q x1 = some w) : M_X5_goes pk S q x1 = some w := by
  unfold V_goes at hv
  rw [if_neg (show ¬ (pk q = 1) by omega)] at hv
  rw [if_neg (show ¬ (pk q = 2) by omega)] at hv
  rw [if_neg (show ¬ (pk q = 3) by omega)] at hv
  rw [if_neg (show ¬ (pk q = 4) by omega)] at hv
  rw [if_pos hp] at hv
  exact hv
theorem V_goes_X8 {pk : Nat → Nat} {S : zSt} {q : Nat} {x1 : Int32} {w : Int32 × zSt} (hp : pk q = 9) (hv : V_goes pk S q x1 = some w) : M_X5_goes pk S q x1 = some w := by
  unfold V_goes at hv
  rw [if_neg (show ¬ (pk q = 1) by omega)] at hv
  rw [if_neg (show ¬ (pk q = 2) by omega)] at hv
  rw [if_neg (show ¬ (pk q = 3) by omega)] at hv
  rw [if_neg (show ¬ (pk q = 4) by omega)] at hv
  rw [if_neg (show ¬ (pk q = 6) by omega)] at hv
  rw [if_pos hp] at hv
  exact hv
theorem V_goes_X10 {pk : Nat → Nat} {S : zSt} {q : Nat} {x1 : Int32} {w : Int32 × zSt} (hp : pk q = 11) (hv : V_goes pk S q x1 = some w) : M_X10_goes pk S q x1 = some w := by
  unfold V_goes at hv
  rw [if_neg (show ¬ (pk q = 1) by omega)] at hv
  rw [if_neg (show ¬ (pk q = 2) by omega)] at hv
  rw [if_neg (show ¬ (pk q = 3) by omega)] at hv
  rw [if_neg (show ¬ (pk q = 4) by omega)] at hv
  rw [if_neg (show ¬ (pk q = 6) by omega)] at hv
  rw [if_neg (show ¬ (pk q = 9) by omega)] at hv
  rw [if_pos hp] at hv
  exact hv
def M_X5_looks (pk : Nat → Nat) (S : zSt) (q0 : Nat) (x1 : Int32) : Option (Int32 × zSt) :=
  Option.bind (M_X9_began pk S 12) (fun w1 => Option.bind (V_goes pk w1 q0 x1) (fun w2 => Option.bind (V_lives pk w2.2 q0 ((x1 - (zsc w2.2 (100 + 4 * q0) 6)))) (fun w3 => some ((w2.1 ^^^ w3.1), w3.2))))
set_option maxHeartbeats 4000000 in
set_option maxRecDepth 100000 in
theorem c_X5_looks (l : Launch) (D : va_G) (Y : Nat → ClassId) (F : Nat → Nat) (G : zG) (S : zSt) (sz : Nat) (q0 : Nat) (hq0 : zOKb (zpk G) q0 = true) (x1 : Int32) (res : Int32 × zSt) (h : M_X5_looks (zpk G) S q0 x1 = some res) : Met l yX5_looks wsX5_looks (zRm 7 147) (zPc D Y F G S sz [.ref (zad F G (100 + 4 * q0)), .int x1]) (zQi D Y F (zAo F G sz) G res) 0 0 (zAo F G sz) := by
  unfold M_X5_looks at h
  refine zMet (cc := cX5_looks) (maxL := 2) (ret := (some .int)) (own := RX5) (by decide +kernel) rfl rfl (Nat.le_of_ble_eq_true rfl) ?_
  intro p e s m args below meth c C0 hin hw hS ls hl
  have hl : lv_has ls 2 [(0, .ref (zad F G (100 + 4 * q0))), (1, .int x1)] := hl
  generalize zAo F G sz = A at C0 hw hS ⊢
  obtain ⟨hx, hb, hml, hr, hown, hts, hK, hA, hlk, hN⟩ := id C0
  refine lv_aload_n hx hb dX5_looks_0 rfl (lv_at hl 0 rfl) ?_
  refine z_getP C0 inP_X5_looks hw hq0 2 (by decide) (v := .ref (F 56)) rfl 1 rfl (Or.inl rfl) dX5_looks_1 ?_
  refine lv_bipush (v := 12) hx hb dX5_looks_4 (by decide) ?_
  obtain ⟨w1, ew1, h⟩ := z_bd h
  refine z_gov C0 hw hS (res := w1) (rest := []) (arr := (Value.ref (F 56) :: [.int 12]).toArray) ?_ (fun H locs hw hS => ?_)
  · exact va_runV (z_fix C0) (c_X9_began l D Y F G S _ 12 w1 ew1) (cwV 1 hts gX5_looks_X9_began rfl rfl rfl (by decide +kernel) ⟨Nat.le_of_ble_eq_true rfl, Nat.le_of_ble_eq_true rfl⟩) ⟨zPc_blind, z_rv C0 hw (k := 56) rfl rfl rfl rfl, z_give C0 hw hS _⟩ rfl rfl hl.1 rfl (lv_room (Nat.le_of_ble_eq_true rfl)) dX5_looks_6 ⟨Nat.zero_le _, Nat.zero_le _⟩
  refine lv_aload_n hx hb dX5_looks_9 rfl (lv_at hl 0 rfl) ?_
  refine lv_iload_n hx hb dX5_looks_10 rfl (lv_at hl 1 rfl) ?_
  obtain ⟨w2, ew2, h⟩ := z_bd h
  refine z_goi C0 hw hS (res := w2) (rest := []) (arr := (Value.ref (zad F G (100 + 4 * q0)) :: [.int x1]).toArray) ?_ (fun H locs hw hS => ?_)
  · rcases zOK_cases hq0 with zz | zz | zz | zz | zz | zz | zz
    · exact va_runU (z_fix C0) (c_X5_goes l D Y F G w1 _ q0 hq0 x1 w2 (V_goes_X0 zz ew2)) (va_cwU 1 hts gX5_looks_X5_goes_u63X0 rfl rfl rfl rfl (by decide +kernel) ⟨Nat.le_of_ble_eq_true rfl, Nat.le_of_ble_eq_true rfl⟩) ⟨zPc_blind, z_prec C0 hw hq0 (ci := 0) zz rfl, z_give C0 hw hS _⟩ rfl rfl hl.1 rfl (lv_room (Nat.le_of_ble_eq_true rfl)) dX5_looks_11 ⟨Nat.zero_le _, Nat.zero_le _⟩
    · exact va_runU (z_fix C0) (c_X1_goes l D Y F G w1 _ q0 hq0 x1 w2 (V_goes_X1 zz ew2)) (va_cwO 1 hts gX5_looks_X1_goes_u63X1 rfl rfl rfl (List.mem_of_getElem? (i := 15) rfl) (by decide +kernel) ⟨Nat.le_of_ble_eq_true rfl, Nat.le_of_ble_eq_true rfl⟩) ⟨zPc_blind, z_prec C0 hw hq0 (ci := 1) zz rfl, z_give C0 hw hS _⟩ rfl rfl hl.1 rfl (lv_room (Nat.le_of_ble_eq_true rfl)) dX5_looks_11 ⟨Nat.zero_le _, Nat.zero_le _⟩
    · exact va_runU (z_fix C0) (c_X2_goes l D Y F G w1 _ q0 hq0 x1 w2 (V_goes_X2 zz ew2)) (va_cwO 1 hts gX5_looks_X2_goes_u63X2 rfl rfl rfl (List.mem_of_getElem? (i := 15) rfl) (by decide +kernel) ⟨Nat.le_of_ble_eq_true rfl, Nat.le_of_ble_eq_true rfl⟩) ⟨zPc_blind, z_prec C0 hw hq0 (ci := 2) zz rfl, z_give C0 hw hS _⟩ rfl rfl hl.1 rfl (lv_room (Nat.le_of_ble_eq_true rfl)) dX5_looks_11 ⟨Nat.zero_le _, Nat.zero_le _⟩
    · exact va_runU (z_fix C0) (c_X5_goes l D Y F G w1 _ q0 hq0 x1 w2 (V_goes_X3 zz ew2)) (va_cwU 1 hts gX5_looks_X5_goes_u63X3 rfl rfl rfl rfl (by decide +kernel) ⟨Nat.le_of_ble_eq_true rfl, Nat.le_of_ble_eq_true rfl⟩) ⟨zPc_blind, z_prec C0 hw hq0 (ci := 3) zz rfl, z_give C0 hw hS _⟩ rfl rfl hl.1 rfl (lv_room (Nat.le_of_ble_eq_true rfl)) dX5_looks_11 ⟨Nat.zero_le _, Nat.zero_le _⟩
    · exact va_runV (z_fix C0) (c_X5_goes l D Y F G w1 _ q0 hq0 x1 w2 (V_goes_X5 zz ew2)) (cwV 1 hts gX5_looks_X5_goes rfl rfl rfl (by decide +kernel) ⟨Nat.le_of_ble_eq_true rfl, Nat.le_of_ble_eq_true rfl⟩) ⟨zPc_blind, z_prec C0 hw hq0 (ci := 5) zz rfl, z_give C0 hw hS _⟩ rfl rfl hl.1 rfl (lv_room (Nat.le_of_ble_eq_true rfl)) dX5_looks_11 ⟨Nat.zero_le _, Nat.zero_le _⟩
    · exact va_runU (z_fix C0) (c_X5_goes l D Y F G w1 _ q0 hq0 x1 w2 (V_goes_X8 zz ew2)) (va_cwU 1 hts gX5_looks_X5_goes_u63X8 rfl rfl rfl rfl (by decide +kernel) ⟨Nat.le_of_ble_eq_true rfl, Nat.le_of_ble_eq_true rfl⟩) ⟨zPc_blind, z_prec C0 hw hq0 (ci := 8) zz rfl, z_give C0 hw hS _⟩ rfl rfl hl.1 rfl (lv_room (Nat.le_of_ble_eq_true rfl)) dX5_looks_11 ⟨Nat.zero_le _, Nat.zero_le _⟩
    · exact va_runU (z_fix C0) (c_X10_goes l D Y F G w1 _ q0 hq0 x1 w2 (V_goes_X10 zz ew2)) (va_cwO 1 hts gX5_looks_X10_goes_u63X10 rfl rfl rfl (List.mem_of_getElem? (i := 15) rfl) (by decide +kernel) ⟨Nat.le_of_ble_eq_true rfl, Nat.le_of_ble_eq_true rfl⟩) ⟨zPc_blind, z_prec C0 hw hq0 (ci := 10) zz rfl, z_give C0 hw hS _⟩ rfl rfl hl.1 rfl (lv_room (Nat.le_of_ble_eq_true rfl)) dX5_looks_11 ⟨Nat.zero_le _, Nat.zero_le _⟩
  refine lv_aload_n hx hb dX5_looks_14 rfl (lv_at hl 0 rfl) ?_
  refine lv_iload_n hx hb dX5_looks_15 rfl (lv_at hl 1 rfl) ?_
  refine lv_aload_n hx hb dX5_looks_16 rfl (lv_at hl 0 rfl) ?_
  refine z_getP C0 inP_X5_looks hw hq0 6 (by decide) (v := .int ((zsc w2.2 (100 + 4 * q0) 6))) rfl 2 rfl (Or.inl rfl) dX5_looks_17 ?_
  refine lv_isub hx hb dX5_looks_20 ?_
  obtain ⟨w3, ew3, h⟩ := z_bd h
  refine z_goi C0 hw hS (res := w3) (rest := [.int w2.1]) (arr := (Value.ref (zad F G (100 + 4 * q0)) :: [.int ((x1 - (zsc w2.2 (100 + 4 * q0) 6)))]).toArray) ?_ (fun H locs hw hS => ?_)
  · rcases zOK_cases hq0 with zz | zz | zz | zz | zz | zz | zz
    · exact va_runU (z_fix C0) (c_X3_lives l D Y F G w2.2 _ q0 hq0 ((x1 - (zsc w2.2 (100 + 4 * q0) 6))) w3 (V_lives_X0 zz ew3)) (va_cwO 1 hts gX5_looks_X3_lives_u59X0 rfl rfl rfl (List.mem_of_getElem? (i := 31) rfl) (by decide +kernel) ⟨Nat.le_of_ble_eq_true rfl, Nat.le_of_ble_eq_true rfl⟩) ⟨zPc_blind, z_prec C0 hw hq0 (ci := 0) zz rfl, z_give C0 hw hS _⟩ rfl rfl hl.1 rfl (lv_room (Nat.le_of_ble_eq_true rfl)) dX5_looks_21 ⟨Nat.zero_le _, Nat.zero_le _⟩
    · exact va_runU (z_fix C0) (c_X1_lives l D Y F G w2.2 _ q0 hq0 ((x1 - (zsc w2.2 (100 + 4 * q0) 6))) w3 (V_lives_X1 zz ew3)) (va_cwO 1 hts gX5_looks_X1_lives_u59X1 rfl rfl rfl (List.mem_of_getElem? (i := 31) rfl) (by decide +kernel) ⟨Nat.le_of_ble_eq_true rfl, Nat.le_of_ble_eq_true rfl⟩) ⟨zPc_blind, z_prec C0 hw hq0 (ci := 1) zz rfl, z_give C0 hw hS _⟩ rfl rfl hl.1 rfl (lv_room (Nat.le_of_ble_eq_true rfl)) dX5_looks_21 ⟨Nat.zero_le _, Nat.zero_le _⟩
    · exact va_runU (z_fix C0) (c_X5_lives l D Y F G w2.2 _ q0 hq0 ((x1 - (zsc w2.2 (100 + 4 * q0) 6))) w3 (V_lives_X2 zz ew3)) (va_cwU 1 hts gX5_looks_X5_lives_u59X2 rfl rfl rfl rfl (by decide +kernel) ⟨Nat.le_of_ble_eq_true rfl, Nat.le_of_ble_eq_true rfl⟩) ⟨zPc_blind, z_prec C0 hw hq0 (ci := 2) zz rfl, z_give C0 hw hS _⟩ rfl rfl hl.1 rfl (lv_room (Nat.le_of_ble_eq_true rfl)) dX5_looks_21 ⟨Nat.zero_le _, Nat.zero_le _⟩
    · exact va_runU (z_fix C0) (c_X3_lives l D Y F G w2.2 _ q0 hq0 ((x1 - (zsc w2.2 (100 + 4 * q0) 6))) w3 (V_lives_X3 zz ew3)) (va_cwO 1 hts gX5_looks_X3_lives_u59X3 rfl rfl rfl (List.mem_of_getElem? (i := 31) rfl) (by decide +kernel) ⟨Nat.le_of_ble_eq_true rfl, Nat.le_of_ble_eq_true rfl⟩) ⟨zPc_blind, z_prec C0 hw hq0 (ci := 3) zz rfl, z_give C0 hw hS _⟩ rfl rfl hl.1 rfl (lv_room (Nat.le_of_ble_eq_true rfl)) dX5_looks_21 ⟨Nat.zero_le _, Nat.zero_le _⟩
    · exact va_runV (z_fix C0) (c_X5_lives l D Y F G w2.2 _ q0 hq0 ((x1 - (zsc w2.2 (100 + 4 * q0) 6))) w3 (V_lives_X5 zz ew3)) (cwV 1 hts gX5_looks_X5_lives rfl rfl rfl (by decide +kernel) ⟨Nat.le_of_ble_eq_true rfl, Nat.le_of_ble_eq_true rfl⟩) ⟨zPc_blind, z_prec C0 hw hq0 (ci := 5) zz rfl, z_give C0 hw hS _⟩ rfl rfl hl.1 rfl (lv_room (Nat.le_of_ble_eq_true rfl)) dX5_looks_21 ⟨Nat.zero_le _, Nat.zero_le _⟩
    · exact va_runU (z_fix C0) (c_X8_lives l D Y F G w2.2 _ q0 hq0 ((x1 - (zsc w2.2 (100 + 4 * q0) 6))) w3 (V_lives_X8 zz ew3)) (va_cwO 1 hts gX5_looks_X8_lives_u59X8 rfl rfl rfl (List.mem_of_getElem? (i := 31) rfl) (by decide +kernel) ⟨Nat.le_of_ble_eq_true rfl, Nat.le_of_ble_eq_true rfl⟩) ⟨zPc_blind, z_prec C0 hw hq0 (ci := 8) zz rfl, z_give C0 hw hS _⟩ rfl rfl hl.1 rfl (lv_room (Nat.le_of_ble_eq_true rfl)) dX5_looks_21 ⟨Nat.zero_le _, Nat.zero_le _⟩
    · exact va_runU (z_fix C0) (c_X5_lives l D Y F G w2.2 _ q0 hq0 ((x1 - (zsc w2.2 (100 + 4 * q0) 6))) w3 (V_lives_X10 zz ew3)) (va_cwU 1 hts gX5_looks_X5_lives_u59X10 rfl rfl rfl rfl (by decide +kernel) ⟨Nat.le_of_ble_eq_true rfl, Nat.le_of_ble_eq_true rfl⟩) ⟨zPc_blind, z_prec C0 hw hq0 (ci := 10) zz rfl, z_give C0 hw hS _⟩ rfl rfl hl.1 rfl (lv_room (Nat.le_of_ble_eq_true rfl)) dX5_looks_21 ⟨Nat.zero_le _, Nat.zero_le _⟩
  refine lv_ixor hx hb dX5_looks_24 ?_
  exact z_reti C0 hw hS (Option.some.inj h) dX5_looks_25
def M_X5_isGone (pk : Nat → Nat) (S : zSt) (q0 : Nat) : Option (Int32) :=
  (if (zsc S (100 + 4 * q0) 8) < 6 then some 0 else some 1)
set_option maxHeartbeats 4000000 in
set_option maxRecDepth 100000 in
theorem c_X5_isGone (l : Launch) (D : va_G) (Y : Nat → ClassId) (F : Nat → Nat) (G : zG) (S : zSt) (sz : Nat) (q0 : Nat) (hq0 : zOKb (zpk G) q0 = true) (res : Int32) (h : M_X5_isGone (zpk G) S q0 = some res) : Met l yX5_isGone wsX5_isGone (zRm 0 0) (zPc D Y F G S sz [.ref (zad F G (100 + 4 * q0))]) (zQi D Y F (zAo F G sz) G (res, S)) 0 0 (zAo F G sz) := by
  unfold M_X5_isGone at h
  refine zMet (cc := cX5_isGone) (maxL := 1) (ret := (some .boolean)) (own := RX5) (by decide +kernel) rfl rfl (Nat.le_of_ble_eq_true rfl) ?_
  intro p e s m args below meth c C0 hin hw hS ls hl
  have hl : lv_has ls 1 [(0, .ref (zad F G (100 + 4 * q0)))] := hl
  generalize zAo F G sz = A at C0 hw hS ⊢
  obtain ⟨hx, hb, hml, hr, hown, hts, hK, hA, hlk, hN⟩ := id C0
  refine lv_aload_n hx hb dX5_isGone_0 rfl (lv_at hl 0 rfl) ?_
  refine z_getP C0 inP_X5_isGone hw hq0 8 (by decide) (v := .int ((zsc S (100 + 4 * q0) 8))) rfl 1 rfl (Or.inl rfl) dX5_isGone_1 ?_
  refine lv_bipush (v := 6) hx hb dX5_isGone_4 (by decide) ?_
  refine lv_icmp_lt (tgt := 13) hx hb dX5_isGone_6 (by decide) (fun c1 => ?_) (fun c1 => ?_)
  · replace h := z_ifp c1 h
    refine lv_iconst (v := 0) hx hb dX5_isGone_13 (by decide) ?_
    exact z_retz C0 hw hS rfl (congrArg (fun z => (z, S)) (Option.some.inj h)) dX5_isGone_14
  · replace h := z_ifn c1 h
    refine lv_iconst (v := 1) hx hb dX5_isGone_9 (by decide) ?_
    refine lv_goto (tgt := 14) hx hb dX5_isGone_10 (by decide) ?_
    exact z_retz C0 hw hS rfl (congrArg (fun z => (z, S)) (Option.some.inj h)) dX5_isGone_14
def M_X11_isCopy (pk : Nat → Nat) (S : zSt) (x0 : Int32) : Option (Int32) :=
  (if x0 < 0 then some 0 else (if 6 ≤ x0 then some 0 else some 1))
set_option maxHeartbeats 4000000 in
set_option maxRecDepth 100000 in
theorem c_X11_isCopy (l : Launch) (D : va_G) (Y : Nat → ClassId) (F : Nat → Nat) (G : zG) (S : zSt) (sz : Nat) (x0 : Int32) (res : Int32) (h : M_X11_isCopy (zpk G) S x0 = some res) : Met l yX11_isCopy wsX11_isCopy (zRm 0 0) (zPc D Y F G S sz [.int x0]) (zQi D Y F (zAo F G sz) G (res, S)) 0 0 (zAo F G sz) := by
  unfold M_X11_isCopy at h
  refine zMet (cc := cX11_isCopy) (maxL := 1) (ret := (some .boolean)) (own := RX11) (by decide +kernel) rfl rfl (Nat.le_of_ble_eq_true rfl) ?_
  intro p e s m args below meth c C0 hin hw hS ls hl
  have hl : lv_has ls 1 [(0, .int x0)] := hl
  generalize zAo F G sz = A at C0 hw hS ⊢
  obtain ⟨hx, hb, hml, hr, hown, hts, hK, hA, hlk, hN⟩ := id C0
  refine lv_iload_n hx hb dX11_isCopy_0 rfl (lv_at hl 0 rfl) ?_
  refine lv_if_lt (tgt := 14) hx hb dX11_isCopy_1 (by decide) (fun c1 => ?_) (fun c1 => ?_)
  · replace h := z_ifp c1 h
    refine lv_iconst (v := 0) hx hb dX11_isCopy_14 (by decide) ?_
    exact z_retz C0 hw hS rfl (congrArg (fun z => (z, S)) (Option.some.inj h)) dX11_isCopy_15
  · replace h := z_ifn c1 h
    refine lv_iload_n hx hb dX11_isCopy_4 rfl (lv_at hl 0 rfl) ?_
    refine lv_bipush (v := 6) hx hb dX11_isCopy_5 (by decide) ?_
    refine lv_icmp_ge (tgt := 14) hx hb dX11_isCopy_7 (by decide) (fun c2 => ?_) (fun c2 => ?_)
    · replace h := z_ifp c2 h
      refine lv_iconst (v := 0) hx hb dX11_isCopy_14 (by decide) ?_
      exact z_retz C0 hw hS rfl (congrArg (fun z => (z, S)) (Option.some.inj h)) dX11_isCopy_15
    · replace h := z_ifn c2 h
      refine lv_iconst (v := 1) hx hb dX11_isCopy_10 (by decide) ?_
      refine lv_goto (tgt := 15) hx hb dX11_isCopy_11 (by decide) ?_
      exact z_retz C0 hw hS rfl (congrArg (fun z => (z, S)) (Option.some.inj h)) dX11_isCopy_15
def M_X5_isLeft (pk : Nat → Nat) (S : zSt) (q0 : Nat) (x1 : Int32) : Option (Int32) :=
  (if x1 < (zsc S (100 + 4 * q0) 8) then some 0 else Option.bind (M_X11_isCopy pk S x1) (fun w2 => (if w2 = 0 then some 0 else some 1)))
set_option maxHeartbeats 4000000 in
set_option maxRecDepth 100000 in
theorem c_X5_isLeft (l : Launch) (D : va_G) (Y : Nat → ClassId) (F : Nat → Nat) (G : zG) (S : zSt) (sz : Nat) (q0 : Nat) (hq0 : zOKb (zpk G) q0 = true) (x1 : Int32) (res : Int32) (h : M_X5_isLeft (zpk G) S q0 x1 = some res) : Met l yX5_isLeft wsX5_isLeft (zRm 1 20) (zPc D Y F G S sz [.ref (zad F G (100 + 4 * q0)), .int x1]) (zQi D Y F (zAo F G sz) G (res, S)) 0 0 (zAo F G sz) := by
  unfold M_X5_isLeft at h
  refine zMet (cc := cX5_isLeft) (maxL := 2) (ret := (some .boolean)) (own := RX5) (by decide +kernel) rfl rfl (Nat.le_of_ble_eq_true rfl) ?_
  intro p e s m args below meth c C0 hin hw hS ls hl
  have hl : lv_has ls 2 [(0, .ref (zad F G (100 + 4 * q0))), (1, .int x1)] := hl
  generalize zAo F G sz = A at C0 hw hS ⊢
  obtain ⟨hx, hb, hml, hr, hown, hts, hK, hA, hlk, hN⟩ := id C0
  refine lv_iload_n hx hb dX5_isLeft_0 rfl (lv_at hl 1 rfl) ?_
  refine lv_aload_n hx hb dX5_isLeft_1 rfl (lv_at hl 0 rfl) ?_
  refine z_getP C0 inP_X5_isLeft hw hq0 8 (by decide) (v := .int ((zsc S (100 + 4 * q0) 8))) rfl 1 rfl (Or.inl rfl) dX5_isLeft_2 ?_
  refine lv_icmp_lt (tgt := 19) hx hb dX5_isLeft_5 (by decide) (fun c1 => ?_) (fun c1 => ?_)
  · replace h := z_ifp c1 h
    refine lv_iconst (v := 0) hx hb dX5_isLeft_19 (by decide) ?_
    exact z_retz C0 hw hS rfl (congrArg (fun z => (z, S)) (Option.some.inj h)) dX5_isLeft_20
  · replace h := z_ifn c1 h
    refine lv_iload_n hx hb dX5_isLeft_8 rfl (lv_at hl 1 rfl) ?_
    obtain ⟨w2, ew2, h⟩ := z_bd h
    refine z_goi C0 hw hS (res := (w2, S)) (rest := []) (arr := ([.int x1] : List Value).toArray) ?_ (fun H locs hw hS => ?_)
    · exact va_runSN (z_fix C0) (c_X11_isCopy l D Y F G S _ x1 w2 ew2) ⟨va_cnB 1 hts gX5_isLeft_X11_isCopy_n66 rfl rfl rfl (hN.1 _ (List.mem_of_getElem? (i := 0) rfl)) (hts _ (List.mem_of_getElem? (i := 3) rfl)) (by decide +kernel) ⟨Nat.le_of_ble_eq_true rfl, Nat.le_of_ble_eq_true rfl⟩, hts _ (List.mem_of_getElem? (i := 2) rfl), trivial⟩ ⟨zPc_blind, z_give C0 hw hS _⟩ rfl rfl hl.1 rfl (lv_room (Nat.le_of_ble_eq_true rfl)) dX5_isLeft_9 ⟨Nat.zero_le _, Nat.zero_le _⟩
    refine lv_if_eq (tgt := 19) hx hb dX5_isLeft_12 (by decide) (fun c3 => ?_) (fun c3 => ?_)
    · replace h := z_ifp c3 h
      refine lv_iconst (v := 0) hx hb dX5_isLeft_19 (by decide) ?_
      exact z_retz C0 hw hS rfl (congrArg (fun z => (z, S)) (Option.some.inj h)) dX5_isLeft_20
    · replace h := z_ifn c3 h
      refine lv_iconst (v := 1) hx hb dX5_isLeft_15 (by decide) ?_
      refine lv_goto (tgt := 20) hx hb dX5_isLeft_16 (by decide) ?_
      exact z_retz C0 hw hS rfl (congrArg (fun z => (z, S)) (Option.some.inj h)) dX5_isLeft_20
def M_X11_isDeed (pk : Nat → Nat) (S : zSt) (x0 : Int32) : Option (Int32) :=
  (if x0 < 0 then some 0 else (if 8 ≤ x0 then some 0 else some 1))
set_option maxHeartbeats 4000000 in
set_option maxRecDepth 100000 in
theorem c_X11_isDeed (l : Launch) (D : va_G) (Y : Nat → ClassId) (F : Nat → Nat) (G : zG) (S : zSt) (sz : Nat) (x0 : Int32) (res : Int32) (h : M_X11_isDeed (zpk G) S x0 = some res) : Met l yX11_isDeed wsX11_isDeed (zRm 0 0) (zPc D Y F G S sz [.int x0]) (zQi D Y F (zAo F G sz) G (res, S)) 0 0 (zAo F G sz) := by
  unfold M_X11_isDeed at h
  refine zMet (cc := cX11_isDeed) (maxL := 1) (ret := (some .boolean)) (own := RX11) (by decide +kernel) rfl rfl (Nat.le_of_ble_eq_true rfl) ?_
  intro p e s m args below meth c C0 hin hw hS ls hl
  have hl : lv_has ls 1 [(0, .int x0)] := hl
  generalize zAo F G sz = A at C0 hw hS ⊢
  obtain ⟨hx, hb, hml, hr, hown, hts, hK, hA, hlk, hN⟩ := id C0
  refine lv_iload_n hx hb dX11_isDeed_0 rfl (lv_at hl 0 rfl) ?_
  refine lv_if_lt (tgt := 14) hx hb dX11_isDeed_1 (by decide) (fun c1 => ?_) (fun c1 => ?_)
  · replace h := z_ifp c1 h
    refine lv_iconst (v := 0) hx hb dX11_isDeed_14 (by decide) ?_
    exact z_retz C0 hw hS rfl (congrArg (fun z => (z, S)) (Option.some.inj h)) dX11_isDeed_15
  · replace h := z_ifn c1 h
    refine lv_iload_n hx hb dX11_isDeed_4 rfl (lv_at hl 0 rfl) ?_
    refine lv_bipush (v := 8) hx hb dX11_isDeed_5 (by decide) ?_
    refine lv_icmp_ge (tgt := 14) hx hb dX11_isDeed_7 (by decide) (fun c2 => ?_) (fun c2 => ?_)
    · replace h := z_ifp c2 h
      refine lv_iconst (v := 0) hx hb dX11_isDeed_14 (by decide) ?_
      exact z_retz C0 hw hS rfl (congrArg (fun z => (z, S)) (Option.some.inj h)) dX11_isDeed_15
    · replace h := z_ifn c2 h
      refine lv_iconst (v := 1) hx hb dX11_isDeed_10 (by decide) ?_
      refine lv_goto (tgt := 15) hx hb dX11_isDeed_11 (by decide) ?_
      exact z_retz C0 hw hS rfl (congrArg (fun z => (z, S)) (Option.some.inj h)) dX11_isDeed_15
def M_X5_strengthOf (pk : Nat → Nat) (S : zSt) (q0 : Nat) (x1 : Int32) (x2 : Int32) : Option (Int32) :=
  Option.bind (M_X11_isCopy pk S x1) (fun w1 => (if w1 = 0 then some 0 else Option.bind (M_X11_isDeed pk S x2) (fun w3 => (if w3 = 0 then some 0 else zg (zin (((x1 * 8) + x2)) 48) (some ((zar S ((100 + 4 * q0 + 1)) (Int32.toNatClampNeg (((x1 * 8) + x2))))))))))
set_option maxHeartbeats 4000000 in
set_option maxRecDepth 100000 in
theorem c_X5_strengthOf (l : Launch) (D : va_G) (Y : Nat → ClassId) (F : Nat → Nat) (G : zG) (S : zSt) (sz : Nat) (q0 : Nat) (hq0 : zOKb (zpk G) q0 = true) (x1 : Int32) (x2 : Int32) (res : Int32) (h : M_X5_strengthOf (zpk G) S q0 x1 x2 = some res) : Met l yX5_strengthOf wsX5_strengthOf (zRm 1 20) (zPc D Y F G S sz [.ref (zad F G (100 + 4 * q0)), .int x1, .int x2]) (zQi D Y F (zAo F G sz) G (res, S)) 0 0 (zAo F G sz) := by
  unfold M_X5_strengthOf at h
  refine zMet (cc := cX5_strengthOf) (maxL := 3) (ret := (some .int)) (own := RX5) (by decide +kernel) rfl rfl (Nat.le_of_ble_eq_true rfl) ?_
  intro p e s m args below meth c C0 hin hw hS ls hl
  have hl : lv_has ls 3 [(0, .ref (zad F G (100 + 4 * q0))), (1, .int x1), (2, .int x2)] := hl
  generalize zAo F G sz = A at C0 hw hS ⊢
  obtain ⟨hx, hb, hml, hr, hown, hts, hK, hA, hlk, hN⟩ := id C0
  refine lv_iload_n hx hb dX5_strengthOf_0 rfl (lv_at hl 1 rfl) ?_
  obtain ⟨w1, ew1, h⟩ := z_bd h
  refine z_goi C0 hw hS (res := (w1, S)) (rest := []) (arr := ([.int x1] : List Value).toArray) ?_ (fun H locs hw hS => ?_)
  · exact va_runSN (z_fix C0) (c_X11_isCopy l D Y F G S _ x1 w1 ew1) ⟨va_cnB 1 hts gX5_strengthOf_X11_isCopy_n66 rfl rfl rfl (hN.1 _ (List.mem_of_getElem? (i := 0) rfl)) (hts _ (List.mem_of_getElem? (i := 3) rfl)) (by decide +kernel) ⟨Nat.le_of_ble_eq_true rfl, Nat.le_of_ble_eq_true rfl⟩, hts _ (List.mem_of_getElem? (i := 2) rfl), trivial⟩ ⟨zPc_blind, z_give C0 hw hS _⟩ rfl rfl hl.1 rfl (lv_room (Nat.le_of_ble_eq_true rfl)) dX5_strengthOf_1 ⟨Nat.zero_le _, Nat.zero_le _⟩
  refine lv_if_eq (tgt := 28) hx hb dX5_strengthOf_4 (by decide) (fun c2 => ?_) (fun c2 => ?_)
  · replace h := z_ifp c2 h
    refine lv_iconst (v := 0) hx hb dX5_strengthOf_28 (by decide) ?_
    exact z_reti C0 hw hS (congrArg (fun z => (z, S)) (Option.some.inj h)) dX5_strengthOf_29
  · replace h := z_ifn c2 h
    refine lv_iload_n hx hb dX5_strengthOf_7 rfl (lv_at hl 2 rfl) ?_
    obtain ⟨w3, ew3, h⟩ := z_bd h
    refine z_goi C0 hw hS (res := (w3, S)) (rest := []) (arr := ([.int x2] : List Value).toArray) ?_ (fun H locs hw hS => ?_)
    · exact va_runSN (z_fix C0) (c_X11_isDeed l D Y F G S _ x2 w3 ew3) ⟨va_cnB 1 hts gX5_strengthOf_X11_isDeed_n70 rfl rfl rfl (hN.1 _ (List.mem_of_getElem? (i := 1) rfl)) (hts _ (List.mem_of_getElem? (i := 3) rfl)) (by decide +kernel) ⟨Nat.le_of_ble_eq_true rfl, Nat.le_of_ble_eq_true rfl⟩, hts _ (List.mem_of_getElem? (i := 5) rfl), trivial⟩ ⟨zPc_blind, z_give C0 hw hS _⟩ rfl rfl hl.1 rfl (lv_room (Nat.le_of_ble_eq_true rfl)) dX5_strengthOf_8 ⟨Nat.zero_le _, Nat.zero_le _⟩
    refine lv_if_eq (tgt := 28) hx hb dX5_strengthOf_11 (by decide) (fun c4 => ?_) (fun c4 => ?_)
    · replace h := z_ifp c4 h
      refine lv_iconst (v := 0) hx hb dX5_strengthOf_28 (by decide) ?_
      exact z_reti C0 hw hS (congrArg (fun z => (z, S)) (Option.some.inj h)) dX5_strengthOf_29
    · replace h := z_ifn c4 h
      refine lv_aload_n hx hb dX5_strengthOf_14 rfl (lv_at hl 0 rfl) ?_
      refine z_getP C0 inP_X5_strengthOf hw hq0 3 (by decide) (v := .ref (zad F G (100 + 4 * q0 + 1))) rfl 1 rfl (Or.inl rfl) dX5_strengthOf_15 ?_
      refine lv_iload_n hx hb dX5_strengthOf_18 rfl (lv_at hl 1 rfl) ?_
      refine lv_bipush (v := 8) hx hb dX5_strengthOf_19 (by decide) ?_
      refine lv_imul hx hb dX5_strengthOf_21 ?_
      refine lv_iload_n hx hb dX5_strengthOf_22 rfl (lv_at hl 2 rfl) ?_
      refine lv_iadd hx hb dX5_strengthOf_23 ?_
      obtain ⟨b5, h⟩ := z_gd h
      refine z_iald C0 hw ((100 + 4 * q0 + 1)) (zOK_E hq0 1 (by decide)) rfl (zPR1 q0) (zin_in b5) dX5_strengthOf_24 ?_
      refine lv_goto (tgt := 29) hx hb dX5_strengthOf_25 (by decide) ?_
      exact z_reti C0 hw hS (congrArg (fun z => (z, S)) (Option.some.inj h)) dX5_strengthOf_29
