set_option maxRecDepth 20000 in
theorem in_X6_digitHere_X6 : ∀ w ∈ u_ws RX6 TX6 10, w ∈ wsX6_digitHere := by decide +kernel
set_option maxRecDepth 20000 in
theorem in_X6_faultAt_X6 : ∀ w ∈ u_ws RX6 TX6 10, w ∈ wsX6_faultAt := by decide +kernel
set_option maxRecDepth 20000 in
theorem in_X6_letterAt_X6 : ∀ w ∈ u_ws RX6 TX6 10, w ∈ wsX6_letterAt := by decide +kernel
set_option maxRecDepth 20000 in
theorem in_X6_outOf_X6 : ∀ w ∈ u_ws RX6 TX6 10, w ∈ wsX6_outOf := by decide +kernel
set_option maxRecDepth 20000 in
theorem in_X6_readDying_X4 : ∀ w ∈ u_ws RX4 TX4 6, w ∈ wsX6_readDying := by decide +kernel
set_option maxRecDepth 20000 in
theorem in_X6_readDying_X6 : ∀ w ∈ u_ws RX6 TX6 10, w ∈ wsX6_readDying := by decide +kernel
set_option maxRecDepth 20000 in
theorem in_X6_readItem_X6 : ∀ w ∈ u_ws RX6 TX6 10, w ∈ wsX6_readItem := by decide +kernel
set_option maxRecDepth 20000 in
theorem in_X6_readLeast_X6 : ∀ w ∈ u_ws RX6 TX6 10, w ∈ wsX6_readLeast := by decide +kernel
set_option maxRecDepth 20000 in
theorem in_X6_readLetter_X6 : ∀ w ∈ u_ws RX6 TX6 10, w ∈ wsX6_readLetter := by decide +kernel
set_option maxRecDepth 20000 in
theorem in_X6_readNumber_X6 : ∀ w ∈ u_ws RX6 TX6 10, w ∈ wsX6_readNumber := by decide +kernel
set_option maxRecDepth 20000 in
theorem in_X6_readPerson_X6 : ∀ w ∈ u_ws RX6 TX6 10, w ∈ wsX6_readPerson := by decide +kernel
set_option maxRecDepth 20000 in
theorem in_X6_readPress_X4 : ∀ w ∈ u_ws RX4 TX4 6, w ∈ wsX6_readPress := by decide +kernel
set_option maxRecDepth 20000 in
theorem in_X6_readPress_X6 : ∀ w ∈ u_ws RX6 TX6 10, w ∈ wsX6_readPress := by decide +kernel
set_option maxRecDepth 20000 in
theorem in_X6_readRub_X4 : ∀ w ∈ u_ws RX4 TX4 6, w ∈ wsX6_readRub := by decide +kernel
set_option maxRecDepth 20000 in
theorem in_X6_readRub_X6 : ∀ w ∈ u_ws RX6 TX6 10, w ∈ wsX6_readRub := by decide +kernel
set_option maxRecDepth 20000 in
theorem inP_X6_outOf : ∀ w ∈ wsPers, w ∈ wsX6_outOf := by decide +kernel
def M_X6_letterAt (pk : Nat → Nat) (S : zSt) (x1 : Int32) : Option (Int32) :=
  (if x1 < 0 then some (-1) else (if (zsc S 70 2) ≤ x1 then some (-1) else (if 160 ≤ x1 then some (-1) else zg (zin x1 160) (some ((zar S 71 (Int32.toNatClampNeg x1)))))))
set_option maxHeartbeats 4000000 in
set_option maxRecDepth 100000 in
theorem c_X6_letterAt (l : Launch) (D : va_G) (Y : Nat → ClassId) (F : Nat → Nat) (G : zG) (S : zSt) (sz : Nat) (x1 : Int32) (res : Int32) (h : M_X6_letterAt (zpk G) S x1 = some res) : Met l yX6_letterAt wsX6_letterAt (zRm 0 0) (zPc D Y F G S sz [.ref (F 70), .int x1]) (zQi D Y F (zAo F G sz) G (res, S)) 0 0 (zAo F G sz) := by
  unfold M_X6_letterAt at h
  refine zMet (cc := cX6_letterAt) (maxL := 2) (ret := (some .int)) (own := RX6) (by decide +kernel) rfl rfl (Nat.le_of_ble_eq_true rfl) ?_
  intro p e s m args below meth c C0 hin hw hS ls hl
  have hl : lv_has ls 2 [(0, .ref (F 70)), (1, .int x1)] := hl
  generalize zAo F G sz = A at C0 hw hS ⊢
  obtain ⟨hx, hb, hml, hr, hown, hts, hK, hA, hlk, hN⟩ := id C0
  refine lv_iload_n hx hb dX6_letterAt_0 rfl (lv_at hl 1 rfl) ?_
  refine lv_if_lt (tgt := 28) hx hb dX6_letterAt_1 (by decide) (fun c1 => ?_) (fun c1 => ?_)
  · replace h := z_ifp c1 h
    refine lv_iconst (v := (-1)) hx hb dX6_letterAt_28 (by decide) ?_
    exact z_reti C0 hw hS (congrArg (fun z => (z, S)) (Option.some.inj h)) dX6_letterAt_29
  · replace h := z_ifn c1 h
    refine lv_iload_n hx hb dX6_letterAt_4 rfl (lv_at hl 1 rfl) ?_
    refine lv_aload_n hx hb dX6_letterAt_5 rfl (lv_at hl 0 rfl) ?_
    refine z_getU C0 in_X6_letterAt_X6 (C := RX6) (T := TX6) (N := 10) hw (k := 70) (ci := 6) (v := .int ((zsc S 70 2))) rfl rfl rfl rfl 2 (by decide) rfl 1 rfl (Or.inl rfl) dX6_letterAt_6 ?_
    refine lv_icmp_ge (tgt := 28) hx hb dX6_letterAt_9 (by decide) (fun c2 => ?_) (fun c2 => ?_)
    · replace h := z_ifp c2 h
      refine lv_iconst (v := (-1)) hx hb dX6_letterAt_28 (by decide) ?_
      exact z_reti C0 hw hS (congrArg (fun z => (z, S)) (Option.some.inj h)) dX6_letterAt_29
    · replace h := z_ifn c2 h
      refine lv_iload_n hx hb dX6_letterAt_12 rfl (lv_at hl 1 rfl) ?_
      refine lv_sipush (v := 160) hx hb dX6_letterAt_13 (by decide) ?_
      refine lv_icmp_ge (tgt := 28) hx hb dX6_letterAt_16 (by decide) (fun c3 => ?_) (fun c3 => ?_)
      · replace h := z_ifp c3 h
        refine lv_iconst (v := (-1)) hx hb dX6_letterAt_28 (by decide) ?_
        exact z_reti C0 hw hS (congrArg (fun z => (z, S)) (Option.some.inj h)) dX6_letterAt_29
      · replace h := z_ifn c3 h
        refine lv_aload_n hx hb dX6_letterAt_19 rfl (lv_at hl 0 rfl) ?_
        refine z_getU C0 in_X6_letterAt_X6 (C := RX6) (T := TX6) (N := 10) hw (k := 70) (ci := 6) (v := .ref (F 71)) rfl rfl rfl rfl 1 (by decide) rfl 2 rfl (Or.inl rfl) dX6_letterAt_20 ?_
        refine lv_iload_n hx hb dX6_letterAt_23 rfl (lv_at hl 1 rfl) ?_
        obtain ⟨b4, h⟩ := z_gd h
        refine z_iald C0 hw 71 rfl rfl zri_71 (zin_in b4) dX6_letterAt_24 ?_
        refine lv_goto (tgt := 29) hx hb dX6_letterAt_25 (by decide) ?_
        exact z_reti C0 hw hS (congrArg (fun z => (z, S)) (Option.some.inj h)) dX6_letterAt_29
def M_X6_readLetter (pk : Nat → Nat) (S : zSt) (x1 : Int32) : Option (zSt) :=
  (if (zsc S 70 4) = (-1) then Option.bind (M_X6_letterAt pk S ((zsc S 70 3))) (fun w2 => (if w2 = x1 then some ((zP S 70 3 (((zsc S 70 3) + 1)))) else some ((zP S 70 4 ((zsc S 70 3)))))) else some S)
set_option maxHeartbeats 4000000 in
set_option maxRecDepth 100000 in
theorem c_X6_readLetter (l : Launch) (D : va_G) (Y : Nat → ClassId) (F : Nat → Nat) (G : zG) (S : zSt) (sz : Nat) (x1 : Int32) (res : zSt) (h : M_X6_readLetter (zpk G) S x1 = some res) : Met l yX6_readLetter wsX6_readLetter (zRm 1 21) (zPc D Y F G S sz [.ref (F 70), .int x1]) (zQv D Y F (zAo F G sz) G res) 0 0 (zAo F G sz) := by
  unfold M_X6_readLetter at h
  refine zMet (cc := cX6_readLetter) (maxL := 2) (ret := none) (own := RX6) (by decide +kernel) rfl rfl (Nat.le_of_ble_eq_true rfl) ?_
  intro p e s m args below meth c C0 hin hw hS ls hl
  have hl : lv_has ls 2 [(0, .ref (F 70)), (1, .int x1)] := hl
  generalize zAo F G sz = A at C0 hw hS ⊢
  obtain ⟨hx, hb, hml, hr, hown, hts, hK, hA, hlk, hN⟩ := id C0
  refine lv_aload_n hx hb dX6_readLetter_0 rfl (lv_at hl 0 rfl) ?_
  refine z_getU C0 in_X6_readLetter_X6 (C := RX6) (T := TX6) (N := 10) hw (k := 70) (ci := 6) (v := .int ((zsc S 70 4))) rfl rfl rfl rfl 4 (by decide) rfl 1 rfl (Or.inl rfl) dX6_readLetter_1 ?_
  refine lv_iconst (v := (-1)) hx hb dX6_readLetter_4 (by decide) ?_
  refine lv_icmp_eq (tgt := 9) hx hb dX6_readLetter_5 (by decide) (fun c1 => ?_) (fun c1 => ?_)
  · replace h := z_ifp c1 h
    refine lv_aload_n hx hb dX6_readLetter_9 rfl (lv_at hl 0 rfl) ?_
    refine lv_aload_n hx hb dX6_readLetter_10 rfl (lv_at hl 0 rfl) ?_
    refine z_getU C0 in_X6_readLetter_X6 (C := RX6) (T := TX6) (N := 10) hw (k := 70) (ci := 6) (v := .int ((zsc S 70 3))) rfl rfl rfl rfl 3 (by decide) rfl 2 rfl (Or.inl rfl) dX6_readLetter_11 ?_
    obtain ⟨w2, ew2, h⟩ := z_bd h
    refine z_goi C0 hw hS (res := (w2, S)) (rest := []) (arr := (Value.ref (F 70) :: [.int ((zsc S 70 3))]).toArray) ?_ (fun H locs hw hS => ?_)
    · exact va_runV (z_fix C0) (c_X6_letterAt l D Y F G S _ ((zsc S 70 3)) w2 ew2) (cwV 1 hts gX6_readLetter_X6_letterAt rfl rfl rfl (by decide +kernel) ⟨Nat.le_of_ble_eq_true rfl, Nat.le_of_ble_eq_true rfl⟩) ⟨zPc_blind, z_rv C0 hw (k := 70) rfl rfl rfl rfl, z_give C0 hw hS _⟩ rfl rfl hl.1 rfl (lv_room (Nat.le_of_ble_eq_true rfl)) dX6_readLetter_14 ⟨Nat.zero_le _, Nat.zero_le _⟩
    refine lv_iload_n hx hb dX6_readLetter_17 rfl (lv_at hl 1 rfl) ?_
    refine lv_icmp_eq (tgt := 30) hx hb dX6_readLetter_18 (by decide) (fun c3 => ?_) (fun c3 => ?_)
    · replace h := z_ifp c3 h
      refine lv_aload_n hx hb dX6_readLetter_30 rfl (lv_at hl 0 rfl) ?_
      refine lv_dup hx hb dX6_readLetter_31 rfl ?_
      refine z_getU C0 in_X6_readLetter_X6 (C := RX6) (T := TX6) (N := 10) hw (k := 70) (ci := 6) (v := .int ((zsc S 70 3))) rfl rfl rfl rfl 3 (by decide) rfl 2 rfl (Or.inl rfl) dX6_readLetter_32 ?_
      refine lv_iconst (v := 1) hx hb dX6_readLetter_35 (by decide) ?_
      refine lv_iadd hx hb dX6_readLetter_36 ?_
      refine z_putU C0 in_X6_readLetter_X6 tyX6 tyX6_ok nmX6 (C := RX6) (T := TX6) (N := 10) hw hS (k := 70) (ci := 6) (v := ((zsc S 70 3) + 1)) rfl rfl rfl rfl 3 (by decide) 2 rfl rfl rfl rfl (Nat.le_of_ble_eq_true rfl) rfl dX6_readLetter_37 (fun H locs hw hS => ?_)
      exact z_retv C0 hw hS (Option.some.inj h) dX6_readLetter_40
    · replace h := z_ifn c3 h
      refine lv_aload_n hx hb dX6_readLetter_21 rfl (lv_at hl 0 rfl) ?_
      refine lv_aload_n hx hb dX6_readLetter_22 rfl (lv_at hl 0 rfl) ?_
      refine z_getU C0 in_X6_readLetter_X6 (C := RX6) (T := TX6) (N := 10) hw (k := 70) (ci := 6) (v := .int ((zsc S 70 3))) rfl rfl rfl rfl 3 (by decide) rfl 2 rfl (Or.inl rfl) dX6_readLetter_23 ?_
      refine z_putU C0 in_X6_readLetter_X6 tyX6 tyX6_ok nmX6 (C := RX6) (T := TX6) (N := 10) hw hS (k := 70) (ci := 6) (v := (zsc S 70 3)) rfl rfl rfl rfl 4 (by decide) 1 rfl rfl rfl rfl (Nat.le_of_ble_eq_true rfl) rfl dX6_readLetter_26 (fun H locs hw hS => ?_)
      exact z_retv C0 hw hS (Option.some.inj h) dX6_readLetter_29
  · replace h := z_ifn c1 h
    exact z_retv C0 hw hS (Option.some.inj h) dX6_readLetter_8
def M_X6_readWord_B2 (pk : Nat → Nat) (t1 : Nat) : Nat → zSt → Int32 → Option (zSt)
  | 0, _, _ => none
  | n + 1, S, x2 =>
  Option.bind (M_J0_length_8abf5 S t1) (fun w1 => (if w1 ≤ x2 then some S else Option.bind (M_J0_charAt_5068e S t1 x2) (fun w3 => Option.bind (M_X6_readLetter pk w3.2 w3.1) (fun w4 => M_X6_readWord_B2 pk t1 n w4 ((x2 + 1))))))
set_option maxHeartbeats 4000000 in
set_option maxRecDepth 100000 in
theorem t_X6_readWord_B2 {p : Program} {l : Launch} {e : Env} {s : State} {m : MethodId} {args : Array Value} {below : List Frame} {meth : Method} {c : Code} {D : va_G} {Y : Nat → ClassId} {F : Nat → Nat} {A : Nat → Prop} {G : zG} (C0 : zCx p s m args meth c D Y F A RX6 cX6_readWord 3 none wsX6_readWord) (t1 : Nat) (ht1 : t1 < 6) (res : zSt) : ∀ (n : Nat), ∀ (S : zSt) (x2 : Int32), M_X6_readWord_B2 (zpk G) t1 n S x2 = some res → ∀ (H : Heap) (locs : List Loc) (ls : Array Slot), zH D Y F A G S H → va_S A s.heap H locs → lv_has ls 3 [(0, .ref (F 70)), (1, .ref (F (200 + t1))), (2, .int x2)] → W p l e (zRm 4 85) s m args below meth c H locs 0 0 (MQ below (zQv D Y F A G res) args s 0 0 A) (F0 m 2 ls []) := by
  obtain ⟨hx, hb, hml, hr, hown, hts, hK, hA, hlk, hN⟩ := id C0
  intro n
  induction n with
  | zero =>
    intro S x2 h
    unfold M_X6_readWord_B2 at h
    cases h
  | succ n ih =>
    intro S x2 h H locs ls hw hS hl
    rw [M_X6_readWord_B2] at h
    refine lv_iload_n hx hb dX6_readWord_2 rfl (lv_at hl 2 rfl) ?_
    refine lv_aload_n hx hb dX6_readWord_3 rfl (lv_at hl 1 rfl) ?_
    obtain ⟨w1, ew1, h⟩ := z_bd h
    refine z_goi C0 hw hS (res := (w1, S)) (rest := [.int x2]) (arr := (Value.ref (F (200 + t1)) :: []).toArray) ?_ (fun H locs hw hS => ?_)
    · exact va_runV (z_fix C0) (c_J0_length_8abf5 l D Y F G S _ t1 ht1 w1 ew1) (cwV 0 hts gX6_readWord_J0_length_8abf5 rfl rfl rfl (by decide +kernel) ⟨Nat.le_of_ble_eq_true rfl, Nat.le_of_ble_eq_true rfl⟩) ⟨zPc_blind, vk_recv (i := t1) hN.2.2.2.1 ht1 hS, z_give C0 hw hS _⟩ rfl rfl hl.1 rfl (lv_room (Nat.le_of_ble_eq_true rfl)) dX6_readWord_4 ⟨Nat.zero_le _, Nat.zero_le _⟩
    refine lv_icmp_ge (tgt := 25) hx hb dX6_readWord_7 (by decide) (fun c2 => ?_) (fun c2 => ?_)
    · replace h := z_ifp c2 h
      exact z_retv C0 hw hS (Option.some.inj h) dX6_readWord_25
    · replace h := z_ifn c2 h
      refine lv_aload_n hx hb dX6_readWord_10 rfl (lv_at hl 0 rfl) ?_
      refine lv_aload_n hx hb dX6_readWord_11 rfl (lv_at hl 1 rfl) ?_
      refine lv_iload_n hx hb dX6_readWord_12 rfl (lv_at hl 2 rfl) ?_
      obtain ⟨w3, ew3, h⟩ := z_bd h
      refine z_goi C0 hw hS (res := w3) (rest := [.ref (F 70)]) (arr := (Value.ref (F (200 + t1)) :: [.int x2]).toArray) ?_ (fun H locs hw hS => ?_)
      · exact va_runV (z_fix C0) (c_J0_charAt_5068e l D Y F G S _ t1 ht1 x2 w3 ew3) (cwV 1 hts gX6_readWord_J0_charAt_5068e rfl rfl rfl (by decide +kernel) ⟨Nat.le_of_ble_eq_true rfl, Nat.le_of_ble_eq_true rfl⟩) ⟨zPc_blind, vk_recv (i := t1) hN.2.2.2.1 ht1 hS, z_give C0 hw hS _⟩ rfl rfl hl.1 rfl (lv_room (Nat.le_of_ble_eq_true rfl)) dX6_readWord_13 ⟨Nat.zero_le _, Nat.zero_le _⟩
      obtain ⟨w4, ew4, h⟩ := z_bd h
      refine z_gov C0 hw hS (res := w4) (rest := []) (arr := (Value.ref (F 70) :: [.int w3.1]).toArray) ?_ (fun H locs hw hS => ?_)
      · exact va_runV (z_fix C0) (c_X6_readLetter l D Y F G w3.2 _ w3.1 w4 ew4) (cwV 1 hts gX6_readWord_X6_readLetter rfl rfl rfl (by decide +kernel) ⟨Nat.le_of_ble_eq_true rfl, Nat.le_of_ble_eq_true rfl⟩) ⟨zPc_blind, z_rv C0 hw (k := 70) rfl rfl rfl rfl, z_give C0 hw hS _⟩ rfl rfl hl.1 rfl (lv_room (Nat.le_of_ble_eq_true rfl)) dX6_readWord_16 ⟨Nat.zero_le _, Nat.zero_le _⟩
      refine lv_iinc (v := (x2 + 1)) (lv' := [(2, .int ((x2 + 1))), (0, .ref (F 70)), (1, .ref (F (200 + t1)))]) hx hb dX6_readWord_19 hl (k := 2) rfl rfl (by decide) rfl (fun ls hl => ?_)
      refine lv_goto (tgt := 2) hx hb dX6_readWord_22 (by decide) ?_
      exact ih w4 ((x2 + 1)) h _ _ _ hw hS (lv_sub hl [1, 2, 0] rfl)
def M_X6_readWord (pk : Nat → Nat) (S : zSt) (t1 : Nat) : Option (zSt) :=
  M_X6_readWord_B2 pk t1 zF S 0
set_option maxHeartbeats 4000000 in
set_option maxRecDepth 100000 in
theorem c_X6_readWord (l : Launch) (D : va_G) (Y : Nat → ClassId) (F : Nat → Nat) (G : zG) (S : zSt) (sz : Nat) (t1 : Nat) (ht1 : t1 < 6) (res : zSt) (h : M_X6_readWord (zpk G) S t1 = some res) : Met l yX6_readWord wsX6_readWord (zRm 4 85) (zPc D Y F G S sz [.ref (F 70), .ref (F (200 + t1))]) (zQv D Y F (zAo F G sz) G res) 0 0 (zAo F G sz) := by
  unfold M_X6_readWord at h
  refine zMet (cc := cX6_readWord) (maxL := 3) (ret := none) (own := RX6) (by decide +kernel) rfl rfl (Nat.le_of_ble_eq_true rfl) ?_
  intro p e s m args below meth c C0 hin hw hS ls hl
  have hl : lv_has ls 3 [(0, .ref (F 70)), (1, .ref (F (200 + t1)))] := hl
  generalize zAo F G sz = A at C0 hw hS ⊢
  obtain ⟨hx, hb, hml, hr, hown, hts, hK, hA, hlk, hN⟩ := id C0
  refine lv_iconst (v := 0) hx hb dX6_readWord_0 (by decide) ?_
  refine lv_istore_n (lv' := [(2, .int 0), (0, .ref (F 70)), (1, .ref (F (200 + t1)))]) hx hb dX6_readWord_1 rfl hl (by decide) rfl (fun ls hl => ?_)
  exact t_X6_readWord_B2 C0 t1 ht1 res zF S 0 h _ _ _ hw hS (lv_sub hl [1, 2, 0] rfl)
def M_X6_digitHere (pk : Nat → Nat) (S : zSt) : Option (Int32) :=
  Option.bind (M_X6_letterAt pk S ((zsc S 70 3))) (fun w1 => (if w1 < 48 then some (-1) else (if 57 < w1 then some (-1) else some ((w1 - 48)))))
set_option maxHeartbeats 4000000 in
set_option maxRecDepth 100000 in
theorem c_X6_digitHere (l : Launch) (D : va_G) (Y : Nat → ClassId) (F : Nat → Nat) (G : zG) (S : zSt) (sz : Nat) (res : Int32) (h : M_X6_digitHere (zpk G) S = some res) : Met l yX6_digitHere wsX6_digitHere (zRm 1 21) (zPc D Y F G S sz [.ref (F 70)]) (zQi D Y F (zAo F G sz) G (res, S)) 0 0 (zAo F G sz) := by
  unfold M_X6_digitHere at h
  refine zMet (cc := cX6_digitHere) (maxL := 2) (ret := (some .int)) (own := RX6) (by decide +kernel) rfl rfl (Nat.le_of_ble_eq_true rfl) ?_
  intro p e s m args below meth c C0 hin hw hS ls hl
  have hl : lv_has ls 2 [(0, .ref (F 70))] := hl
  generalize zAo F G sz = A at C0 hw hS ⊢
  obtain ⟨hx, hb, hml, hr, hown, hts, hK, hA, hlk, hN⟩ := id C0
  refine lv_aload_n hx hb dX6_digitHere_0 rfl (lv_at hl 0 rfl) ?_
  refine lv_aload_n hx hb dX6_digitHere_1 rfl (lv_at hl 0 rfl) ?_
  refine z_getU C0 in_X6_digitHere_X6 (C := RX6) (T := TX6) (N := 10) hw (k := 70) (ci := 6) (v := .int ((zsc S 70 3))) rfl rfl rfl rfl 3 (by decide) rfl 1 rfl (Or.inl rfl) dX6_digitHere_2 ?_
  obtain ⟨w1, ew1, h⟩ := z_bd h
  refine z_goi C0 hw hS (res := (w1, S)) (rest := []) (arr := (Value.ref (F 70) :: [.int ((zsc S 70 3))]).toArray) ?_ (fun H locs hw hS => ?_)
  · exact va_runV (z_fix C0) (c_X6_letterAt l D Y F G S _ ((zsc S 70 3)) w1 ew1) (cwV 1 hts gX6_digitHere_X6_letterAt rfl rfl rfl (by decide +kernel) ⟨Nat.le_of_ble_eq_true rfl, Nat.le_of_ble_eq_true rfl⟩) ⟨zPc_blind, z_rv C0 hw (k := 70) rfl rfl rfl rfl, z_give C0 hw hS _⟩ rfl rfl hl.1 rfl (lv_room (Nat.le_of_ble_eq_true rfl)) dX6_digitHere_5 ⟨Nat.zero_le _, Nat.zero_le _⟩
  refine lv_istore_n (lv' := [(1, .int w1), (0, .ref (F 70))]) hx hb dX6_digitHere_8 rfl hl (by decide) rfl (fun ls hl => ?_)
  refine lv_iload_n hx hb dX6_digitHere_9 rfl (lv_at hl 0 rfl) ?_
  refine lv_bipush (v := 48) hx hb dX6_digitHere_10 (by decide) ?_
  refine lv_icmp_lt (tgt := 28) hx hb dX6_digitHere_12 (by decide) (fun c2 => ?_) (fun c2 => ?_)
  · replace h := z_ifp c2 h
    refine lv_iconst (v := (-1)) hx hb dX6_digitHere_28 (by decide) ?_
    exact z_reti C0 hw hS (congrArg (fun z => (z, S)) (Option.some.inj h)) dX6_digitHere_29
  · replace h := z_ifn c2 h
    refine lv_iload_n hx hb dX6_digitHere_15 rfl (lv_at hl 0 rfl) ?_
    refine lv_bipush (v := 57) hx hb dX6_digitHere_16 (by decide) ?_
    refine lv_icmp_gt (tgt := 28) hx hb dX6_digitHere_18 (by decide) (fun c3 => ?_) (fun c3 => ?_)
    · replace h := z_ifp c3 h
      refine lv_iconst (v := (-1)) hx hb dX6_digitHere_28 (by decide) ?_
      exact z_reti C0 hw hS (congrArg (fun z => (z, S)) (Option.some.inj h)) dX6_digitHere_29
    · replace h := z_ifn c3 h
      refine lv_iload_n hx hb dX6_digitHere_21 rfl (lv_at hl 0 rfl) ?_
      refine lv_bipush (v := 48) hx hb dX6_digitHere_22 (by decide) ?_
      refine lv_isub hx hb dX6_digitHere_24 ?_
      refine lv_goto (tgt := 29) hx hb dX6_digitHere_25 (by decide) ?_
      exact z_reti C0 hw hS (congrArg (fun z => (z, S)) (Option.some.inj h)) dX6_digitHere_29
def M_X6_faultAt (pk : Nat → Nat) (S : zSt) (x1 : Int32) : Option (zSt) :=
  (if (zsc S 70 4) = (-1) then some ((zP S 70 4 x1)) else some S)
set_option maxHeartbeats 4000000 in
set_option maxRecDepth 100000 in
theorem c_X6_faultAt (l : Launch) (D : va_G) (Y : Nat → ClassId) (F : Nat → Nat) (G : zG) (S : zSt) (sz : Nat) (x1 : Int32) (res : zSt) (h : M_X6_faultAt (zpk G) S x1 = some res) : Met l yX6_faultAt wsX6_faultAt (zRm 0 0) (zPc D Y F G S sz [.ref (F 70), .int x1]) (zQv D Y F (zAo F G sz) G res) 0 0 (zAo F G sz) := by
  unfold M_X6_faultAt at h
  refine zMet (cc := cX6_faultAt) (maxL := 2) (ret := none) (own := RX6) (by decide +kernel) rfl rfl (Nat.le_of_ble_eq_true rfl) ?_
  intro p e s m args below meth c C0 hin hw hS ls hl
  have hl : lv_has ls 2 [(0, .ref (F 70)), (1, .int x1)] := hl
  generalize zAo F G sz = A at C0 hw hS ⊢
  obtain ⟨hx, hb, hml, hr, hown, hts, hK, hA, hlk, hN⟩ := id C0
  refine lv_aload_n hx hb dX6_faultAt_0 rfl (lv_at hl 0 rfl) ?_
  refine z_getU C0 in_X6_faultAt_X6 (C := RX6) (T := TX6) (N := 10) hw (k := 70) (ci := 6) (v := .int ((zsc S 70 4))) rfl rfl rfl rfl 4 (by decide) rfl 1 rfl (Or.inl rfl) dX6_faultAt_1 ?_
  refine lv_iconst (v := (-1)) hx hb dX6_faultAt_4 (by decide) ?_
  refine lv_icmp_ne (tgt := 13) hx hb dX6_faultAt_5 (by decide) (fun c1 => ?_) (fun c1 => ?_)
  · replace h := z_ifn c1 h
    exact z_retv C0 hw hS (Option.some.inj h) dX6_faultAt_13
  · replace h := z_ifp c1 h
    refine lv_aload_n hx hb dX6_faultAt_8 rfl (lv_at hl 0 rfl) ?_
    refine lv_iload_n hx hb dX6_faultAt_9 rfl (lv_at hl 1 rfl) ?_
    refine z_putU C0 in_X6_faultAt_X6 tyX6 tyX6_ok nmX6 (C := RX6) (T := TX6) (N := 10) hw hS (k := 70) (ci := 6) (v := x1) rfl rfl rfl rfl 4 (by decide) 1 rfl rfl rfl rfl (Nat.le_of_ble_eq_true rfl) rfl dX6_faultAt_10 (fun H locs hw hS => ?_)
    exact z_retv C0 hw hS (Option.some.inj h) dX6_faultAt_13
def M_X6_readNumber_B24 (pk : Nat → Nat) (S : zSt) : Option (Int32 × zSt) :=
  Option.bind (M_X6_faultAt pk S ((zsc S 70 3))) (fun w4 => some ((-1), w4))
set_option maxHeartbeats 4000000 in
set_option maxRecDepth 100000 in
theorem t_X6_readNumber_B24 {p : Program} {l : Launch} {e : Env} {s : State} {m : MethodId} {args : Array Value} {below : List Frame} {meth : Method} {c : Code} {D : va_G} {Y : Nat → ClassId} {F : Nat → Nat} {A : Nat → Prop} {G : zG} (C0 : zCx p s m args meth c D Y F A RX6 cX6_readNumber 5 (some .int) wsX6_readNumber) (res : Int32 × zSt) : ∀ (S : zSt), M_X6_readNumber_B24 (zpk G) S = some res → ∀ (H : Heap) (locs : List Loc) (ls : Array Slot), zH D Y F A G S H → va_S A s.heap H locs → lv_has ls 5 [(0, .ref (F 70))] → W p l e (zRm 2 42) s m args below meth c H locs 0 0 (MQ below (zQi D Y F A G res) args s 0 0 A) (F0 m 24 ls []) := by
  obtain ⟨hx, hb, hml, hr, hown, hts, hK, hA, hlk, hN⟩ := id C0
  intro S h H locs ls hw hS hl
  unfold M_X6_readNumber_B24 at h
  refine lv_aload_n hx hb dX6_readNumber_24 rfl (lv_at hl 0 rfl) ?_
  refine lv_aload_n hx hb dX6_readNumber_25 rfl (lv_at hl 0 rfl) ?_
  refine z_getU C0 in_X6_readNumber_X6 (C := RX6) (T := TX6) (N := 10) hw (k := 70) (ci := 6) (v := .int ((zsc S 70 3))) rfl rfl rfl rfl 3 (by decide) rfl 2 rfl (Or.inl rfl) dX6_readNumber_26 ?_
  obtain ⟨w4, ew4, h⟩ := z_bd h
  refine z_gov C0 hw hS (res := w4) (rest := []) (arr := (Value.ref (F 70) :: [.int ((zsc S 70 3))]).toArray) ?_ (fun H locs hw hS => ?_)
  · exact va_runV (z_fix C0) (c_X6_faultAt l D Y F G S _ ((zsc S 70 3)) w4 ew4) (cwV 1 hts gX6_readNumber_X6_faultAt rfl rfl rfl (by decide +kernel) ⟨Nat.le_of_ble_eq_true rfl, Nat.le_of_ble_eq_true rfl⟩) ⟨zPc_blind, z_rv C0 hw (k := 70) rfl rfl rfl rfl, z_give C0 hw hS _⟩ rfl rfl hl.1 rfl (lv_room (Nat.le_of_ble_eq_true rfl)) dX6_readNumber_29 ⟨Nat.zero_le _, Nat.zero_le _⟩
  refine lv_iconst (v := (-1)) hx hb dX6_readNumber_32 (by decide) ?_
  exact z_reti C0 hw hS (Option.some.inj h) dX6_readNumber_33
def M_X6_readNumber_B92 (pk : Nat → Nat) (S : zSt) : Option (Int32 × zSt) :=
  some ((-1), (zP S 70 4 ((zsc S 70 5))))
set_option maxHeartbeats 4000000 in
set_option maxRecDepth 100000 in
theorem t_X6_readNumber_B92 {p : Program} {l : Launch} {e : Env} {s : State} {m : MethodId} {args : Array Value} {below : List Frame} {meth : Method} {c : Code} {D : va_G} {Y : Nat → ClassId} {F : Nat → Nat} {A : Nat → Prop} {G : zG} (C0 : zCx p s m args meth c D Y F A RX6 cX6_readNumber 5 (some .int) wsX6_readNumber) (res : Int32 × zSt) : ∀ (S : zSt), M_X6_readNumber_B92 (zpk G) S = some res → ∀ (H : Heap) (locs : List Loc) (ls : Array Slot), zH D Y F A G S H → va_S A s.heap H locs → lv_has ls 5 [(0, .ref (F 70))] → W p l e (zRm 2 42) s m args below meth c H locs 0 0 (MQ below (zQi D Y F A G res) args s 0 0 A) (F0 m 92 ls []) := by
  obtain ⟨hx, hb, hml, hr, hown, hts, hK, hA, hlk, hN⟩ := id C0
  intro S h H locs ls hw hS hl
  unfold M_X6_readNumber_B92 at h
  refine lv_aload_n hx hb dX6_readNumber_92 rfl (lv_at hl 0 rfl) ?_
  refine lv_aload_n hx hb dX6_readNumber_93 rfl (lv_at hl 0 rfl) ?_
  refine z_getU C0 in_X6_readNumber_X6 (C := RX6) (T := TX6) (N := 10) hw (k := 70) (ci := 6) (v := .int ((zsc S 70 5))) rfl rfl rfl rfl 5 (by decide) rfl 3 rfl (Or.inl rfl) dX6_readNumber_94 ?_
  refine z_putU C0 in_X6_readNumber_X6 tyX6 tyX6_ok nmX6 (C := RX6) (T := TX6) (N := 10) hw hS (k := 70) (ci := 6) (v := (zsc S 70 5)) rfl rfl rfl rfl 4 (by decide) 1 rfl rfl rfl rfl (Nat.le_of_ble_eq_true rfl) rfl dX6_readNumber_97 (fun H locs hw hS => ?_)
  refine lv_iconst (v := (-1)) hx hb dX6_readNumber_100 (by decide) ?_
  exact z_reti C0 hw hS (Option.some.inj h) dX6_readNumber_101
def M_X6_readNumber_B82 (pk : Nat → Nat) (S : zSt) (x1 : Int32) (x2 : Int32) (x3 : Int32) : Option (Int32 × zSt) :=
  (if x3 < x1 then M_X6_readNumber_B92 pk S else (if x3 ≤ x2 then some (x3, S) else M_X6_readNumber_B92 pk S))
set_option maxHeartbeats 4000000 in
set_option maxRecDepth 100000 in
theorem t_X6_readNumber_B82 {p : Program} {l : Launch} {e : Env} {s : State} {m : MethodId} {args : Array Value} {below : List Frame} {meth : Method} {c : Code} {D : va_G} {Y : Nat → ClassId} {F : Nat → Nat} {A : Nat → Prop} {G : zG} (C0 : zCx p s m args meth c D Y F A RX6 cX6_readNumber 5 (some .int) wsX6_readNumber) (res : Int32 × zSt) : ∀ (S : zSt) (x1 : Int32) (x2 : Int32) (x3 : Int32), M_X6_readNumber_B82 (zpk G) S x1 x2 x3 = some res → ∀ (H : Heap) (locs : List Loc) (ls : Array Slot), zH D Y F A G S H → va_S A s.heap H locs → lv_has ls 5 [(0, .ref (F 70)), (1, .int x1), (2, .int x2), (3, .int x3)] → W p l e (zRm 2 42) s m args below meth c H locs 0 0 (MQ below (zQi D Y F A G res) args s 0 0 A) (F0 m 82 ls []) := by
  obtain ⟨hx, hb, hml, hr, hown, hts, hK, hA, hlk, hN⟩ := id C0
  intro S x1 x2 x3 h H locs ls hw hS hl
  unfold M_X6_readNumber_B82 at h
  refine lv_iload_n hx hb dX6_readNumber_82 rfl (lv_at hl 3 rfl) ?_
  refine lv_iload_n hx hb dX6_readNumber_83 rfl (lv_at hl 1 rfl) ?_
  refine lv_icmp_lt (tgt := 92) hx hb dX6_readNumber_84 (by decide) (fun c8 => ?_) (fun c8 => ?_)
  · replace h := z_ifp c8 h
    exact t_X6_readNumber_B92 C0 res S h _ _ _ hw hS (lv_sub hl [0] rfl)
  · replace h := z_ifn c8 h
    refine lv_iload_n hx hb dX6_readNumber_87 rfl (lv_at hl 3 rfl) ?_
    refine lv_iload_n hx hb dX6_readNumber_88 rfl (lv_at hl 2 rfl) ?_
    refine lv_icmp_le (tgt := 102) hx hb dX6_readNumber_89 (by decide) (fun c9 => ?_) (fun c9 => ?_)
    · replace h := z_ifp c9 h
      refine lv_iload_n hx hb dX6_readNumber_102 rfl (lv_at hl 3 rfl) ?_
      exact z_reti C0 hw hS (Option.some.inj h) dX6_readNumber_103
    · replace h := z_ifn c9 h
      exact t_X6_readNumber_B92 C0 res S h _ _ _ hw hS (lv_sub hl [0] rfl)
def M_X6_readNumber (pk : Nat → Nat) (S : zSt) (x1 : Int32) (x2 : Int32) : Option (Int32 × zSt) :=
  Option.bind (M_X6_readLetter pk S 32) (fun w1 => Option.bind (M_X6_digitHere pk w1) (fun w2 => (if (zsc w1 70 4) = (-1) then (if w2 = (-1) then M_X6_readNumber_B24 pk w1 else Option.bind (M_X6_digitHere pk ((zP ((zP w1 70 5 ((zsc w1 70 3)))) 70 3 (((zsc ((zP w1 70 5 ((zsc w1 70 3)))) 70 3) + 1))))) (fun w6 => (if w6 = (-1) then M_X6_readNumber_B82 pk ((zP ((zP w1 70 5 ((zsc w1 70 3)))) 70 3 (((zsc ((zP w1 70 5 ((zsc w1 70 3)))) 70 3) + 1)))) x1 x2 w2 else Option.bind (some ((((10 : Int32) * w2) + w6))) (fun v10 => M_X6_readNumber_B82 pk ((zP ((zP ((zP w1 70 5 ((zsc w1 70 3)))) 70 3 (((zsc ((zP w1 70 5 ((zsc w1 70 3)))) 70 3) + 1)))) 70 3 (((zsc ((zP ((zP w1 70 5 ((zsc w1 70 3)))) 70 3 (((zsc ((zP w1 70 5 ((zsc w1 70 3)))) 70 3) + 1)))) 70 3) + 1)))) x1 x2 v10)))) else M_X6_readNumber_B24 pk w1)))
set_option maxHeartbeats 4000000 in
set_option maxRecDepth 100000 in
theorem c_X6_readNumber (l : Launch) (D : va_G) (Y : Nat → ClassId) (F : Nat → Nat) (G : zG) (S : zSt) (sz : Nat) (x1 : Int32) (x2 : Int32) (res : Int32 × zSt) (h : M_X6_readNumber (zpk G) S x1 x2 = some res) : Met l yX6_readNumber wsX6_readNumber (zRm 2 42) (zPc D Y F G S sz [.ref (F 70), .int x1, .int x2]) (zQi D Y F (zAo F G sz) G res) 0 0 (zAo F G sz) := by
  unfold M_X6_readNumber at h
  refine zMet (cc := cX6_readNumber) (maxL := 5) (ret := (some .int)) (own := RX6) (by decide +kernel) rfl rfl (Nat.le_of_ble_eq_true rfl) ?_
  intro p e s m args below meth c C0 hin hw hS ls hl
  have hl : lv_has ls 5 [(0, .ref (F 70)), (1, .int x1), (2, .int x2)] := hl
  generalize zAo F G sz = A at C0 hw hS ⊢
  obtain ⟨hx, hb, hml, hr, hown, hts, hK, hA, hlk, hN⟩ := id C0
  refine lv_aload_n hx hb dX6_readNumber_0 rfl (lv_at hl 0 rfl) ?_
  refine lv_bipush (v := 32) hx hb dX6_readNumber_1 (by decide) ?_
  obtain ⟨w1, ew1, h⟩ := z_bd h
  refine z_gov C0 hw hS (res := w1) (rest := []) (arr := (Value.ref (F 70) :: [.int 32]).toArray) ?_ (fun H locs hw hS => ?_)
  · exact va_runV (z_fix C0) (c_X6_readLetter l D Y F G S _ 32 w1 ew1) (cwV 1 hts gX6_readNumber_X6_readLetter rfl rfl rfl (by decide +kernel) ⟨Nat.le_of_ble_eq_true rfl, Nat.le_of_ble_eq_true rfl⟩) ⟨zPc_blind, z_rv C0 hw (k := 70) rfl rfl rfl rfl, z_give C0 hw hS _⟩ rfl rfl hl.1 rfl (lv_room (Nat.le_of_ble_eq_true rfl)) dX6_readNumber_3 ⟨Nat.zero_le _, Nat.zero_le _⟩
  refine lv_aload_n hx hb dX6_readNumber_6 rfl (lv_at hl 0 rfl) ?_
  obtain ⟨w2, ew2, h⟩ := z_bd h
  refine z_goi C0 hw hS (res := (w2, w1)) (rest := []) (arr := (Value.ref (F 70) :: []).toArray) ?_ (fun H locs hw hS => ?_)
  · exact va_runV (z_fix C0) (c_X6_digitHere l D Y F G w1 _ w2 ew2) (cwV 0 hts gX6_readNumber_X6_digitHere rfl rfl rfl (by decide +kernel) ⟨Nat.le_of_ble_eq_true rfl, Nat.le_of_ble_eq_true rfl⟩) ⟨zPc_blind, z_rv C0 hw (k := 70) rfl rfl rfl rfl, z_give C0 hw hS _⟩ rfl rfl hl.1 rfl (lv_room (Nat.le_of_ble_eq_true rfl)) dX6_readNumber_7 ⟨Nat.zero_le _, Nat.zero_le _⟩
  refine lv_istore_n (lv' := [(3, .int w2), (0, .ref (F 70)), (1, .int x1), (2, .int x2)]) hx hb dX6_readNumber_10 rfl hl (by decide) rfl (fun ls hl => ?_)
  refine lv_aload_n hx hb dX6_readNumber_11 rfl (lv_at hl 1 rfl) ?_
  refine z_getU C0 in_X6_readNumber_X6 (C := RX6) (T := TX6) (N := 10) hw (k := 70) (ci := 6) (v := .int ((zsc w1 70 4))) rfl rfl rfl rfl 4 (by decide) rfl 1 rfl (Or.inl rfl) dX6_readNumber_12 ?_
  refine lv_iconst (v := (-1)) hx hb dX6_readNumber_15 (by decide) ?_
  refine lv_icmp_ne (tgt := 24) hx hb dX6_readNumber_16 (by decide) (fun c3 => ?_) (fun c3 => ?_)
  · replace h := z_ifn c3 h
    exact t_X6_readNumber_B24 C0 res w1 h _ _ _ hw hS (lv_sub hl [1] rfl)
  · replace h := z_ifp c3 h
    refine lv_iload_n hx hb dX6_readNumber_19 rfl (lv_at hl 0 rfl) ?_
    refine lv_iconst (v := (-1)) hx hb dX6_readNumber_20 (by decide) ?_
    refine lv_icmp_ne (tgt := 34) hx hb dX6_readNumber_21 (by decide) (fun c5 => ?_) (fun c5 => ?_)
    · replace h := z_ifn c5 h
      refine lv_aload_n hx hb dX6_readNumber_34 rfl (lv_at hl 1 rfl) ?_
      refine lv_aload_n hx hb dX6_readNumber_35 rfl (lv_at hl 1 rfl) ?_
      refine z_getU C0 in_X6_readNumber_X6 (C := RX6) (T := TX6) (N := 10) hw (k := 70) (ci := 6) (v := .int ((zsc w1 70 3))) rfl rfl rfl rfl 3 (by decide) rfl 2 rfl (Or.inl rfl) dX6_readNumber_36 ?_
      refine z_putU C0 in_X6_readNumber_X6 tyX6 tyX6_ok nmX6 (C := RX6) (T := TX6) (N := 10) hw hS (k := 70) (ci := 6) (v := (zsc w1 70 3)) rfl rfl rfl rfl 5 (by decide) 3 rfl rfl rfl rfl (Nat.le_of_ble_eq_true rfl) rfl dX6_readNumber_39 (fun H locs hw hS => ?_)
      refine lv_aload_n hx hb dX6_readNumber_42 rfl (lv_at hl 1 rfl) ?_
      refine lv_dup hx hb dX6_readNumber_43 rfl ?_
      refine z_getU C0 in_X6_readNumber_X6 (C := RX6) (T := TX6) (N := 10) hw (k := 70) (ci := 6) (v := .int ((zsc ((zP w1 70 5 ((zsc w1 70 3)))) 70 3))) rfl rfl rfl rfl 3 (by decide) rfl 2 rfl (Or.inl rfl) dX6_readNumber_44 ?_
      refine lv_iconst (v := 1) hx hb dX6_readNumber_47 (by decide) ?_
      refine lv_iadd hx hb dX6_readNumber_48 ?_
      refine z_putU C0 in_X6_readNumber_X6 tyX6 tyX6_ok nmX6 (C := RX6) (T := TX6) (N := 10) hw hS (k := 70) (ci := 6) (v := ((zsc ((zP w1 70 5 ((zsc w1 70 3)))) 70 3) + 1)) rfl rfl rfl rfl 3 (by decide) 2 rfl rfl rfl rfl (Nat.le_of_ble_eq_true rfl) rfl dX6_readNumber_49 (fun H locs hw hS => ?_)
      refine lv_aload_n hx hb dX6_readNumber_52 rfl (lv_at hl 1 rfl) ?_
      obtain ⟨w6, ew6, h⟩ := z_bd h
      refine z_goi C0 hw hS (res := (w6, ((zP ((zP w1 70 5 ((zsc w1 70 3)))) 70 3 (((zsc ((zP w1 70 5 ((zsc w1 70 3)))) 70 3) + 1)))))) (rest := []) (arr := (Value.ref (F 70) :: []).toArray) ?_ (fun H locs hw hS => ?_)
      · exact va_runV (z_fix C0) (c_X6_digitHere l D Y F G ((zP ((zP w1 70 5 ((zsc w1 70 3)))) 70 3 (((zsc ((zP w1 70 5 ((zsc w1 70 3)))) 70 3) + 1)))) _ w6 ew6) (cwV 0 hts gX6_readNumber_X6_digitHere rfl rfl rfl (by decide +kernel) ⟨Nat.le_of_ble_eq_true rfl, Nat.le_of_ble_eq_true rfl⟩) ⟨zPc_blind, z_rv C0 hw (k := 70) rfl rfl rfl rfl, z_give C0 hw hS _⟩ rfl rfl hl.1 rfl (lv_room (Nat.le_of_ble_eq_true rfl)) dX6_readNumber_53 ⟨Nat.zero_le _, Nat.zero_le _⟩
      refine lv_istore (lv' := [(4, .int w6), (3, .int w2), (0, .ref (F 70)), (1, .int x1), (2, .int x2)]) hx hb dX6_readNumber_56 hl (by decide) rfl (fun ls hl => ?_)
      refine lv_iload hx hb dX6_readNumber_58 (lv_at hl 0 rfl) ?_
      refine lv_iconst (v := (-1)) hx hb dX6_readNumber_60 (by decide) ?_
      refine lv_icmp_eq (tgt := 82) hx hb dX6_readNumber_61 (by decide) (fun c7 => ?_) (fun c7 => ?_)
      · replace h := z_ifp c7 h
        exact t_X6_readNumber_B82 C0 res ((zP ((zP w1 70 5 ((zsc w1 70 3)))) 70 3 (((zsc ((zP w1 70 5 ((zsc w1 70 3)))) 70 3) + 1)))) x1 x2 w2 h _ _ _ hw hS (lv_sub hl [2, 3, 4, 1] rfl)
      · replace h := z_ifn c7 h
        refine lv_bipush (v := 10) hx hb dX6_readNumber_64 (by decide) ?_
        refine lv_iload_n hx hb dX6_readNumber_66 rfl (lv_at hl 1 rfl) ?_
        refine lv_imul hx hb dX6_readNumber_67 ?_
        refine lv_iload hx hb dX6_readNumber_68 (lv_at hl 0 rfl) ?_
        refine lv_iadd hx hb dX6_readNumber_70 ?_
        obtain ⟨v10, ev10, h⟩ := z_bd h
        refine z_top (Option.some.inj ev10) ?_
        refine lv_istore_n (lv' := [(3, .int v10), (4, .int w6), (0, .ref (F 70)), (1, .int x1), (2, .int x2)]) hx hb dX6_readNumber_71 rfl hl (by decide) rfl (fun ls hl => ?_)
        refine lv_aload_n hx hb dX6_readNumber_72 rfl (lv_at hl 2 rfl) ?_
        refine lv_dup hx hb dX6_readNumber_73 rfl ?_
        refine z_getU C0 in_X6_readNumber_X6 (C := RX6) (T := TX6) (N := 10) hw (k := 70) (ci := 6) (v := .int ((zsc ((zP ((zP w1 70 5 ((zsc w1 70 3)))) 70 3 (((zsc ((zP w1 70 5 ((zsc w1 70 3)))) 70 3) + 1)))) 70 3))) rfl rfl rfl rfl 3 (by decide) rfl 2 rfl (Or.inl rfl) dX6_readNumber_74 ?_
        refine lv_iconst (v := 1) hx hb dX6_readNumber_77 (by decide) ?_
        refine lv_iadd hx hb dX6_readNumber_78 ?_
        refine z_putU C0 in_X6_readNumber_X6 tyX6 tyX6_ok nmX6 (C := RX6) (T := TX6) (N := 10) hw hS (k := 70) (ci := 6) (v := ((zsc ((zP ((zP w1 70 5 ((zsc w1 70 3)))) 70 3 (((zsc ((zP w1 70 5 ((zsc w1 70 3)))) 70 3) + 1)))) 70 3) + 1)) rfl rfl rfl rfl 3 (by decide) 2 rfl rfl rfl rfl (Nat.le_of_ble_eq_true rfl) rfl dX6_readNumber_79 (fun H locs hw hS => ?_)
        exact t_X6_readNumber_B82 C0 res ((zP ((zP ((zP w1 70 5 ((zsc w1 70 3)))) 70 3 (((zsc ((zP w1 70 5 ((zsc w1 70 3)))) 70 3) + 1)))) 70 3 (((zsc ((zP ((zP w1 70 5 ((zsc w1 70 3)))) 70 3 (((zsc ((zP w1 70 5 ((zsc w1 70 3)))) 70 3) + 1)))) 70 3) + 1)))) x1 x2 v10 h _ _ _ hw hS (lv_sub hl [2, 3, 4, 0] rfl)
    · replace h := z_ifp c5 h
      exact t_X6_readNumber_B24 C0 res w1 h _ _ _ hw hS (lv_sub hl [1] rfl)
def M_X6_outOf (pk : Nat → Nat) (S : zSt) (x1 : Int32) : Option (Int32) :=
  Option.bind (M_X4_personAt pk S 1 x1) (fun w1 => (zm w1 (some 6) (fun q2 => zg (zOKb pk q2) (some ((zsc S (100 + 4 * q2) 8))))))
set_option maxHeartbeats 4000000 in
set_option maxRecDepth 100000 in
theorem c_X6_outOf (l : Launch) (D : va_G) (Y : Nat → ClassId) (F : Nat → Nat) (G : zG) (S : zSt) (sz : Nat) (x1 : Int32) (res : Int32) (h : M_X6_outOf (zpk G) S x1 = some res) : Met l yX6_outOf wsX6_outOf (zRm 1 21) (zPc D Y F G S sz [.ref (F 70), .int x1]) (zQi D Y F (zAo F G sz) G (res, S)) 0 0 (zAo F G sz) := by
  unfold M_X6_outOf at h
  refine zMet (cc := cX6_outOf) (maxL := 3) (ret := (some .int)) (own := RX6) (by decide +kernel) rfl rfl (Nat.le_of_ble_eq_true rfl) ?_
  intro p e s m args below meth c C0 hin hw hS ls hl
  have hl : lv_has ls 3 [(0, .ref (F 70)), (1, .int x1)] := hl
  generalize zAo F G sz = A at C0 hw hS ⊢
  obtain ⟨hx, hb, hml, hr, hown, hts, hK, hA, hlk, hN⟩ := id C0
  refine lv_aload_n hx hb dX6_outOf_0 rfl (lv_at hl 0 rfl) ?_
  refine z_getU C0 in_X6_outOf_X6 (C := RX6) (T := TX6) (N := 10) hw (k := 70) (ci := 6) (v := .ref (F 63)) rfl rfl rfl rfl 0 (by decide) rfl 1 rfl (Or.inl rfl) dX6_outOf_1 ?_
  refine lv_iload_n hx hb dX6_outOf_4 rfl (lv_at hl 1 rfl) ?_
  obtain ⟨w1, ew1, h⟩ := z_bd h
  refine z_goq C0 hw hS (r0 := w1.map (zpa F G)) (rest := []) (arr := (Value.ref (F 63) :: [.int x1]).toArray) ?_ (fun H locs hw hS => ?_)
  · exact va_runV (z_fix C0) (c_X4_personAt l D Y F G S _ 1 (by decide) x1 w1 ew1) (cwV 1 hts gX6_outOf_X4_personAt rfl rfl rfl (by decide +kernel) ⟨Nat.le_of_ble_eq_true rfl, Nat.le_of_ble_eq_true rfl⟩) ⟨zPc_blind, z_rv C0 hw (k := 63) rfl rfl rfl rfl, z_give C0 hw hS _⟩ rfl rfl hl.1 rfl (lv_room (Nat.le_of_ble_eq_true rfl)) dX6_outOf_5 ⟨Nat.zero_le _, Nat.zero_le _⟩
  rcases w1 with _ | q2
  · replace h := zm_n h
    refine z_topv (y := .null) rfl ?_
    refine lv_astore_nN (lv' := [(2, .null), (0, .ref (F 70)), (1, .int x1)]) hx hb dX6_outOf_8 rfl hl (by decide) rfl (fun ls hl => ?_)
    refine lv_aload_nN hx hb dX6_outOf_9 rfl (lv_at hl 0 rfl) ?_
    refine lv_ifnonnullN hx hb dX6_outOf_10 ?_
    refine lv_bipush (v := 6) hx hb dX6_outOf_13 (by decide) ?_
    refine lv_goto (tgt := 22) hx hb dX6_outOf_15 (by decide) ?_
    exact z_reti C0 hw hS (congrArg (fun z => (z, S)) (Option.some.inj h)) dX6_outOf_22
  · replace h := zm_s h
    obtain ⟨bq2, h⟩ := z_gd h
    have hq2 := bq2
    refine z_topv (y := .ref (zad F G (100 + 4 * q2))) rfl ?_
    refine lv_astore_n (lv' := [(2, .ref (zad F G (100 + 4 * q2))), (0, .ref (F 70)), (1, .int x1)]) hx hb dX6_outOf_8 rfl hl (by decide) rfl (fun ls hl => ?_)
    refine lv_aload_n hx hb dX6_outOf_9 rfl (lv_at hl 0 rfl) ?_
    refine lv_ifnonnull (tgt := 18) hx hb dX6_outOf_10 (by decide) ?_
    refine lv_aload_n hx hb dX6_outOf_18 rfl (lv_at hl 0 rfl) ?_
    refine z_getP C0 inP_X6_outOf hw hq2 8 (by decide) (v := .int ((zsc S (100 + 4 * q2) 8))) rfl 2 rfl (Or.inl rfl) dX6_outOf_19 ?_
    exact z_reti C0 hw hS (congrArg (fun z => (z, S)) (Option.some.inj h)) dX6_outOf_22
def M_X6_readPress_B50 (pk : Nat → Nat) (S : zSt) : Option (zSt) :=
  Option.bind (M_X6_readNumber pk S 0 7) (fun w5 => Option.bind (M_X6_readNumber pk ((zP w5.2 70 8 w5.1)) 1 99) (fun w6 => some ((zP w6.2 70 9 w6.1))))
set_option maxHeartbeats 4000000 in
set_option maxRecDepth 100000 in
theorem t_X6_readPress_B50 {p : Program} {l : Launch} {e : Env} {s : State} {m : MethodId} {args : Array Value} {below : List Frame} {meth : Method} {c : Code} {D : va_G} {Y : Nat → ClassId} {F : Nat → Nat} {A : Nat → Prop} {G : zG} (C0 : zCx p s m args meth c D Y F A RX6 cX6_readPress 1 none wsX6_readPress) (res : zSt) : ∀ (S : zSt), M_X6_readPress_B50 (zpk G) S = some res → ∀ (H : Heap) (locs : List Loc) (ls : Array Slot), zH D Y F A G S H → va_S A s.heap H locs → lv_has ls 1 [(0, .ref (F 70))] → W p l e (zRm 5 107) s m args below meth c H locs 0 0 (MQ below (zQv D Y F A G res) args s 0 0 A) (F0 m 50 ls []) := by
  obtain ⟨hx, hb, hml, hr, hown, hts, hK, hA, hlk, hN⟩ := id C0
  intro S h H locs ls hw hS hl
  unfold M_X6_readPress_B50 at h
  refine lv_aload_n hx hb dX6_readPress_50 rfl (lv_at hl 0 rfl) ?_
  refine lv_aload_n hx hb dX6_readPress_51 rfl (lv_at hl 0 rfl) ?_
  refine lv_iconst (v := 0) hx hb dX6_readPress_52 (by decide) ?_
  refine lv_bipush (v := 7) hx hb dX6_readPress_53 (by decide) ?_
  obtain ⟨w5, ew5, h⟩ := z_bd h
  refine z_goi C0 hw hS (res := w5) (rest := [.ref (F 70)]) (arr := (Value.ref (F 70) :: [.int 0, .int 7]).toArray) ?_ (fun H locs hw hS => ?_)
  · exact va_runV (z_fix C0) (c_X6_readNumber l D Y F G S _ 0 7 w5 ew5) (cwV 2 hts gX6_readPress_X6_readNumber rfl rfl rfl (by decide +kernel) ⟨Nat.le_of_ble_eq_true rfl, Nat.le_of_ble_eq_true rfl⟩) ⟨zPc_blind, z_rv C0 hw (k := 70) rfl rfl rfl rfl, z_give C0 hw hS _⟩ rfl rfl hl.1 rfl (lv_room (Nat.le_of_ble_eq_true rfl)) dX6_readPress_55 ⟨Nat.zero_le _, Nat.zero_le _⟩
  refine z_putU C0 in_X6_readPress_X6 tyX6 tyX6_ok nmX6 (C := RX6) (T := TX6) (N := 10) hw hS (k := 70) (ci := 6) (v := w5.1) rfl rfl rfl rfl 8 (by decide) 6 rfl rfl rfl rfl (Nat.le_of_ble_eq_true rfl) rfl dX6_readPress_58 (fun H locs hw hS => ?_)
  refine lv_aload_n hx hb dX6_readPress_61 rfl (lv_at hl 0 rfl) ?_
  refine lv_aload_n hx hb dX6_readPress_62 rfl (lv_at hl 0 rfl) ?_
  refine lv_iconst (v := 1) hx hb dX6_readPress_63 (by decide) ?_
  refine lv_bipush (v := 99) hx hb dX6_readPress_64 (by decide) ?_
  obtain ⟨w6, ew6, h⟩ := z_bd h
  refine z_goi C0 hw hS (res := w6) (rest := [.ref (F 70)]) (arr := (Value.ref (F 70) :: [.int 1, .int 99]).toArray) ?_ (fun H locs hw hS => ?_)
  · exact va_runV (z_fix C0) (c_X6_readNumber l D Y F G ((zP w5.2 70 8 w5.1)) _ 1 99 w6 ew6) (cwV 2 hts gX6_readPress_X6_readNumber rfl rfl rfl (by decide +kernel) ⟨Nat.le_of_ble_eq_true rfl, Nat.le_of_ble_eq_true rfl⟩) ⟨zPc_blind, z_rv C0 hw (k := 70) rfl rfl rfl rfl, z_give C0 hw hS _⟩ rfl rfl hl.1 rfl (lv_room (Nat.le_of_ble_eq_true rfl)) dX6_readPress_66 ⟨Nat.zero_le _, Nat.zero_le _⟩
  refine z_putU C0 in_X6_readPress_X6 tyX6 tyX6_ok nmX6 (C := RX6) (T := TX6) (N := 10) hw hS (k := 70) (ci := 6) (v := w6.1) rfl rfl rfl rfl 9 (by decide) 7 rfl rfl rfl rfl (Nat.le_of_ble_eq_true rfl) rfl dX6_readPress_69 (fun H locs hw hS => ?_)
  exact z_retv C0 hw hS (Option.some.inj h) dX6_readPress_72
def M_X6_readPress (pk : Nat → Nat) (S : zSt) : Option (zSt) :=
  Option.bind (M_X6_readWord pk ((zP S 70 6 1)) 1) (fun w1 => Option.bind (M_X6_readNumber pk w1 0 (((zsc w1 63 3) - 1))) (fun w2 => Option.bind (M_X6_outOf pk ((zP w2.2 70 7 w2.1)) ((zsc ((zP w2.2 70 7 w2.1)) 70 7))) (fun w3 => (if w3 < 6 then M_X6_readPress_B50 pk ((zP w2.2 70 7 w2.1)) else Option.bind (M_X6_faultAt pk ((zP w2.2 70 7 w2.1)) ((zsc ((zP w2.2 70 7 w2.1)) 70 5))) (fun w7 => M_X6_readPress_B50 pk w7)))))
set_option maxHeartbeats 4000000 in
set_option maxRecDepth 100000 in
theorem c_X6_readPress (l : Launch) (D : va_G) (Y : Nat → ClassId) (F : Nat → Nat) (G : zG) (S : zSt) (sz : Nat) (res : zSt) (h : M_X6_readPress (zpk G) S = some res) : Met l yX6_readPress wsX6_readPress (zRm 5 107) (zPc D Y F G S sz [.ref (F 70)]) (zQv D Y F (zAo F G sz) G res) 0 0 (zAo F G sz) := by
  unfold M_X6_readPress at h
  refine zMet (cc := cX6_readPress) (maxL := 1) (ret := none) (own := RX6) (by decide +kernel) rfl rfl (Nat.le_of_ble_eq_true rfl) ?_
  intro p e s m args below meth c C0 hin hw hS ls hl
  have hl : lv_has ls 1 [(0, .ref (F 70))] := hl
  generalize zAo F G sz = A at C0 hw hS ⊢
  obtain ⟨hx, hb, hml, hr, hown, hts, hK, hA, hlk, hN⟩ := id C0
  refine lv_aload_n hx hb dX6_readPress_0 rfl (lv_at hl 0 rfl) ?_
  refine lv_iconst (v := 1) hx hb dX6_readPress_1 (by decide) ?_
  refine z_putU C0 in_X6_readPress_X6 tyX6 tyX6_ok nmX6 (C := RX6) (T := TX6) (N := 10) hw hS (k := 70) (ci := 6) (v := 1) rfl rfl rfl rfl 6 (by decide) 1 rfl rfl rfl rfl (Nat.le_of_ble_eq_true rfl) rfl dX6_readPress_2 (fun H locs hw hS => ?_)
  refine lv_aload_n hx hb dX6_readPress_5 rfl (lv_at hl 0 rfl) ?_
  refine va_ldcS (q := F (200 + 1)) hx hb hown (hN.2.2.2.2.1 _ (List.mem_of_getElem? (i := 1) rfl)) dX6_readPress_6 ?_
  obtain ⟨w1, ew1, h⟩ := z_bd h
  refine z_gov C0 hw hS (res := w1) (rest := []) (arr := (Value.ref (F 70) :: [.ref (F (200 + 1))]).toArray) ?_ (fun H locs hw hS => ?_)
  · exact va_runV (z_fix C0) (c_X6_readWord l D Y F G ((zP S 70 6 1)) _ 1 (by decide) w1 ew1) (cwV 1 hts gX6_readPress_X6_readWord rfl rfl rfl (by decide +kernel) ⟨Nat.le_of_ble_eq_true rfl, Nat.le_of_ble_eq_true rfl⟩) ⟨zPc_blind, z_rv C0 hw (k := 70) rfl rfl rfl rfl, z_give C0 hw hS _⟩ rfl rfl hl.1 rfl (lv_room (Nat.le_of_ble_eq_true rfl)) dX6_readPress_8 ⟨Nat.zero_le _, Nat.zero_le _⟩
  refine lv_aload_n hx hb dX6_readPress_11 rfl (lv_at hl 0 rfl) ?_
  refine lv_aload_n hx hb dX6_readPress_12 rfl (lv_at hl 0 rfl) ?_
  refine lv_iconst (v := 0) hx hb dX6_readPress_13 (by decide) ?_
  refine lv_aload_n hx hb dX6_readPress_14 rfl (lv_at hl 0 rfl) ?_
  refine z_getU C0 in_X6_readPress_X6 (C := RX6) (T := TX6) (N := 10) hw (k := 70) (ci := 6) (v := .ref (F 63)) rfl rfl rfl rfl 0 (by decide) rfl 2 rfl (Or.inl rfl) dX6_readPress_15 ?_
  refine z_getU C0 in_X6_readPress_X4 (C := RX4) (T := TX4) (N := 6) hw (k := 63) (ci := 4) (v := .int ((zsc w1 63 3))) rfl rfl rfl rfl 3 (by decide) rfl 3 rfl (Or.inl rfl) dX6_readPress_18 ?_
  refine lv_iconst (v := 1) hx hb dX6_readPress_21 (by decide) ?_
  refine lv_isub hx hb dX6_readPress_22 ?_
  obtain ⟨w2, ew2, h⟩ := z_bd h
  refine z_goi C0 hw hS (res := w2) (rest := [.ref (F 70)]) (arr := (Value.ref (F 70) :: [.int 0, .int (((zsc w1 63 3) - 1))]).toArray) ?_ (fun H locs hw hS => ?_)
  · exact va_runV (z_fix C0) (c_X6_readNumber l D Y F G w1 _ 0 (((zsc w1 63 3) - 1)) w2 ew2) (cwV 2 hts gX6_readPress_X6_readNumber rfl rfl rfl (by decide +kernel) ⟨Nat.le_of_ble_eq_true rfl, Nat.le_of_ble_eq_true rfl⟩) ⟨zPc_blind, z_rv C0 hw (k := 70) rfl rfl rfl rfl, z_give C0 hw hS _⟩ rfl rfl hl.1 rfl (lv_room (Nat.le_of_ble_eq_true rfl)) dX6_readPress_23 ⟨Nat.zero_le _, Nat.zero_le _⟩
  refine z_putU C0 in_X6_readPress_X6 tyX6 tyX6_ok nmX6 (C := RX6) (T := TX6) (N := 10) hw hS (k := 70) (ci := 6) (v := w2.1) rfl rfl rfl rfl 7 (by decide) 4 rfl rfl rfl rfl (Nat.le_of_ble_eq_true rfl) rfl dX6_readPress_26 (fun H locs hw hS => ?_)
  refine lv_aload_n hx hb dX6_readPress_29 rfl (lv_at hl 0 rfl) ?_
  refine lv_aload_n hx hb dX6_readPress_30 rfl (lv_at hl 0 rfl) ?_
  refine z_getU C0 in_X6_readPress_X6 (C := RX6) (T := TX6) (N := 10) hw (k := 70) (ci := 6) (v := .int ((zsc ((zP w2.2 70 7 w2.1)) 70 7))) rfl rfl rfl rfl 7 (by decide) rfl 4 rfl (Or.inl rfl) dX6_readPress_31 ?_
  obtain ⟨w3, ew3, h⟩ := z_bd h
  refine z_goi C0 hw hS (res := (w3, ((zP w2.2 70 7 w2.1)))) (rest := []) (arr := (Value.ref (F 70) :: [.int ((zsc ((zP w2.2 70 7 w2.1)) 70 7))]).toArray) ?_ (fun H locs hw hS => ?_)
  · exact va_runV (z_fix C0) (c_X6_outOf l D Y F G ((zP w2.2 70 7 w2.1)) _ ((zsc ((zP w2.2 70 7 w2.1)) 70 7)) w3 ew3) (cwV 1 hts gX6_readPress_X6_outOf rfl rfl rfl (by decide +kernel) ⟨Nat.le_of_ble_eq_true rfl, Nat.le_of_ble_eq_true rfl⟩) ⟨zPc_blind, z_rv C0 hw (k := 70) rfl rfl rfl rfl, z_give C0 hw hS _⟩ rfl rfl hl.1 rfl (lv_room (Nat.le_of_ble_eq_true rfl)) dX6_readPress_34 ⟨Nat.zero_le _, Nat.zero_le _⟩
  refine lv_bipush (v := 6) hx hb dX6_readPress_37 (by decide) ?_
  refine lv_icmp_lt (tgt := 50) hx hb dX6_readPress_39 (by decide) (fun c4 => ?_) (fun c4 => ?_)
  · replace h := z_ifp c4 h
    exact t_X6_readPress_B50 C0 res ((zP w2.2 70 7 w2.1)) h _ _ _ hw hS (lv_sub hl [0] rfl)
  · replace h := z_ifn c4 h
    refine lv_aload_n hx hb dX6_readPress_42 rfl (lv_at hl 0 rfl) ?_
    refine lv_aload_n hx hb dX6_readPress_43 rfl (lv_at hl 0 rfl) ?_
    refine z_getU C0 in_X6_readPress_X6 (C := RX6) (T := TX6) (N := 10) hw (k := 70) (ci := 6) (v := .int ((zsc ((zP w2.2 70 7 w2.1)) 70 5))) rfl rfl rfl rfl 5 (by decide) rfl 5 rfl (Or.inl rfl) dX6_readPress_44 ?_
    obtain ⟨w7, ew7, h⟩ := z_bd h
    refine z_gov C0 hw hS (res := w7) (rest := []) (arr := (Value.ref (F 70) :: [.int ((zsc ((zP w2.2 70 7 w2.1)) 70 5))]).toArray) ?_ (fun H locs hw hS => ?_)
    · exact va_runV (z_fix C0) (c_X6_faultAt l D Y F G ((zP w2.2 70 7 w2.1)) _ ((zsc ((zP w2.2 70 7 w2.1)) 70 5)) w7 ew7) (cwV 1 hts gX6_readPress_X6_faultAt rfl rfl rfl (by decide +kernel) ⟨Nat.le_of_ble_eq_true rfl, Nat.le_of_ble_eq_true rfl⟩) ⟨zPc_blind, z_rv C0 hw (k := 70) rfl rfl rfl rfl, z_give C0 hw hS _⟩ rfl rfl hl.1 rfl (lv_room (Nat.le_of_ble_eq_true rfl)) dX6_readPress_47 ⟨Nat.zero_le _, Nat.zero_le _⟩
    exact t_X6_readPress_B50 C0 res w7 h _ _ _ hw hS (lv_sub hl [0] rfl)
def M_X6_readPerson_B31 (pk : Nat → Nat) (S : zSt) : Option (zSt) :=
  Option.bind (M_X6_readNumber pk S 0 6) (fun w4 => Option.bind (M_X6_readNumber pk ((zP w4.2 70 7 w4.1)) 0 9) (fun w5 => Option.bind (M_X6_readNumber pk ((zP w5.2 70 8 w5.1)) 1 20) (fun w6 => some ((zP w6.2 70 9 w6.1)))))
set_option maxHeartbeats 4000000 in
set_option maxRecDepth 100000 in
theorem t_X6_readPerson_B31 {p : Program} {l : Launch} {e : Env} {s : State} {m : MethodId} {args : Array Value} {below : List Frame} {meth : Method} {c : Code} {D : va_G} {Y : Nat → ClassId} {F : Nat → Nat} {A : Nat → Prop} {G : zG} (C0 : zCx p s m args meth c D Y F A RX6 cX6_readPerson 2 none wsX6_readPerson) (res : zSt) : ∀ (S : zSt), M_X6_readPerson_B31 (zpk G) S = some res → ∀ (H : Heap) (locs : List Loc) (ls : Array Slot), zH D Y F A G S H → va_S A s.heap H locs → lv_has ls 2 [(0, .ref (F 70))] → W p l e (zRm 5 107) s m args below meth c H locs 0 0 (MQ below (zQv D Y F A G res) args s 0 0 A) (F0 m 31 ls []) := by
  obtain ⟨hx, hb, hml, hr, hown, hts, hK, hA, hlk, hN⟩ := id C0
  intro S h H locs ls hw hS hl
  unfold M_X6_readPerson_B31 at h
  refine lv_aload_n hx hb dX6_readPerson_31 rfl (lv_at hl 0 rfl) ?_
  refine lv_aload_n hx hb dX6_readPerson_32 rfl (lv_at hl 0 rfl) ?_
  refine lv_iconst (v := 0) hx hb dX6_readPerson_33 (by decide) ?_
  refine lv_bipush (v := 6) hx hb dX6_readPerson_34 (by decide) ?_
  obtain ⟨w4, ew4, h⟩ := z_bd h
  refine z_goi C0 hw hS (res := w4) (rest := [.ref (F 70)]) (arr := (Value.ref (F 70) :: [.int 0, .int 6]).toArray) ?_ (fun H locs hw hS => ?_)
  · exact va_runV (z_fix C0) (c_X6_readNumber l D Y F G S _ 0 6 w4 ew4) (cwV 2 hts gX6_readPerson_X6_readNumber rfl rfl rfl (by decide +kernel) ⟨Nat.le_of_ble_eq_true rfl, Nat.le_of_ble_eq_true rfl⟩) ⟨zPc_blind, z_rv C0 hw (k := 70) rfl rfl rfl rfl, z_give C0 hw hS _⟩ rfl rfl hl.1 rfl (lv_room (Nat.le_of_ble_eq_true rfl)) dX6_readPerson_36 ⟨Nat.zero_le _, Nat.zero_le _⟩
  refine z_putU C0 in_X6_readPerson_X6 tyX6 tyX6_ok nmX6 (C := RX6) (T := TX6) (N := 10) hw hS (k := 70) (ci := 6) (v := w4.1) rfl rfl rfl rfl 7 (by decide) 4 rfl rfl rfl rfl (Nat.le_of_ble_eq_true rfl) rfl dX6_readPerson_39 (fun H locs hw hS => ?_)
  refine lv_aload_n hx hb dX6_readPerson_42 rfl (lv_at hl 0 rfl) ?_
  refine lv_aload_n hx hb dX6_readPerson_43 rfl (lv_at hl 0 rfl) ?_
  refine lv_iconst (v := 0) hx hb dX6_readPerson_44 (by decide) ?_
  refine lv_bipush (v := 9) hx hb dX6_readPerson_45 (by decide) ?_
  obtain ⟨w5, ew5, h⟩ := z_bd h
  refine z_goi C0 hw hS (res := w5) (rest := [.ref (F 70)]) (arr := (Value.ref (F 70) :: [.int 0, .int 9]).toArray) ?_ (fun H locs hw hS => ?_)
  · exact va_runV (z_fix C0) (c_X6_readNumber l D Y F G ((zP w4.2 70 7 w4.1)) _ 0 9 w5 ew5) (cwV 2 hts gX6_readPerson_X6_readNumber rfl rfl rfl (by decide +kernel) ⟨Nat.le_of_ble_eq_true rfl, Nat.le_of_ble_eq_true rfl⟩) ⟨zPc_blind, z_rv C0 hw (k := 70) rfl rfl rfl rfl, z_give C0 hw hS _⟩ rfl rfl hl.1 rfl (lv_room (Nat.le_of_ble_eq_true rfl)) dX6_readPerson_47 ⟨Nat.zero_le _, Nat.zero_le _⟩
  refine z_putU C0 in_X6_readPerson_X6 tyX6 tyX6_ok nmX6 (C := RX6) (T := TX6) (N := 10) hw hS (k := 70) (ci := 6) (v := w5.1) rfl rfl rfl rfl 8 (by decide) 5 rfl rfl rfl rfl (Nat.le_of_ble_eq_true rfl) rfl dX6_readPerson_50 (fun H locs hw hS => ?_)
  refine lv_aload_n hx hb dX6_readPerson_53 rfl (lv_at hl 0 rfl) ?_
  refine lv_aload_n hx hb dX6_readPerson_54 rfl (lv_at hl 0 rfl) ?_
  refine lv_iconst (v := 1) hx hb dX6_readPerson_55 (by decide) ?_
  refine lv_bipush (v := 20) hx hb dX6_readPerson_56 (by decide) ?_
  obtain ⟨w6, ew6, h⟩ := z_bd h
  refine z_goi C0 hw hS (res := w6) (rest := [.ref (F 70)]) (arr := (Value.ref (F 70) :: [.int 1, .int 20]).toArray) ?_ (fun H locs hw hS => ?_)
  · exact va_runV (z_fix C0) (c_X6_readNumber l D Y F G ((zP w5.2 70 8 w5.1)) _ 1 20 w6 ew6) (cwV 2 hts gX6_readPerson_X6_readNumber rfl rfl rfl (by decide +kernel) ⟨Nat.le_of_ble_eq_true rfl, Nat.le_of_ble_eq_true rfl⟩) ⟨zPc_blind, z_rv C0 hw (k := 70) rfl rfl rfl rfl, z_give C0 hw hS _⟩ rfl rfl hl.1 rfl (lv_room (Nat.le_of_ble_eq_true rfl)) dX6_readPerson_58 ⟨Nat.zero_le _, Nat.zero_le _⟩
  refine z_putU C0 in_X6_readPerson_X6 tyX6 tyX6_ok nmX6 (C := RX6) (T := TX6) (N := 10) hw hS (k := 70) (ci := 6) (v := w6.1) rfl rfl rfl rfl 9 (by decide) 6 rfl rfl rfl rfl (Nat.le_of_ble_eq_true rfl) rfl dX6_readPerson_61 (fun H locs hw hS => ?_)
  exact z_retv C0 hw hS (Option.some.inj h) dX6_readPerson_64
def M_X6_readPerson (pk : Nat → Nat) (S : zSt) : Option (zSt) :=
  Option.bind (M_X6_readWord pk ((zP S 70 6 0)) 0) (fun w1 => Option.bind (M_X4_hasRoom pk w1 1) (fun w2 => (if w2 = 0 then Option.bind (M_X6_faultAt pk w1 ((zsc S 70 3))) (fun w7 => M_X6_readPerson_B31 pk w7) else M_X6_readPerson_B31 pk w1)))
set_option maxHeartbeats 4000000 in
set_option maxRecDepth 100000 in
theorem c_X6_readPerson (l : Launch) (D : va_G) (Y : Nat → ClassId) (F : Nat → Nat) (G : zG) (S : zSt) (sz : Nat) (res : zSt) (h : M_X6_readPerson (zpk G) S = some res) : Met l yX6_readPerson wsX6_readPerson (zRm 5 107) (zPc D Y F G S sz [.ref (F 70)]) (zQv D Y F (zAo F G sz) G res) 0 0 (zAo F G sz) := by
  unfold M_X6_readPerson at h
  refine zMet (cc := cX6_readPerson) (maxL := 2) (ret := none) (own := RX6) (by decide +kernel) rfl rfl (Nat.le_of_ble_eq_true rfl) ?_
  intro p e s m args below meth c C0 hin hw hS ls hl
  have hl : lv_has ls 2 [(0, .ref (F 70))] := hl
  generalize zAo F G sz = A at C0 hw hS ⊢
  obtain ⟨hx, hb, hml, hr, hown, hts, hK, hA, hlk, hN⟩ := id C0
  refine lv_aload_n hx hb dX6_readPerson_0 rfl (lv_at hl 0 rfl) ?_
  refine z_getU C0 in_X6_readPerson_X6 (C := RX6) (T := TX6) (N := 10) hw (k := 70) (ci := 6) (v := .int ((zsc S 70 3))) rfl rfl rfl rfl 3 (by decide) rfl 1 rfl (Or.inl rfl) dX6_readPerson_1 ?_
  refine lv_istore_n (lv' := [(1, .int ((zsc S 70 3))), (0, .ref (F 70))]) hx hb dX6_readPerson_4 rfl hl (by decide) rfl (fun ls hl => ?_)
  refine lv_aload_n hx hb dX6_readPerson_5 rfl (lv_at hl 1 rfl) ?_
  refine lv_iconst (v := 0) hx hb dX6_readPerson_6 (by decide) ?_
  refine z_putU C0 in_X6_readPerson_X6 tyX6 tyX6_ok nmX6 (C := RX6) (T := TX6) (N := 10) hw hS (k := 70) (ci := 6) (v := 0) rfl rfl rfl rfl 6 (by decide) 2 rfl rfl rfl rfl (Nat.le_of_ble_eq_true rfl) rfl dX6_readPerson_7 (fun H locs hw hS => ?_)
  refine lv_aload_n hx hb dX6_readPerson_10 rfl (lv_at hl 1 rfl) ?_
  refine va_ldcS (q := F (200 + 0)) hx hb hown (hN.2.2.2.2.1 _ (List.mem_of_getElem? (i := 0) rfl)) dX6_readPerson_11 ?_
  obtain ⟨w1, ew1, h⟩ := z_bd h
  refine z_gov C0 hw hS (res := w1) (rest := []) (arr := (Value.ref (F 70) :: [.ref (F (200 + 0))]).toArray) ?_ (fun H locs hw hS => ?_)
  · exact va_runV (z_fix C0) (c_X6_readWord l D Y F G ((zP S 70 6 0)) _ 0 (by decide) w1 ew1) (cwV 1 hts gX6_readPerson_X6_readWord rfl rfl rfl (by decide +kernel) ⟨Nat.le_of_ble_eq_true rfl, Nat.le_of_ble_eq_true rfl⟩) ⟨zPc_blind, z_rv C0 hw (k := 70) rfl rfl rfl rfl, z_give C0 hw hS _⟩ rfl rfl hl.1 rfl (lv_room (Nat.le_of_ble_eq_true rfl)) dX6_readPerson_13 ⟨Nat.zero_le _, Nat.zero_le _⟩
  refine lv_aload_n hx hb dX6_readPerson_16 rfl (lv_at hl 1 rfl) ?_
  refine z_getU C0 in_X6_readPerson_X6 (C := RX6) (T := TX6) (N := 10) hw (k := 70) (ci := 6) (v := .ref (F 63)) rfl rfl rfl rfl 0 (by decide) rfl 3 rfl (Or.inl rfl) dX6_readPerson_17 ?_
  obtain ⟨w2, ew2, h⟩ := z_bd h
  refine z_goi C0 hw hS (res := (w2, w1)) (rest := []) (arr := (Value.ref (F 63) :: []).toArray) ?_ (fun H locs hw hS => ?_)
  · exact va_runV (z_fix C0) (c_X4_hasRoom l D Y F G w1 _ 1 (by decide) w2 ew2) (cwV 0 hts gX6_readPerson_X4_hasRoom rfl rfl rfl (by decide +kernel) ⟨Nat.le_of_ble_eq_true rfl, Nat.le_of_ble_eq_true rfl⟩) ⟨zPc_blind, z_rv C0 hw (k := 63) rfl rfl rfl rfl, z_give C0 hw hS _⟩ rfl rfl hl.1 rfl (lv_room (Nat.le_of_ble_eq_true rfl)) dX6_readPerson_20 ⟨Nat.zero_le _, Nat.zero_le _⟩
  refine lv_if_ne (tgt := 31) hx hb dX6_readPerson_23 (by decide) (fun c3 => ?_) (fun c3 => ?_)
  · replace h := z_ifn c3 h
    exact t_X6_readPerson_B31 C0 res w1 h _ _ _ hw hS (lv_sub hl [1] rfl)
  · replace h := z_ifp c3 h
    refine lv_aload_n hx hb dX6_readPerson_26 rfl (lv_at hl 1 rfl) ?_
    refine lv_iload_n hx hb dX6_readPerson_27 rfl (lv_at hl 0 rfl) ?_
    obtain ⟨w7, ew7, h⟩ := z_bd h
    refine z_gov C0 hw hS (res := w7) (rest := []) (arr := (Value.ref (F 70) :: [.int ((zsc S 70 3))]).toArray) ?_ (fun H locs hw hS => ?_)
    · exact va_runV (z_fix C0) (c_X6_faultAt l D Y F G w1 _ ((zsc S 70 3)) w7 ew7) (cwV 1 hts gX6_readPerson_X6_faultAt rfl rfl rfl (by decide +kernel) ⟨Nat.le_of_ble_eq_true rfl, Nat.le_of_ble_eq_true rfl⟩) ⟨zPc_blind, z_rv C0 hw (k := 70) rfl rfl rfl rfl, z_give C0 hw hS _⟩ rfl rfl hl.1 rfl (lv_room (Nat.le_of_ble_eq_true rfl)) dX6_readPerson_28 ⟨Nat.zero_le _, Nat.zero_le _⟩
    exact t_X6_readPerson_B31 C0 res w7 h _ _ _ hw hS (lv_sub hl [1] rfl)
def M_X6_readRub (pk : Nat → Nat) (S : zSt) : Option (zSt) :=
  Option.bind (M_X6_readWord pk ((zP S 70 6 2)) 2) (fun w1 => Option.bind (M_X6_readNumber pk w1 0 (((zsc w1 63 3) - 1))) (fun w2 => Option.bind (M_X6_outOf pk ((zP w2.2 70 7 w2.1)) ((zsc ((zP w2.2 70 7 w2.1)) 70 7))) (fun w3 => Option.bind (M_X6_readNumber pk ((zP w2.2 70 7 w2.1)) w3 5) (fun w4 => Option.bind (M_X6_readNumber pk ((zP w4.2 70 8 w4.1)) 0 7) (fun w5 => some ((zP w5.2 70 9 w5.1)))))))
set_option maxHeartbeats 4000000 in
set_option maxRecDepth 100000 in
theorem c_X6_readRub (l : Launch) (D : va_G) (Y : Nat → ClassId) (F : Nat → Nat) (G : zG) (S : zSt) (sz : Nat) (res : zSt) (h : M_X6_readRub (zpk G) S = some res) : Met l yX6_readRub wsX6_readRub (zRm 5 107) (zPc D Y F G S sz [.ref (F 70)]) (zQv D Y F (zAo F G sz) G res) 0 0 (zAo F G sz) := by
  unfold M_X6_readRub at h
  refine zMet (cc := cX6_readRub) (maxL := 1) (ret := none) (own := RX6) (by decide +kernel) rfl rfl (Nat.le_of_ble_eq_true rfl) ?_
  intro p e s m args below meth c C0 hin hw hS ls hl
  have hl : lv_has ls 1 [(0, .ref (F 70))] := hl
  generalize zAo F G sz = A at C0 hw hS ⊢
  obtain ⟨hx, hb, hml, hr, hown, hts, hK, hA, hlk, hN⟩ := id C0
  refine lv_aload_n hx hb dX6_readRub_0 rfl (lv_at hl 0 rfl) ?_
  refine lv_iconst (v := 2) hx hb dX6_readRub_1 (by decide) ?_
  refine z_putU C0 in_X6_readRub_X6 tyX6 tyX6_ok nmX6 (C := RX6) (T := TX6) (N := 10) hw hS (k := 70) (ci := 6) (v := 2) rfl rfl rfl rfl 6 (by decide) 1 rfl rfl rfl rfl (Nat.le_of_ble_eq_true rfl) rfl dX6_readRub_2 (fun H locs hw hS => ?_)
  refine lv_aload_n hx hb dX6_readRub_5 rfl (lv_at hl 0 rfl) ?_
  refine va_ldcS (q := F (200 + 2)) hx hb hown (hN.2.2.2.2.1 _ (List.mem_of_getElem? (i := 2) rfl)) dX6_readRub_6 ?_
  obtain ⟨w1, ew1, h⟩ := z_bd h
  refine z_gov C0 hw hS (res := w1) (rest := []) (arr := (Value.ref (F 70) :: [.ref (F (200 + 2))]).toArray) ?_ (fun H locs hw hS => ?_)
  · exact va_runV (z_fix C0) (c_X6_readWord l D Y F G ((zP S 70 6 2)) _ 2 (by decide) w1 ew1) (cwV 1 hts gX6_readRub_X6_readWord rfl rfl rfl (by decide +kernel) ⟨Nat.le_of_ble_eq_true rfl, Nat.le_of_ble_eq_true rfl⟩) ⟨zPc_blind, z_rv C0 hw (k := 70) rfl rfl rfl rfl, z_give C0 hw hS _⟩ rfl rfl hl.1 rfl (lv_room (Nat.le_of_ble_eq_true rfl)) dX6_readRub_8 ⟨Nat.zero_le _, Nat.zero_le _⟩
  refine lv_aload_n hx hb dX6_readRub_11 rfl (lv_at hl 0 rfl) ?_
  refine lv_aload_n hx hb dX6_readRub_12 rfl (lv_at hl 0 rfl) ?_
  refine lv_iconst (v := 0) hx hb dX6_readRub_13 (by decide) ?_
  refine lv_aload_n hx hb dX6_readRub_14 rfl (lv_at hl 0 rfl) ?_
  refine z_getU C0 in_X6_readRub_X6 (C := RX6) (T := TX6) (N := 10) hw (k := 70) (ci := 6) (v := .ref (F 63)) rfl rfl rfl rfl 0 (by decide) rfl 2 rfl (Or.inl rfl) dX6_readRub_15 ?_
  refine z_getU C0 in_X6_readRub_X4 (C := RX4) (T := TX4) (N := 6) hw (k := 63) (ci := 4) (v := .int ((zsc w1 63 3))) rfl rfl rfl rfl 3 (by decide) rfl 3 rfl (Or.inl rfl) dX6_readRub_18 ?_
  refine lv_iconst (v := 1) hx hb dX6_readRub_21 (by decide) ?_
  refine lv_isub hx hb dX6_readRub_22 ?_
  obtain ⟨w2, ew2, h⟩ := z_bd h
  refine z_goi C0 hw hS (res := w2) (rest := [.ref (F 70)]) (arr := (Value.ref (F 70) :: [.int 0, .int (((zsc w1 63 3) - 1))]).toArray) ?_ (fun H locs hw hS => ?_)
  · exact va_runV (z_fix C0) (c_X6_readNumber l D Y F G w1 _ 0 (((zsc w1 63 3) - 1)) w2 ew2) (cwV 2 hts gX6_readRub_X6_readNumber rfl rfl rfl (by decide +kernel) ⟨Nat.le_of_ble_eq_true rfl, Nat.le_of_ble_eq_true rfl⟩) ⟨zPc_blind, z_rv C0 hw (k := 70) rfl rfl rfl rfl, z_give C0 hw hS _⟩ rfl rfl hl.1 rfl (lv_room (Nat.le_of_ble_eq_true rfl)) dX6_readRub_23 ⟨Nat.zero_le _, Nat.zero_le _⟩
  refine z_putU C0 in_X6_readRub_X6 tyX6 tyX6_ok nmX6 (C := RX6) (T := TX6) (N := 10) hw hS (k := 70) (ci := 6) (v := w2.1) rfl rfl rfl rfl 7 (by decide) 4 rfl rfl rfl rfl (Nat.le_of_ble_eq_true rfl) rfl dX6_readRub_26 (fun H locs hw hS => ?_)
  refine lv_aload_n hx hb dX6_readRub_29 rfl (lv_at hl 0 rfl) ?_
  refine lv_aload_n hx hb dX6_readRub_30 rfl (lv_at hl 0 rfl) ?_
  refine lv_aload_n hx hb dX6_readRub_31 rfl (lv_at hl 0 rfl) ?_
  refine lv_aload_n hx hb dX6_readRub_32 rfl (lv_at hl 0 rfl) ?_
  refine z_getU C0 in_X6_readRub_X6 (C := RX6) (T := TX6) (N := 10) hw (k := 70) (ci := 6) (v := .int ((zsc ((zP w2.2 70 7 w2.1)) 70 7))) rfl rfl rfl rfl 7 (by decide) rfl 4 rfl (Or.inl rfl) dX6_readRub_33 ?_
  obtain ⟨w3, ew3, h⟩ := z_bd h
  refine z_goi C0 hw hS (res := (w3, ((zP w2.2 70 7 w2.1)))) (rest := [.ref (F 70), .ref (F 70)]) (arr := (Value.ref (F 70) :: [.int ((zsc ((zP w2.2 70 7 w2.1)) 70 7))]).toArray) ?_ (fun H locs hw hS => ?_)
  · exact va_runV (z_fix C0) (c_X6_outOf l D Y F G ((zP w2.2 70 7 w2.1)) _ ((zsc ((zP w2.2 70 7 w2.1)) 70 7)) w3 ew3) (cwV 1 hts gX6_readRub_X6_outOf rfl rfl rfl (by decide +kernel) ⟨Nat.le_of_ble_eq_true rfl, Nat.le_of_ble_eq_true rfl⟩) ⟨zPc_blind, z_rv C0 hw (k := 70) rfl rfl rfl rfl, z_give C0 hw hS _⟩ rfl rfl hl.1 rfl (lv_room (Nat.le_of_ble_eq_true rfl)) dX6_readRub_36 ⟨Nat.zero_le _, Nat.zero_le _⟩
  refine lv_iconst (v := 5) hx hb dX6_readRub_39 (by decide) ?_
  obtain ⟨w4, ew4, h⟩ := z_bd h
  refine z_goi C0 hw hS (res := w4) (rest := [.ref (F 70)]) (arr := (Value.ref (F 70) :: [.int w3, .int 5]).toArray) ?_ (fun H locs hw hS => ?_)
  · exact va_runV (z_fix C0) (c_X6_readNumber l D Y F G ((zP w2.2 70 7 w2.1)) _ w3 5 w4 ew4) (cwV 2 hts gX6_readRub_X6_readNumber rfl rfl rfl (by decide +kernel) ⟨Nat.le_of_ble_eq_true rfl, Nat.le_of_ble_eq_true rfl⟩) ⟨zPc_blind, z_rv C0 hw (k := 70) rfl rfl rfl rfl, z_give C0 hw hS _⟩ rfl rfl hl.1 rfl (lv_room (Nat.le_of_ble_eq_true rfl)) dX6_readRub_40 ⟨Nat.zero_le _, Nat.zero_le _⟩
  refine z_putU C0 in_X6_readRub_X6 tyX6 tyX6_ok nmX6 (C := RX6) (T := TX6) (N := 10) hw hS (k := 70) (ci := 6) (v := w4.1) rfl rfl rfl rfl 8 (by decide) 5 rfl rfl rfl rfl (Nat.le_of_ble_eq_true rfl) rfl dX6_readRub_43 (fun H locs hw hS => ?_)
  refine lv_aload_n hx hb dX6_readRub_46 rfl (lv_at hl 0 rfl) ?_
  refine lv_aload_n hx hb dX6_readRub_47 rfl (lv_at hl 0 rfl) ?_
  refine lv_iconst (v := 0) hx hb dX6_readRub_48 (by decide) ?_
  refine lv_bipush (v := 7) hx hb dX6_readRub_49 (by decide) ?_
  obtain ⟨w5, ew5, h⟩ := z_bd h
  refine z_goi C0 hw hS (res := w5) (rest := [.ref (F 70)]) (arr := (Value.ref (F 70) :: [.int 0, .int 7]).toArray) ?_ (fun H locs hw hS => ?_)
  · exact va_runV (z_fix C0) (c_X6_readNumber l D Y F G ((zP w4.2 70 8 w4.1)) _ 0 7 w5 ew5) (cwV 2 hts gX6_readRub_X6_readNumber rfl rfl rfl (by decide +kernel) ⟨Nat.le_of_ble_eq_true rfl, Nat.le_of_ble_eq_true rfl⟩) ⟨zPc_blind, z_rv C0 hw (k := 70) rfl rfl rfl rfl, z_give C0 hw hS _⟩ rfl rfl hl.1 rfl (lv_room (Nat.le_of_ble_eq_true rfl)) dX6_readRub_51 ⟨Nat.zero_le _, Nat.zero_le _⟩
  refine z_putU C0 in_X6_readRub_X6 tyX6 tyX6_ok nmX6 (C := RX6) (T := TX6) (N := 10) hw hS (k := 70) (ci := 6) (v := w5.1) rfl rfl rfl rfl 9 (by decide) 6 rfl rfl rfl rfl (Nat.le_of_ble_eq_true rfl) rfl dX6_readRub_54 (fun H locs hw hS => ?_)
  exact z_retv C0 hw hS (Option.some.inj h) dX6_readRub_57
def M_X6_readDying (pk : Nat → Nat) (S : zSt) : Option (zSt) :=
  Option.bind (M_X6_readWord pk ((zP S 70 6 3)) 3) (fun w1 => Option.bind (M_X6_readNumber pk w1 0 (((zsc w1 63 3) - 1))) (fun w2 => Option.bind (M_X6_outOf pk ((zP w2.2 70 7 w2.1)) ((zsc ((zP w2.2 70 7 w2.1)) 70 7))) (fun w3 => (if w3 < 6 then some ((zP w2.2 70 7 w2.1)) else Option.bind (M_X6_faultAt pk ((zP w2.2 70 7 w2.1)) ((zsc ((zP w2.2 70 7 w2.1)) 70 5))) (fun w5 => some w5)))))
set_option maxHeartbeats 4000000 in
set_option maxRecDepth 100000 in
theorem c_X6_readDying (l : Launch) (D : va_G) (Y : Nat → ClassId) (F : Nat → Nat) (G : zG) (S : zSt) (sz : Nat) (res : zSt) (h : M_X6_readDying (zpk G) S = some res) : Met l yX6_readDying wsX6_readDying (zRm 5 107) (zPc D Y F G S sz [.ref (F 70)]) (zQv D Y F (zAo F G sz) G res) 0 0 (zAo F G sz) := by
  unfold M_X6_readDying at h
  refine zMet (cc := cX6_readDying) (maxL := 1) (ret := none) (own := RX6) (by decide +kernel) rfl rfl (Nat.le_of_ble_eq_true rfl) ?_
  intro p e s m args below meth c C0 hin hw hS ls hl
  have hl : lv_has ls 1 [(0, .ref (F 70))] := hl
  generalize zAo F G sz = A at C0 hw hS ⊢
  obtain ⟨hx, hb, hml, hr, hown, hts, hK, hA, hlk, hN⟩ := id C0
  refine lv_aload_n hx hb dX6_readDying_0 rfl (lv_at hl 0 rfl) ?_
  refine lv_iconst (v := 3) hx hb dX6_readDying_1 (by decide) ?_
  refine z_putU C0 in_X6_readDying_X6 tyX6 tyX6_ok nmX6 (C := RX6) (T := TX6) (N := 10) hw hS (k := 70) (ci := 6) (v := 3) rfl rfl rfl rfl 6 (by decide) 1 rfl rfl rfl rfl (Nat.le_of_ble_eq_true rfl) rfl dX6_readDying_2 (fun H locs hw hS => ?_)
  refine lv_aload_n hx hb dX6_readDying_5 rfl (lv_at hl 0 rfl) ?_
  refine va_ldcS (q := F (200 + 3)) hx hb hown (hN.2.2.2.2.1 _ (List.mem_of_getElem? (i := 3) rfl)) dX6_readDying_6 ?_
  obtain ⟨w1, ew1, h⟩ := z_bd h
  refine z_gov C0 hw hS (res := w1) (rest := []) (arr := (Value.ref (F 70) :: [.ref (F (200 + 3))]).toArray) ?_ (fun H locs hw hS => ?_)
  · exact va_runV (z_fix C0) (c_X6_readWord l D Y F G ((zP S 70 6 3)) _ 3 (by decide) w1 ew1) (cwV 1 hts gX6_readDying_X6_readWord rfl rfl rfl (by decide +kernel) ⟨Nat.le_of_ble_eq_true rfl, Nat.le_of_ble_eq_true rfl⟩) ⟨zPc_blind, z_rv C0 hw (k := 70) rfl rfl rfl rfl, z_give C0 hw hS _⟩ rfl rfl hl.1 rfl (lv_room (Nat.le_of_ble_eq_true rfl)) dX6_readDying_8 ⟨Nat.zero_le _, Nat.zero_le _⟩
  refine lv_aload_n hx hb dX6_readDying_11 rfl (lv_at hl 0 rfl) ?_
  refine lv_aload_n hx hb dX6_readDying_12 rfl (lv_at hl 0 rfl) ?_
  refine lv_iconst (v := 0) hx hb dX6_readDying_13 (by decide) ?_
  refine lv_aload_n hx hb dX6_readDying_14 rfl (lv_at hl 0 rfl) ?_
  refine z_getU C0 in_X6_readDying_X6 (C := RX6) (T := TX6) (N := 10) hw (k := 70) (ci := 6) (v := .ref (F 63)) rfl rfl rfl rfl 0 (by decide) rfl 2 rfl (Or.inl rfl) dX6_readDying_15 ?_
  refine z_getU C0 in_X6_readDying_X4 (C := RX4) (T := TX4) (N := 6) hw (k := 63) (ci := 4) (v := .int ((zsc w1 63 3))) rfl rfl rfl rfl 3 (by decide) rfl 3 rfl (Or.inl rfl) dX6_readDying_18 ?_
  refine lv_iconst (v := 1) hx hb dX6_readDying_21 (by decide) ?_
  refine lv_isub hx hb dX6_readDying_22 ?_
  obtain ⟨w2, ew2, h⟩ := z_bd h
  refine z_goi C0 hw hS (res := w2) (rest := [.ref (F 70)]) (arr := (Value.ref (F 70) :: [.int 0, .int (((zsc w1 63 3) - 1))]).toArray) ?_ (fun H locs hw hS => ?_)
  · exact va_runV (z_fix C0) (c_X6_readNumber l D Y F G w1 _ 0 (((zsc w1 63 3) - 1)) w2 ew2) (cwV 2 hts gX6_readDying_X6_readNumber rfl rfl rfl (by decide +kernel) ⟨Nat.le_of_ble_eq_true rfl, Nat.le_of_ble_eq_true rfl⟩) ⟨zPc_blind, z_rv C0 hw (k := 70) rfl rfl rfl rfl, z_give C0 hw hS _⟩ rfl rfl hl.1 rfl (lv_room (Nat.le_of_ble_eq_true rfl)) dX6_readDying_23 ⟨Nat.zero_le _, Nat.zero_le _⟩
  refine z_putU C0 in_X6_readDying_X6 tyX6 tyX6_ok nmX6 (C := RX6) (T := TX6) (N := 10) hw hS (k := 70) (ci := 6) (v := w2.1) rfl rfl rfl rfl 7 (by decide) 4 rfl rfl rfl rfl (Nat.le_of_ble_eq_true rfl) rfl dX6_readDying_26 (fun H locs hw hS => ?_)
  refine lv_aload_n hx hb dX6_readDying_29 rfl (lv_at hl 0 rfl) ?_
  refine lv_aload_n hx hb dX6_readDying_30 rfl (lv_at hl 0 rfl) ?_
  refine z_getU C0 in_X6_readDying_X6 (C := RX6) (T := TX6) (N := 10) hw (k := 70) (ci := 6) (v := .int ((zsc ((zP w2.2 70 7 w2.1)) 70 7))) rfl rfl rfl rfl 7 (by decide) rfl 4 rfl (Or.inl rfl) dX6_readDying_31 ?_
  obtain ⟨w3, ew3, h⟩ := z_bd h
  refine z_goi C0 hw hS (res := (w3, ((zP w2.2 70 7 w2.1)))) (rest := []) (arr := (Value.ref (F 70) :: [.int ((zsc ((zP w2.2 70 7 w2.1)) 70 7))]).toArray) ?_ (fun H locs hw hS => ?_)
  · exact va_runV (z_fix C0) (c_X6_outOf l D Y F G ((zP w2.2 70 7 w2.1)) _ ((zsc ((zP w2.2 70 7 w2.1)) 70 7)) w3 ew3) (cwV 1 hts gX6_readDying_X6_outOf rfl rfl rfl (by decide +kernel) ⟨Nat.le_of_ble_eq_true rfl, Nat.le_of_ble_eq_true rfl⟩) ⟨zPc_blind, z_rv C0 hw (k := 70) rfl rfl rfl rfl, z_give C0 hw hS _⟩ rfl rfl hl.1 rfl (lv_room (Nat.le_of_ble_eq_true rfl)) dX6_readDying_34 ⟨Nat.zero_le _, Nat.zero_le _⟩
  refine lv_bipush (v := 6) hx hb dX6_readDying_37 (by decide) ?_
  refine lv_icmp_lt (tgt := 50) hx hb dX6_readDying_39 (by decide) (fun c4 => ?_) (fun c4 => ?_)
  · replace h := z_ifp c4 h
    exact z_retv C0 hw hS (Option.some.inj h) dX6_readDying_50
  · replace h := z_ifn c4 h
    refine lv_aload_n hx hb dX6_readDying_42 rfl (lv_at hl 0 rfl) ?_
    refine lv_aload_n hx hb dX6_readDying_43 rfl (lv_at hl 0 rfl) ?_
    refine z_getU C0 in_X6_readDying_X6 (C := RX6) (T := TX6) (N := 10) hw (k := 70) (ci := 6) (v := .int ((zsc ((zP w2.2 70 7 w2.1)) 70 5))) rfl rfl rfl rfl 5 (by decide) rfl 5 rfl (Or.inl rfl) dX6_readDying_44 ?_
    obtain ⟨w5, ew5, h⟩ := z_bd h
    refine z_gov C0 hw hS (res := w5) (rest := []) (arr := (Value.ref (F 70) :: [.int ((zsc ((zP w2.2 70 7 w2.1)) 70 5))]).toArray) ?_ (fun H locs hw hS => ?_)
    · exact va_runV (z_fix C0) (c_X6_faultAt l D Y F G ((zP w2.2 70 7 w2.1)) _ ((zsc ((zP w2.2 70 7 w2.1)) 70 5)) w5 ew5) (cwV 1 hts gX6_readDying_X6_faultAt rfl rfl rfl (by decide +kernel) ⟨Nat.le_of_ble_eq_true rfl, Nat.le_of_ble_eq_true rfl⟩) ⟨zPc_blind, z_rv C0 hw (k := 70) rfl rfl rfl rfl, z_give C0 hw hS _⟩ rfl rfl hl.1 rfl (lv_room (Nat.le_of_ble_eq_true rfl)) dX6_readDying_47 ⟨Nat.zero_le _, Nat.zero_le _⟩
    exact z_retv C0 hw hS (Option.some.inj h) dX6_readDying_50
def M_X6_readLeast (pk : Nat → Nat) (S : zSt) : Option (zSt) :=
  Option.bind (M_X6_readWord pk ((zP S 70 6 4)) 4) (fun w1 => Option.bind (M_X6_readNumber pk w1 1 99) (fun w2 => some ((zP w2.2 70 7 w2.1))))
set_option maxHeartbeats 4000000 in
set_option maxRecDepth 100000 in
theorem c_X6_readLeast (l : Launch) (D : va_G) (Y : Nat → ClassId) (F : Nat → Nat) (G : zG) (S : zSt) (sz : Nat) (res : zSt) (h : M_X6_readLeast (zpk G) S = some res) : Met l yX6_readLeast wsX6_readLeast (zRm 5 107) (zPc D Y F G S sz [.ref (F 70)]) (zQv D Y F (zAo F G sz) G res) 0 0 (zAo F G sz) := by
  unfold M_X6_readLeast at h
  refine zMet (cc := cX6_readLeast) (maxL := 1) (ret := none) (own := RX6) (by decide +kernel) rfl rfl (Nat.le_of_ble_eq_true rfl) ?_
  intro p e s m args below meth c C0 hin hw hS ls hl
  have hl : lv_has ls 1 [(0, .ref (F 70))] := hl
  generalize zAo F G sz = A at C0 hw hS ⊢
  obtain ⟨hx, hb, hml, hr, hown, hts, hK, hA, hlk, hN⟩ := id C0
  refine lv_aload_n hx hb dX6_readLeast_0 rfl (lv_at hl 0 rfl) ?_
  refine lv_iconst (v := 4) hx hb dX6_readLeast_1 (by decide) ?_
  refine z_putU C0 in_X6_readLeast_X6 tyX6 tyX6_ok nmX6 (C := RX6) (T := TX6) (N := 10) hw hS (k := 70) (ci := 6) (v := 4) rfl rfl rfl rfl 6 (by decide) 1 rfl rfl rfl rfl (Nat.le_of_ble_eq_true rfl) rfl dX6_readLeast_2 (fun H locs hw hS => ?_)
  refine lv_aload_n hx hb dX6_readLeast_5 rfl (lv_at hl 0 rfl) ?_
  refine va_ldcS (q := F (200 + 4)) hx hb hown (hN.2.2.2.2.1 _ (List.mem_of_getElem? (i := 4) rfl)) dX6_readLeast_6 ?_
  obtain ⟨w1, ew1, h⟩ := z_bd h
  refine z_gov C0 hw hS (res := w1) (rest := []) (arr := (Value.ref (F 70) :: [.ref (F (200 + 4))]).toArray) ?_ (fun H locs hw hS => ?_)
  · exact va_runV (z_fix C0) (c_X6_readWord l D Y F G ((zP S 70 6 4)) _ 4 (by decide) w1 ew1) (cwV 1 hts gX6_readLeast_X6_readWord rfl rfl rfl (by decide +kernel) ⟨Nat.le_of_ble_eq_true rfl, Nat.le_of_ble_eq_true rfl⟩) ⟨zPc_blind, z_rv C0 hw (k := 70) rfl rfl rfl rfl, z_give C0 hw hS _⟩ rfl rfl hl.1 rfl (lv_room (Nat.le_of_ble_eq_true rfl)) dX6_readLeast_8 ⟨Nat.zero_le _, Nat.zero_le _⟩
  refine lv_aload_n hx hb dX6_readLeast_11 rfl (lv_at hl 0 rfl) ?_
  refine lv_aload_n hx hb dX6_readLeast_12 rfl (lv_at hl 0 rfl) ?_
  refine lv_iconst (v := 1) hx hb dX6_readLeast_13 (by decide) ?_
  refine lv_bipush (v := 99) hx hb dX6_readLeast_14 (by decide) ?_
  obtain ⟨w2, ew2, h⟩ := z_bd h
  refine z_goi C0 hw hS (res := w2) (rest := [.ref (F 70)]) (arr := (Value.ref (F 70) :: [.int 1, .int 99]).toArray) ?_ (fun H locs hw hS => ?_)
  · exact va_runV (z_fix C0) (c_X6_readNumber l D Y F G w1 _ 1 99 w2 ew2) (cwV 2 hts gX6_readLeast_X6_readNumber rfl rfl rfl (by decide +kernel) ⟨Nat.le_of_ble_eq_true rfl, Nat.le_of_ble_eq_true rfl⟩) ⟨zPc_blind, z_rv C0 hw (k := 70) rfl rfl rfl rfl, z_give C0 hw hS _⟩ rfl rfl hl.1 rfl (lv_room (Nat.le_of_ble_eq_true rfl)) dX6_readLeast_16 ⟨Nat.zero_le _, Nat.zero_le _⟩
  refine z_putU C0 in_X6_readLeast_X6 tyX6 tyX6_ok nmX6 (C := RX6) (T := TX6) (N := 10) hw hS (k := 70) (ci := 6) (v := w2.1) rfl rfl rfl rfl 7 (by decide) 2 rfl rfl rfl rfl (Nat.le_of_ble_eq_true rfl) rfl dX6_readLeast_19 (fun H locs hw hS => ?_)
  exact z_retv C0 hw hS (Option.some.inj h) dX6_readLeast_22
def M_X6_readItem (pk : Nat → Nat) (S : zSt) : Option (zSt) :=
  Option.bind (M_X6_letterAt pk S ((zsc S 70 3))) (fun w1 => (if w1 = 100 then Option.bind (M_X6_readDying pk S) (fun w3 => some w3) else (if w1 = 108 then Option.bind (M_X6_readLeast pk S) (fun w5 => some w5) else (if w1 = 112 then Option.bind (M_X6_letterAt pk S (((zsc S 70 3) + 1))) (fun w7 => (if w7 = 114 then Option.bind (M_X6_readPress pk S) (fun w10 => some w10) else Option.bind (M_X6_readPerson pk S) (fun w9 => some w9))) else (if w1 = 114 then Option.bind (M_X6_readRub pk S) (fun w12 => some w12) else Option.bind (M_X6_faultAt pk S ((zsc S 70 3))) (fun w13 => some w13))))))
set_option maxHeartbeats 4000000 in
set_option maxRecDepth 100000 in
theorem c_X6_readItem (l : Launch) (D : va_G) (Y : Nat → ClassId) (F : Nat → Nat) (G : zG) (S : zSt) (sz : Nat) (res : zSt) (h : M_X6_readItem (zpk G) S = some res) : Met l yX6_readItem wsX6_readItem (zRm 6 128) (zPc D Y F G S sz [.ref (F 70)]) (zQv D Y F (zAo F G sz) G res) 0 0 (zAo F G sz) := by
  unfold M_X6_readItem at h
  refine zMet (cc := cX6_readItem) (maxL := 2) (ret := none) (own := RX6) (by decide +kernel) rfl rfl (Nat.le_of_ble_eq_true rfl) ?_
  intro p e s m args below meth c C0 hin hw hS ls hl
  have hl : lv_has ls 2 [(0, .ref (F 70))] := hl
  generalize zAo F G sz = A at C0 hw hS ⊢
  obtain ⟨hx, hb, hml, hr, hown, hts, hK, hA, hlk, hN⟩ := id C0
  refine lv_aload_n hx hb dX6_readItem_0 rfl (lv_at hl 0 rfl) ?_
  refine lv_aload_n hx hb dX6_readItem_1 rfl (lv_at hl 0 rfl) ?_
  refine z_getU C0 in_X6_readItem_X6 (C := RX6) (T := TX6) (N := 10) hw (k := 70) (ci := 6) (v := .int ((zsc S 70 3))) rfl rfl rfl rfl 3 (by decide) rfl 1 rfl (Or.inl rfl) dX6_readItem_2 ?_
  obtain ⟨w1, ew1, h⟩ := z_bd h
  refine z_goi C0 hw hS (res := (w1, S)) (rest := []) (arr := (Value.ref (F 70) :: [.int ((zsc S 70 3))]).toArray) ?_ (fun H locs hw hS => ?_)
  · exact va_runV (z_fix C0) (c_X6_letterAt l D Y F G S _ ((zsc S 70 3)) w1 ew1) (cwV 1 hts gX6_readItem_X6_letterAt rfl rfl rfl (by decide +kernel) ⟨Nat.le_of_ble_eq_true rfl, Nat.le_of_ble_eq_true rfl⟩) ⟨zPc_blind, z_rv C0 hw (k := 70) rfl rfl rfl rfl, z_give C0 hw hS _⟩ rfl rfl hl.1 rfl (lv_room (Nat.le_of_ble_eq_true rfl)) dX6_readItem_5 ⟨Nat.zero_le _, Nat.zero_le _⟩
  refine lv_istore_n (lv' := [(1, .int w1), (0, .ref (F 70))]) hx hb dX6_readItem_8 rfl hl (by decide) rfl (fun ls hl => ?_)
  refine lv_iload_n hx hb dX6_readItem_9 rfl (lv_at hl 0 rfl) ?_
  by_cases c2 : w1 = 100
  · replace h := z_ifp c2 h
    refine z_top c2 ?_
    refine lv_lookup (off := 78) (tgt := 88) hx hb dX6_readItem_10 (by decide) (by decide) (by decide) ?_
    refine lv_aload_n hx hb dX6_readItem_88 rfl (lv_at hl 1 rfl) ?_
    obtain ⟨w3, ew3, h⟩ := z_bd h
    refine z_gov C0 hw hS (res := w3) (rest := []) (arr := (Value.ref (F 70) :: []).toArray) ?_ (fun H locs hw hS => ?_)
    · exact va_runV (z_fix C0) (c_X6_readDying l D Y F G S _ w3 ew3) (cwV 0 hts gX6_readItem_X6_readDying rfl rfl rfl (by decide +kernel) ⟨Nat.le_of_ble_eq_true rfl, Nat.le_of_ble_eq_true rfl⟩) ⟨zPc_blind, z_rv C0 hw (k := 70) rfl rfl rfl rfl, z_give C0 hw hS _⟩ rfl rfl hl.1 rfl (lv_room (Nat.le_of_ble_eq_true rfl)) dX6_readItem_89 ⟨Nat.zero_le _, Nat.zero_le _⟩
    refine lv_goto (tgt := 110) hx hb dX6_readItem_92 (by decide) ?_
    exact z_retv C0 hw hS (Option.some.inj h) dX6_readItem_110
  · replace h := z_ifn c2 h
    by_cases c4 : w1 = 108
    · replace h := z_ifp c4 h
      refine z_top c4 ?_
      refine lv_lookup (off := 85) (tgt := 95) hx hb dX6_readItem_10 (by decide) (by decide) (by decide) ?_
      refine lv_aload_n hx hb dX6_readItem_95 rfl (lv_at hl 1 rfl) ?_
      obtain ⟨w5, ew5, h⟩ := z_bd h
      refine z_gov C0 hw hS (res := w5) (rest := []) (arr := (Value.ref (F 70) :: []).toArray) ?_ (fun H locs hw hS => ?_)
      · exact va_runV (z_fix C0) (c_X6_readLeast l D Y F G S _ w5 ew5) (cwV 0 hts gX6_readItem_X6_readLeast rfl rfl rfl (by decide +kernel) ⟨Nat.le_of_ble_eq_true rfl, Nat.le_of_ble_eq_true rfl⟩) ⟨zPc_blind, z_rv C0 hw (k := 70) rfl rfl rfl rfl, z_give C0 hw hS _⟩ rfl rfl hl.1 rfl (lv_room (Nat.le_of_ble_eq_true rfl)) dX6_readItem_96 ⟨Nat.zero_le _, Nat.zero_le _⟩
      refine lv_goto (tgt := 110) hx hb dX6_readItem_99 (by decide) ?_
      exact z_retv C0 hw hS (Option.some.inj h) dX6_readItem_110
    · replace h := z_ifn c4 h
      by_cases c6 : w1 = 112
      · replace h := z_ifp c6 h
        refine z_top c6 ?_
        refine lv_lookup (off := 42) (tgt := 52) hx hb dX6_readItem_10 (by decide) (by decide) (by decide) ?_
        refine lv_aload_n hx hb dX6_readItem_52 rfl (lv_at hl 1 rfl) ?_
        refine lv_aload_n hx hb dX6_readItem_53 rfl (lv_at hl 1 rfl) ?_
        refine z_getU C0 in_X6_readItem_X6 (C := RX6) (T := TX6) (N := 10) hw (k := 70) (ci := 6) (v := .int ((zsc S 70 3))) rfl rfl rfl rfl 3 (by decide) rfl 1 rfl (Or.inl rfl) dX6_readItem_54 ?_
        refine lv_iconst (v := 1) hx hb dX6_readItem_57 (by decide) ?_
        refine lv_iadd hx hb dX6_readItem_58 ?_
        obtain ⟨w7, ew7, h⟩ := z_bd h
        refine z_goi C0 hw hS (res := (w7, S)) (rest := []) (arr := (Value.ref (F 70) :: [.int (((zsc S 70 3) + 1))]).toArray) ?_ (fun H locs hw hS => ?_)
        · exact va_runV (z_fix C0) (c_X6_letterAt l D Y F G S _ (((zsc S 70 3) + 1)) w7 ew7) (cwV 1 hts gX6_readItem_X6_letterAt rfl rfl rfl (by decide +kernel) ⟨Nat.le_of_ble_eq_true rfl, Nat.le_of_ble_eq_true rfl⟩) ⟨zPc_blind, z_rv C0 hw (k := 70) rfl rfl rfl rfl, z_give C0 hw hS _⟩ rfl rfl hl.1 rfl (lv_room (Nat.le_of_ble_eq_true rfl)) dX6_readItem_59 ⟨Nat.zero_le _, Nat.zero_le _⟩
        refine lv_bipush (v := 114) hx hb dX6_readItem_62 (by decide) ?_
        refine lv_icmp_ne (tgt := 74) hx hb dX6_readItem_64 (by decide) (fun c8 => ?_) (fun c8 => ?_)
        · replace h := z_ifn c8 h
          refine lv_aload_n hx hb dX6_readItem_74 rfl (lv_at hl 1 rfl) ?_
          obtain ⟨w9, ew9, h⟩ := z_bd h
          refine z_gov C0 hw hS (res := w9) (rest := []) (arr := (Value.ref (F 70) :: []).toArray) ?_ (fun H locs hw hS => ?_)
          · exact va_runV (z_fix C0) (c_X6_readPerson l D Y F G S _ w9 ew9) (cwV 0 hts gX6_readItem_X6_readPerson rfl rfl rfl (by decide +kernel) ⟨Nat.le_of_ble_eq_true rfl, Nat.le_of_ble_eq_true rfl⟩) ⟨zPc_blind, z_rv C0 hw (k := 70) rfl rfl rfl rfl, z_give C0 hw hS _⟩ rfl rfl hl.1 rfl (lv_room (Nat.le_of_ble_eq_true rfl)) dX6_readItem_75 ⟨Nat.zero_le _, Nat.zero_le _⟩
          refine lv_goto (tgt := 110) hx hb dX6_readItem_78 (by decide) ?_
          exact z_retv C0 hw hS (Option.some.inj h) dX6_readItem_110
        · replace h := z_ifp c8 h
          refine lv_aload_n hx hb dX6_readItem_67 rfl (lv_at hl 1 rfl) ?_
          obtain ⟨w10, ew10, h⟩ := z_bd h
          refine z_gov C0 hw hS (res := w10) (rest := []) (arr := (Value.ref (F 70) :: []).toArray) ?_ (fun H locs hw hS => ?_)
          · exact va_runV (z_fix C0) (c_X6_readPress l D Y F G S _ w10 ew10) (cwV 0 hts gX6_readItem_X6_readPress rfl rfl rfl (by decide +kernel) ⟨Nat.le_of_ble_eq_true rfl, Nat.le_of_ble_eq_true rfl⟩) ⟨zPc_blind, z_rv C0 hw (k := 70) rfl rfl rfl rfl, z_give C0 hw hS _⟩ rfl rfl hl.1 rfl (lv_room (Nat.le_of_ble_eq_true rfl)) dX6_readItem_68 ⟨Nat.zero_le _, Nat.zero_le _⟩
          refine lv_goto (tgt := 110) hx hb dX6_readItem_71 (by decide) ?_
          exact z_retv C0 hw hS (Option.some.inj h) dX6_readItem_110
      · replace h := z_ifn c6 h
        by_cases c11 : w1 = 114
        · replace h := z_ifp c11 h
          refine z_top c11 ?_
          refine lv_lookup (off := 71) (tgt := 81) hx hb dX6_readItem_10 (by decide) (by decide) (by decide) ?_
          refine lv_aload_n hx hb dX6_readItem_81 rfl (lv_at hl 1 rfl) ?_
          obtain ⟨w12, ew12, h⟩ := z_bd h
          refine z_gov C0 hw hS (res := w12) (rest := []) (arr := (Value.ref (F 70) :: []).toArray) ?_ (fun H locs hw hS => ?_)
          · exact va_runV (z_fix C0) (c_X6_readRub l D Y F G S _ w12 ew12) (cwV 0 hts gX6_readItem_X6_readRub rfl rfl rfl (by decide +kernel) ⟨Nat.le_of_ble_eq_true rfl, Nat.le_of_ble_eq_true rfl⟩) ⟨zPc_blind, z_rv C0 hw (k := 70) rfl rfl rfl rfl, z_give C0 hw hS _⟩ rfl rfl hl.1 rfl (lv_room (Nat.le_of_ble_eq_true rfl)) dX6_readItem_82 ⟨Nat.zero_le _, Nat.zero_le _⟩
          refine lv_goto (tgt := 110) hx hb dX6_readItem_85 (by decide) ?_
          exact z_retv C0 hw hS (Option.some.inj h) dX6_readItem_110
        · replace h := z_ifn c11 h
          have nc2 : Int32.toInt w1 ≠ 100 := fun q => c2 (Int32.toInt_inj.mp (q.trans (by decide)))
          have nc4 : Int32.toInt w1 ≠ 108 := fun q => c4 (Int32.toInt_inj.mp (q.trans (by decide)))
          have nc6 : Int32.toInt w1 ≠ 112 := fun q => c6 (Int32.toInt_inj.mp (q.trans (by decide)))
          have nc11 : Int32.toInt w1 ≠ 114 := fun q => c11 (Int32.toInt_inj.mp (q.trans (by decide)))
          refine lv_lookup (off := 92) (tgt := 102) hx hb dX6_readItem_10 (by decide) (by simp [Op.lookupswitch.offset, nc2, Ne.symm nc2, nc4, Ne.symm nc4, nc6, Ne.symm nc6, nc11, Ne.symm nc11]) (by decide) ?_
          refine lv_aload_n hx hb dX6_readItem_102 rfl (lv_at hl 1 rfl) ?_
          refine lv_aload_n hx hb dX6_readItem_103 rfl (lv_at hl 1 rfl) ?_
          refine z_getU C0 in_X6_readItem_X6 (C := RX6) (T := TX6) (N := 10) hw (k := 70) (ci := 6) (v := .int ((zsc S 70 3))) rfl rfl rfl rfl 3 (by decide) rfl 1 rfl (Or.inl rfl) dX6_readItem_104 ?_
          obtain ⟨w13, ew13, h⟩ := z_bd h
          refine z_gov C0 hw hS (res := w13) (rest := []) (arr := (Value.ref (F 70) :: [.int ((zsc S 70 3))]).toArray) ?_ (fun H locs hw hS => ?_)
          · exact va_runV (z_fix C0) (c_X6_faultAt l D Y F G S _ ((zsc S 70 3)) w13 ew13) (cwV 1 hts gX6_readItem_X6_faultAt rfl rfl rfl (by decide +kernel) ⟨Nat.le_of_ble_eq_true rfl, Nat.le_of_ble_eq_true rfl⟩) ⟨zPc_blind, z_rv C0 hw (k := 70) rfl rfl rfl rfl, z_give C0 hw hS _⟩ rfl rfl hl.1 rfl (lv_room (Nat.le_of_ble_eq_true rfl)) dX6_readItem_107 ⟨Nat.zero_le _, Nat.zero_le _⟩
          exact z_retv C0 hw hS (Option.some.inj h) dX6_readItem_110
