set_option maxRecDepth 20000 in
theorem in_X12_item_X12 : ∀ w ∈ u_ws RX12 TX12 27, w ∈ wsX12_item := by decide +kernel
set_option maxRecDepth 20000 in
theorem in_X12_land_X12 : ∀ w ∈ u_ws RX12 TX12 27, w ∈ wsX12_land := by decide +kernel
set_option maxRecDepth 20000 in
theorem in_X12_pressed_X12 : ∀ w ∈ u_ws RX12 TX12 27, w ∈ wsX12_pressed := by decide +kernel
set_option maxRecDepth 20000 in
theorem in_X12_word__X12 : ∀ w ∈ u_ws RX12 TX12 27, w ∈ wsX12_word_ := by decide +kernel
def M_X12_word_B2 (t1 : Nat) : Nat → zSt → Int32 → Option (Int32 × zSt)
  | 0, _, _ => none
  | n + 1, S, x2 =>
  Option.bind (M_J0_length_8abf5 S t1) (fun w1 => (if w1 ≤ x2 then some (1, S) else Option.bind (M_J0_charAt_5068e S t1 x2) (fun w3 => Option.bind (M_X12_is w3.2 w3.1) (fun w4 => (if w4.1 = 0 then some (0, w4.2) else M_X12_word_B2 t1 n w4.2 ((x2 + 1)))))))
set_option maxHeartbeats 4000000 in
set_option maxRecDepth 100000 in
theorem t_X12_word_B2 {p : Program} {l : Launch} {e : Env} {s : State} {m : MethodId} {args : Array Value} {below : List Frame} {meth : Method} {c : Code} {D : va_G} {Y : Nat → ClassId} {F : Nat → Nat} {A : Nat → Prop} {G : zG} (C0 : zCx p s m args meth c D Y F A RX12 cX12_word 3 (some .boolean) wsX12_word) (t1 : Nat) (ht1 : t1 < 6) (res : Int32 × zSt) : ∀ (n : Nat), ∀ (S : zSt) (x2 : Int32), M_X12_word_B2 t1 n S x2 = some res → ∀ (H : Heap) (locs : List Loc) (ls : Array Slot), zH D Y F A G S H → va_S A s.heap H locs → lv_has ls 3 [(0, .ref (F 0)), (1, .ref (F (200 + t1))), (2, .int x2)] → W p l e (zRm 4 85) s m args below meth c H locs 0 0 (MQ below (zQi D Y F A G res) args s 0 0 A) (F0 m 2 ls []) := by
  obtain ⟨hx, hb, hml, hr, hown, hts, hK, hA, hlk, hN⟩ := id C0
  intro n
  induction n with
  | zero =>
    intro S x2 h
    unfold M_X12_word_B2 at h
    cases h
  | succ n ih =>
    intro S x2 h H locs ls hw hS hl
    rw [M_X12_word_B2] at h
    refine lv_iload_n hx hb dX12_word_2 rfl (lv_at hl 2 rfl) ?_
    refine lv_aload_n hx hb dX12_word_3 rfl (lv_at hl 1 rfl) ?_
    obtain ⟨w1, ew1, h⟩ := z_bd h
    refine z_goi C0 hw hS (res := (w1, S)) (rest := [.int x2]) (arr := (Value.ref (F (200 + t1)) :: []).toArray) ?_ (fun H locs hw hS => ?_)
    · exact va_runV (z_fix C0) (c_J0_length_8abf5 l D Y F G S _ t1 ht1 w1 ew1) (cwV 0 hts gX12_word_J0_length_8abf5 rfl rfl rfl (by decide +kernel) ⟨Nat.le_of_ble_eq_true rfl, Nat.le_of_ble_eq_true rfl⟩) ⟨zPc_blind, vk_recv (i := t1) hN.2.2.2.1 ht1 hS, z_give C0 hw hS _⟩ rfl rfl hl.1 rfl (lv_room (Nat.le_of_ble_eq_true rfl)) dX12_word_4 ⟨Nat.zero_le _, Nat.zero_le _⟩
    refine lv_icmp_ge (tgt := 30) hx hb dX12_word_7 (by decide) (fun c2 => ?_) (fun c2 => ?_)
    · replace h := z_ifp c2 h
      refine lv_iconst (v := 1) hx hb dX12_word_30 (by decide) ?_
      exact z_retz C0 hw hS rfl (Option.some.inj h) dX12_word_31
    · replace h := z_ifn c2 h
      refine lv_aload_n hx hb dX12_word_10 rfl (lv_at hl 0 rfl) ?_
      refine lv_aload_n hx hb dX12_word_11 rfl (lv_at hl 1 rfl) ?_
      refine lv_iload_n hx hb dX12_word_12 rfl (lv_at hl 2 rfl) ?_
      obtain ⟨w3, ew3, h⟩ := z_bd h
      refine z_goi C0 hw hS (res := w3) (rest := [.ref (F 0)]) (arr := (Value.ref (F (200 + t1)) :: [.int x2]).toArray) ?_ (fun H locs hw hS => ?_)
      · exact va_runV (z_fix C0) (c_J0_charAt_5068e l D Y F G S _ t1 ht1 x2 w3 ew3) (cwV 1 hts gX12_word_J0_charAt_5068e rfl rfl rfl (by decide +kernel) ⟨Nat.le_of_ble_eq_true rfl, Nat.le_of_ble_eq_true rfl⟩) ⟨zPc_blind, vk_recv (i := t1) hN.2.2.2.1 ht1 hS, z_give C0 hw hS _⟩ rfl rfl hl.1 rfl (lv_room (Nat.le_of_ble_eq_true rfl)) dX12_word_13 ⟨Nat.zero_le _, Nat.zero_le _⟩
      obtain ⟨w4, ew4, h⟩ := z_bd h
      refine z_goi C0 hw hS (res := w4) (rest := []) (arr := (Value.ref (F 0) :: [.int w3.1]).toArray) ?_ (fun H locs hw hS => ?_)
      · exact va_runV (z_fix C0) (c_X12_is l D Y F G w3.2 _ w3.1 w4 ew4) (cwV 1 hts gX12_word_X12_is rfl rfl rfl (by decide +kernel) ⟨Nat.le_of_ble_eq_true rfl, Nat.le_of_ble_eq_true rfl⟩) ⟨zPc_blind, z_rv C0 hw (k := 0) rfl rfl rfl rfl, z_give C0 hw hS _⟩ rfl rfl hl.1 rfl (lv_room (Nat.le_of_ble_eq_true rfl)) dX12_word_16 ⟨Nat.zero_le _, Nat.zero_le _⟩
      refine lv_if_ne (tgt := 24) hx hb dX12_word_19 (by decide) (fun c5 => ?_) (fun c5 => ?_)
      · replace h := z_ifn c5 h
        refine lv_iinc (v := (x2 + 1)) (lv' := [(2, .int ((x2 + 1))), (0, .ref (F 0)), (1, .ref (F (200 + t1)))]) hx hb dX12_word_24 hl (k := 2) rfl rfl (by decide) rfl (fun ls hl => ?_)
        refine lv_goto (tgt := 2) hx hb dX12_word_27 (by decide) ?_
        exact ih w4.2 ((x2 + 1)) h _ _ _ hw hS (lv_sub hl [1, 2, 0] rfl)
      · replace h := z_ifp c5 h
        refine lv_iconst (v := 0) hx hb dX12_word_22 (by decide) ?_
        exact z_retz C0 hw hS rfl (Option.some.inj h) dX12_word_23
def M_X12_word (S : zSt) (t1 : Nat) : Option (Int32 × zSt) :=
  M_X12_word_B2 t1 zF S 0
set_option maxHeartbeats 4000000 in
set_option maxRecDepth 100000 in
theorem c_X12_word (l : Launch) (D : va_G) (Y : Nat → ClassId) (F : Nat → Nat) (G : zG) (S : zSt) (sz : Nat) (t1 : Nat) (ht1 : t1 < 6) (res : Int32 × zSt) (h : M_X12_word S t1 = some res) : Met l yX12_word wsX12_word (zRm 4 85) (zPc D Y F G S sz [.ref (F 0), .ref (F (200 + t1))]) (zQi D Y F (zAo F G sz) G res) 0 0 (zAo F G sz) := by
  unfold M_X12_word at h
  refine zMet (cc := cX12_word) (maxL := 3) (ret := (some .boolean)) (own := RX12) (by decide +kernel) rfl rfl (Nat.le_of_ble_eq_true rfl) ?_
  intro p e s m args below meth c C0 hin hw hS ls hl
  have hl : lv_has ls 3 [(0, .ref (F 0)), (1, .ref (F (200 + t1)))] := hl
  generalize zAo F G sz = A at C0 hw hS ⊢
  obtain ⟨hx, hb, hml, hr, hown, hts, hK, hA, hlk, hN⟩ := id C0
  refine lv_iconst (v := 0) hx hb dX12_word_0 (by decide) ?_
  refine lv_istore_n (lv' := [(2, .int 0), (0, .ref (F 0)), (1, .ref (F (200 + t1)))]) hx hb dX12_word_1 rfl hl (by decide) rfl (fun ls hl => ?_)
  exact t_X12_word_B2 C0 t1 ht1 res zF S 0 h _ _ _ hw hS (lv_sub hl [1, 2, 0] rfl)
def M_X12_word__B26 (t1 : Nat) (S : zSt) (x2 : Int32) (x4 : Int32) : Option (Int32 × zSt) :=
  (if x4 = 0 then some (0, S) else (if x2 = 0 then some (0, S) else some (1, S)))
set_option maxHeartbeats 4000000 in
set_option maxRecDepth 100000 in
theorem t_X12_word__B26 {p : Program} {l : Launch} {e : Env} {s : State} {m : MethodId} {args : Array Value} {below : List Frame} {meth : Method} {c : Code} {D : va_G} {Y : Nat → ClassId} {F : Nat → Nat} {A : Nat → Prop} {G : zG} (C0 : zCx p s m args meth c D Y F A RX12 cX12_word_ 5 (some .boolean) wsX12_word_) (t1 : Nat) (ht1 : t1 < 6) (res : Int32 × zSt) : ∀ (S : zSt) (x2 : Int32) (x4 : Int32), M_X12_word__B26 t1 S x2 x4 = some res → ∀ (H : Heap) (locs : List Loc) (ls : Array Slot), zH D Y F A G S H → va_S A s.heap H locs → lv_has ls 5 [(2, .int x2), (4, .int x4)] → W p l e (zRm 5 107) s m args below meth c H locs 0 0 (MQ below (zQi D Y F A G res) args s 0 0 A) (F0 m 26 ls []) := by
  obtain ⟨hx, hb, hml, hr, hown, hts, hK, hA, hlk, hN⟩ := id C0
  intro S x2 x4 h H locs ls hw hS hl
  unfold M_X12_word__B26 at h
  refine lv_iload hx hb dX12_word__26 (lv_at hl 1 rfl) ?_
  refine lv_if_eq (tgt := 39) hx hb dX12_word__28 (by decide) (fun c3 => ?_) (fun c3 => ?_)
  · replace h := z_ifp c3 h
    refine lv_iconst (v := 0) hx hb dX12_word__39 (by decide) ?_
    exact z_retz C0 hw hS rfl (Option.some.inj h) dX12_word__40
  · replace h := z_ifn c3 h
    refine lv_iload_n hx hb dX12_word__31 rfl (lv_at hl 0 rfl) ?_
    refine lv_if_eq (tgt := 39) hx hb dX12_word__32 (by decide) (fun c4 => ?_) (fun c4 => ?_)
    · replace h := z_ifp c4 h
      refine lv_iconst (v := 0) hx hb dX12_word__39 (by decide) ?_
      exact z_retz C0 hw hS rfl (Option.some.inj h) dX12_word__40
    · replace h := z_ifn c4 h
      refine lv_iconst (v := 1) hx hb dX12_word__35 (by decide) ?_
      refine lv_goto (tgt := 40) hx hb dX12_word__36 (by decide) ?_
      exact z_retz C0 hw hS rfl (Option.some.inj h) dX12_word__40
def M_X12_word_ (S : zSt) (t1 : Nat) (x2 : Int32) : Option (Int32 × zSt) :=
  Option.bind (M_X12_word S t1) (fun w1 => (if w1.1 = 0 then M_X12_word__B26 t1 w1.2 x2 w1.1 else (if x2 = 0 then M_X12_word__B26 t1 ((zP w1.2 0 14 ((zsc S 0 14)))) x2 w1.1 else M_X12_word__B26 t1 w1.2 x2 w1.1)))
set_option maxHeartbeats 4000000 in
set_option maxRecDepth 100000 in
theorem c_X12_word_ (l : Launch) (D : va_G) (Y : Nat → ClassId) (F : Nat → Nat) (G : zG) (S : zSt) (sz : Nat) (t1 : Nat) (ht1 : t1 < 6) (x2 : Int32) (res : Int32 × zSt) (h : M_X12_word_ S t1 x2 = some res) : Met l yX12_word_ wsX12_word_ (zRm 5 107) (zPc D Y F G S sz [.ref (F 0), .ref (F (200 + t1)), .int x2]) (zQi D Y F (zAo F G sz) G res) 0 0 (zAo F G sz) := by
  unfold M_X12_word_ at h
  refine zMet (cc := cX12_word_) (maxL := 5) (ret := (some .boolean)) (own := RX12) (by decide +kernel) rfl rfl (Nat.le_of_ble_eq_true rfl) ?_
  intro p e s m args below meth c C0 hin hw hS ls hl
  have hl : lv_has ls 5 [(0, .ref (F 0)), (1, .ref (F (200 + t1))), (2, .int x2)] := hl
  generalize zAo F G sz = A at C0 hw hS ⊢
  obtain ⟨hx, hb, hml, hr, hown, hts, hK, hA, hlk, hN⟩ := id C0
  refine lv_aload_n hx hb dX12_word__0 rfl (lv_at hl 0 rfl) ?_
  refine z_getU C0 in_X12_word__X12 (C := RX12) (T := TX12) (N := 27) hw (k := 0) (ci := 12) (v := .int ((zsc S 0 14))) rfl rfl rfl rfl 14 (by decide) rfl 1 rfl (Or.inl rfl) dX12_word__1 ?_
  refine lv_istore_n (lv' := [(3, .int ((zsc S 0 14))), (0, .ref (F 0)), (1, .ref (F (200 + t1))), (2, .int x2)]) hx hb dX12_word__4 rfl hl (by decide) rfl (fun ls hl => ?_)
  refine lv_aload_n hx hb dX12_word__5 rfl (lv_at hl 1 rfl) ?_
  refine lv_aload_n hx hb dX12_word__6 rfl (lv_at hl 2 rfl) ?_
  obtain ⟨w1, ew1, h⟩ := z_bd h
  refine z_goi C0 hw hS (res := w1) (rest := []) (arr := (Value.ref (F 0) :: [.ref (F (200 + t1))]).toArray) ?_ (fun H locs hw hS => ?_)
  · exact va_runV (z_fix C0) (c_X12_word l D Y F G S _ t1 ht1 w1 ew1) (cwV 1 hts gX12_word__X12_word rfl rfl rfl (by decide +kernel) ⟨Nat.le_of_ble_eq_true rfl, Nat.le_of_ble_eq_true rfl⟩) ⟨zPc_blind, z_rv C0 hw (k := 0) rfl rfl rfl rfl, z_give C0 hw hS _⟩ rfl rfl hl.1 rfl (lv_room (Nat.le_of_ble_eq_true rfl)) dX12_word__7 ⟨Nat.zero_le _, Nat.zero_le _⟩
  refine lv_istore (lv' := [(4, .int w1.1), (3, .int ((zsc S 0 14))), (0, .ref (F 0)), (1, .ref (F (200 + t1))), (2, .int x2)]) hx hb dX12_word__10 hl (by decide) rfl (fun ls hl => ?_)
  refine lv_iload hx hb dX12_word__12 (lv_at hl 0 rfl) ?_
  refine lv_if_eq (tgt := 26) hx hb dX12_word__14 (by decide) (fun c2 => ?_) (fun c2 => ?_)
  · replace h := z_ifp c2 h
    exact t_X12_word__B26 C0 t1 ht1 res w1.2 x2 w1.1 h _ _ _ hw hS (lv_sub hl [4, 0] rfl)
  · replace h := z_ifn c2 h
    refine lv_iload_n hx hb dX12_word__17 rfl (lv_at hl 4 rfl) ?_
    refine lv_if_ne (tgt := 26) hx hb dX12_word__18 (by decide) (fun c5 => ?_) (fun c5 => ?_)
    · replace h := z_ifn c5 h
      exact t_X12_word__B26 C0 t1 ht1 res w1.2 x2 w1.1 h _ _ _ hw hS (lv_sub hl [4, 0] rfl)
    · replace h := z_ifp c5 h
      refine lv_aload_n hx hb dX12_word__21 rfl (lv_at hl 2 rfl) ?_
      refine lv_iload_n hx hb dX12_word__22 rfl (lv_at hl 1 rfl) ?_
      refine z_putU C0 in_X12_word__X12 tyX12 tyX12_ok nmX12 (C := RX12) (T := TX12) (N := 27) hw hS (k := 0) (ci := 12) (v := (zsc S 0 14)) rfl rfl rfl rfl 14 (by decide) 1 rfl rfl rfl rfl (Nat.le_of_ble_eq_true rfl) rfl dX12_word__23 (fun H locs hw hS => ?_)
      exact t_X12_word__B26 C0 t1 ht1 res ((zP w1.2 0 14 ((zsc S 0 14)))) x2 w1.1 h _ _ _ hw hS (lv_sub hl [4, 0] rfl)
def M_X12_pressed_B168 (S : zSt) (y0 : Int32) (y1 : Int32) : Option (Int32 × zSt) :=
  Option.bind (M_X12_stands S y1 y0) (fun w10 => (if w10.1 = 0 then some (0, w10.2) else Option.bind (M_X12_number w10.2 1 0 7) (fun w12 => (if w12.1 = 0 then some (0, w12.2) else Option.bind (M_X12_number w12.2 2 1 99) (fun w14 => (if w14.1 = 0 then some (0, w14.2) else zg (zin 0 3) (zg (zin 1 3) (zg (zin 2 3) (Option.bind (M_X12_presses w14.2 ((zar w14.2 11 (Int32.toNatClampNeg 0))) ((zar w14.2 11 (Int32.toNatClampNeg 1))) ((zar w14.2 11 (Int32.toNatClampNeg 2)))) (fun w19 => some (1, w19.2)))))))))))
set_option maxHeartbeats 4000000 in
set_option maxRecDepth 100000 in
theorem t_X12_pressed_B168 {p : Program} {l : Launch} {e : Env} {s : State} {m : MethodId} {args : Array Value} {below : List Frame} {meth : Method} {c : Code} {D : va_G} {Y : Nat → ClassId} {F : Nat → Nat} {A : Nat → Prop} {G : zG} (C0 : zCx p s m args meth c D Y F A RX12 cX12_pressed 3 (some .boolean) wsX12_pressed) (res : Int32 × zSt) : ∀ (S : zSt) (y0 : Int32) (y1 : Int32), M_X12_pressed_B168 S y0 y1 = some res → ∀ (H : Heap) (locs : List Loc) (ls : Array Slot), zH D Y F A G S H → va_S A s.heap H locs → lv_has ls 3 [(0, .ref (F 0))] → W p l e (zRm 6 131) s m args below meth c H locs 0 0 (MQ below (zQi D Y F A G res) args s 0 0 A) (F0 m 168 ls [.int y0, .int y1, .ref (F 0)]) := by
  obtain ⟨hx, hb, hml, hr, hown, hts, hK, hA, hlk, hN⟩ := id C0
  intro S y0 y1 h H locs ls hw hS hl
  unfold M_X12_pressed_B168 at h
  obtain ⟨w10, ew10, h⟩ := z_bd h
  refine z_goi C0 hw hS (res := w10) (rest := []) (arr := (Value.ref (F 0) :: [.int y1, .int y0]).toArray) ?_ (fun H locs hw hS => ?_)
  · exact va_runV (z_fix C0) (c_X12_stands l D Y F G S _ y1 y0 w10 ew10) (cwV 2 hts gX12_pressed_X12_stands rfl rfl rfl (by decide +kernel) ⟨Nat.le_of_ble_eq_true rfl, Nat.le_of_ble_eq_true rfl⟩) ⟨zPc_blind, z_rv C0 hw (k := 0) rfl rfl rfl rfl, z_give C0 hw hS _⟩ rfl rfl hl.1 rfl (lv_room (Nat.le_of_ble_eq_true rfl)) dX12_pressed_168 ⟨Nat.zero_le _, Nat.zero_le _⟩
  refine lv_if_eq (tgt := 196) hx hb dX12_pressed_171 (by decide) (fun c11 => ?_) (fun c11 => ?_)
  · replace h := z_ifp c11 h
    refine lv_iconst (v := 0) hx hb dX12_pressed_196 (by decide) ?_
    exact z_retz C0 hw hS rfl (Option.some.inj h) dX12_pressed_197
  · replace h := z_ifn c11 h
    refine lv_aload_n hx hb dX12_pressed_174 rfl (lv_at hl 0 rfl) ?_
    refine lv_iconst (v := 1) hx hb dX12_pressed_175 (by decide) ?_
    refine lv_iconst (v := 0) hx hb dX12_pressed_176 (by decide) ?_
    refine lv_bipush (v := 7) hx hb dX12_pressed_177 (by decide) ?_
    obtain ⟨w12, ew12, h⟩ := z_bd h
    refine z_goi C0 hw hS (res := w12) (rest := []) (arr := (Value.ref (F 0) :: [.int 1, .int 0, .int 7]).toArray) ?_ (fun H locs hw hS => ?_)
    · exact va_runV (z_fix C0) (c_X12_number l D Y F G w10.2 _ 1 0 7 w12 ew12) (cwV 3 hts gX12_pressed_X12_number rfl rfl rfl (by decide +kernel) ⟨Nat.le_of_ble_eq_true rfl, Nat.le_of_ble_eq_true rfl⟩) ⟨zPc_blind, z_rv C0 hw (k := 0) rfl rfl rfl rfl, z_give C0 hw hS _⟩ rfl rfl hl.1 rfl (lv_room (Nat.le_of_ble_eq_true rfl)) dX12_pressed_179 ⟨Nat.zero_le _, Nat.zero_le _⟩
    refine lv_if_eq (tgt := 196) hx hb dX12_pressed_182 (by decide) (fun c13 => ?_) (fun c13 => ?_)
    · replace h := z_ifp c13 h
      refine lv_iconst (v := 0) hx hb dX12_pressed_196 (by decide) ?_
      exact z_retz C0 hw hS rfl (Option.some.inj h) dX12_pressed_197
    · replace h := z_ifn c13 h
      refine lv_aload_n hx hb dX12_pressed_185 rfl (lv_at hl 0 rfl) ?_
      refine lv_iconst (v := 2) hx hb dX12_pressed_186 (by decide) ?_
      refine lv_iconst (v := 1) hx hb dX12_pressed_187 (by decide) ?_
      refine lv_bipush (v := 99) hx hb dX12_pressed_188 (by decide) ?_
      obtain ⟨w14, ew14, h⟩ := z_bd h
      refine z_goi C0 hw hS (res := w14) (rest := []) (arr := (Value.ref (F 0) :: [.int 2, .int 1, .int 99]).toArray) ?_ (fun H locs hw hS => ?_)
      · exact va_runV (z_fix C0) (c_X12_number l D Y F G w12.2 _ 2 1 99 w14 ew14) (cwV 3 hts gX12_pressed_X12_number rfl rfl rfl (by decide +kernel) ⟨Nat.le_of_ble_eq_true rfl, Nat.le_of_ble_eq_true rfl⟩) ⟨zPc_blind, z_rv C0 hw (k := 0) rfl rfl rfl rfl, z_give C0 hw hS _⟩ rfl rfl hl.1 rfl (lv_room (Nat.le_of_ble_eq_true rfl)) dX12_pressed_190 ⟨Nat.zero_le _, Nat.zero_le _⟩
      refine lv_if_ne (tgt := 198) hx hb dX12_pressed_193 (by decide) (fun c15 => ?_) (fun c15 => ?_)
      · replace h := z_ifn c15 h
        refine lv_aload_n hx hb dX12_pressed_198 rfl (lv_at hl 0 rfl) ?_
        refine lv_aload_n hx hb dX12_pressed_199 rfl (lv_at hl 0 rfl) ?_
        refine z_getU C0 in_X12_pressed_X12 (C := RX12) (T := TX12) (N := 27) hw (k := 0) (ci := 12) (v := .ref (F 11)) rfl rfl rfl rfl 16 (by decide) rfl 3 rfl (Or.inl rfl) dX12_pressed_200 ?_
        refine lv_iconst (v := 0) hx hb dX12_pressed_203 (by decide) ?_
        obtain ⟨b16, h⟩ := z_gd h
        refine z_iald C0 hw 11 rfl rfl zri_11 (zin_in b16) dX12_pressed_204 ?_
        refine lv_aload_n hx hb dX12_pressed_205 rfl (lv_at hl 0 rfl) ?_
        refine z_getU C0 in_X12_pressed_X12 (C := RX12) (T := TX12) (N := 27) hw (k := 0) (ci := 12) (v := .ref (F 11)) rfl rfl rfl rfl 16 (by decide) rfl 3 rfl (Or.inl rfl) dX12_pressed_206 ?_
        refine lv_iconst (v := 1) hx hb dX12_pressed_209 (by decide) ?_
        obtain ⟨b17, h⟩ := z_gd h
        refine z_iald C0 hw 11 rfl rfl zri_11 (zin_in b17) dX12_pressed_210 ?_
        refine lv_aload_n hx hb dX12_pressed_211 rfl (lv_at hl 0 rfl) ?_
        refine z_getU C0 in_X12_pressed_X12 (C := RX12) (T := TX12) (N := 27) hw (k := 0) (ci := 12) (v := .ref (F 11)) rfl rfl rfl rfl 16 (by decide) rfl 3 rfl (Or.inl rfl) dX12_pressed_212 ?_
        refine lv_iconst (v := 2) hx hb dX12_pressed_215 (by decide) ?_
        obtain ⟨b18, h⟩ := z_gd h
        refine z_iald C0 hw 11 rfl rfl zri_11 (zin_in b18) dX12_pressed_216 ?_
        obtain ⟨w19, ew19, h⟩ := z_bd h
        refine z_goi C0 hw hS (res := w19) (rest := []) (arr := (Value.ref (F 0) :: [.int ((zar w14.2 11 (Int32.toNatClampNeg 0))), .int ((zar w14.2 11 (Int32.toNatClampNeg 1))), .int ((zar w14.2 11 (Int32.toNatClampNeg 2)))]).toArray) ?_ (fun H locs hw hS => ?_)
        · exact va_runV (z_fix C0) (c_X12_presses l D Y F G w14.2 _ ((zar w14.2 11 (Int32.toNatClampNeg 0))) ((zar w14.2 11 (Int32.toNatClampNeg 1))) ((zar w14.2 11 (Int32.toNatClampNeg 2))) w19 ew19) (cwV 3 hts gX12_pressed_X12_presses rfl rfl rfl (by decide +kernel) ⟨Nat.le_of_ble_eq_true rfl, Nat.le_of_ble_eq_true rfl⟩) ⟨zPc_blind, z_rv C0 hw (k := 0) rfl rfl rfl rfl, z_give C0 hw hS _⟩ rfl rfl hl.1 rfl (lv_room (Nat.le_of_ble_eq_true rfl)) dX12_pressed_217 ⟨Nat.zero_le _, Nat.zero_le _⟩
        refine lv_pop hx hb dX12_pressed_220 rfl ?_
        refine lv_iconst (v := 1) hx hb dX12_pressed_221 (by decide) ?_
        exact z_retz C0 hw hS rfl (Option.some.inj h) dX12_pressed_222
      · replace h := z_ifp c15 h
        refine lv_iconst (v := 0) hx hb dX12_pressed_196 (by decide) ?_
        exact z_retz C0 hw hS rfl (Option.some.inj h) dX12_pressed_197
def M_X12_pressed_B46 (S : zSt) (y0 : Int32) : Option (Int32 × zSt) :=
  Option.bind (M_X12_word_ S 0 y0) (fun w21 => (if w21.1 = 0 then some (0, w21.2) else Option.bind (M_X12_number w21.2 0 0 6) (fun w23 => (if w23.1 = 0 then some (0, w23.2) else Option.bind (M_X12_number w23.2 1 0 9) (fun w25 => (if w25.1 = 0 then some (0, w25.2) else Option.bind (M_X12_number w25.2 2 1 20) (fun w27 => (if w27.1 = 0 then some (0, w27.2) else zg (zin 0 3) (zg (zin 1 3) (zg (zin 2 3) (Option.bind (M_X12_newPerson w27.2 ((zar w27.2 11 (Int32.toNatClampNeg 0))) ((zar w27.2 11 (Int32.toNatClampNeg 1))) ((zar w27.2 11 (Int32.toNatClampNeg 2)))) (fun w32 => some (1, w32.2)))))))))))))
set_option maxHeartbeats 4000000 in
set_option maxRecDepth 100000 in
theorem t_X12_pressed_B46 {p : Program} {l : Launch} {e : Env} {s : State} {m : MethodId} {args : Array Value} {below : List Frame} {meth : Method} {c : Code} {D : va_G} {Y : Nat → ClassId} {F : Nat → Nat} {A : Nat → Prop} {G : zG} (C0 : zCx p s m args meth c D Y F A RX12 cX12_pressed 3 (some .boolean) wsX12_pressed) (res : Int32 × zSt) : ∀ (S : zSt) (y0 : Int32), M_X12_pressed_B46 S y0 = some res → ∀ (H : Heap) (locs : List Loc) (ls : Array Slot), zH D Y F A G S H → va_S A s.heap H locs → lv_has ls 3 [(0, .ref (F 0))] → W p l e (zRm 6 131) s m args below meth c H locs 0 0 (MQ below (zQi D Y F A G res) args s 0 0 A) (F0 m 46 ls [.int y0, .ref (F (200 + 0)), .ref (F 0)]) := by
  obtain ⟨hx, hb, hml, hr, hown, hts, hK, hA, hlk, hN⟩ := id C0
  intro S y0 h H locs ls hw hS hl
  unfold M_X12_pressed_B46 at h
  obtain ⟨w21, ew21, h⟩ := z_bd h
  refine z_goi C0 hw hS (res := w21) (rest := []) (arr := (Value.ref (F 0) :: [.ref (F (200 + 0)), .int y0]).toArray) ?_ (fun H locs hw hS => ?_)
  · exact va_runV (z_fix C0) (c_X12_word_ l D Y F G S _ 0 (by decide) y0 w21 ew21) (cwV 2 hts gX12_pressed_X12_word_ rfl rfl rfl (by decide +kernel) ⟨Nat.le_of_ble_eq_true rfl, Nat.le_of_ble_eq_true rfl⟩) ⟨zPc_blind, z_rv C0 hw (k := 0) rfl rfl rfl rfl, z_give C0 hw hS _⟩ rfl rfl hl.1 rfl (lv_room (Nat.le_of_ble_eq_true rfl)) dX12_pressed_46 ⟨Nat.zero_le _, Nat.zero_le _⟩
  refine lv_if_eq (tgt := 85) hx hb dX12_pressed_49 (by decide) (fun c22 => ?_) (fun c22 => ?_)
  · replace h := z_ifp c22 h
    refine lv_iconst (v := 0) hx hb dX12_pressed_85 (by decide) ?_
    exact z_retz C0 hw hS rfl (Option.some.inj h) dX12_pressed_86
  · replace h := z_ifn c22 h
    refine lv_aload_n hx hb dX12_pressed_52 rfl (lv_at hl 0 rfl) ?_
    refine lv_iconst (v := 0) hx hb dX12_pressed_53 (by decide) ?_
    refine lv_iconst (v := 0) hx hb dX12_pressed_54 (by decide) ?_
    refine lv_bipush (v := 6) hx hb dX12_pressed_55 (by decide) ?_
    obtain ⟨w23, ew23, h⟩ := z_bd h
    refine z_goi C0 hw hS (res := w23) (rest := []) (arr := (Value.ref (F 0) :: [.int 0, .int 0, .int 6]).toArray) ?_ (fun H locs hw hS => ?_)
    · exact va_runV (z_fix C0) (c_X12_number l D Y F G w21.2 _ 0 0 6 w23 ew23) (cwV 3 hts gX12_pressed_X12_number rfl rfl rfl (by decide +kernel) ⟨Nat.le_of_ble_eq_true rfl, Nat.le_of_ble_eq_true rfl⟩) ⟨zPc_blind, z_rv C0 hw (k := 0) rfl rfl rfl rfl, z_give C0 hw hS _⟩ rfl rfl hl.1 rfl (lv_room (Nat.le_of_ble_eq_true rfl)) dX12_pressed_57 ⟨Nat.zero_le _, Nat.zero_le _⟩
    refine lv_if_eq (tgt := 85) hx hb dX12_pressed_60 (by decide) (fun c24 => ?_) (fun c24 => ?_)
    · replace h := z_ifp c24 h
      refine lv_iconst (v := 0) hx hb dX12_pressed_85 (by decide) ?_
      exact z_retz C0 hw hS rfl (Option.some.inj h) dX12_pressed_86
    · replace h := z_ifn c24 h
      refine lv_aload_n hx hb dX12_pressed_63 rfl (lv_at hl 0 rfl) ?_
      refine lv_iconst (v := 1) hx hb dX12_pressed_64 (by decide) ?_
      refine lv_iconst (v := 0) hx hb dX12_pressed_65 (by decide) ?_
      refine lv_bipush (v := 9) hx hb dX12_pressed_66 (by decide) ?_
      obtain ⟨w25, ew25, h⟩ := z_bd h
      refine z_goi C0 hw hS (res := w25) (rest := []) (arr := (Value.ref (F 0) :: [.int 1, .int 0, .int 9]).toArray) ?_ (fun H locs hw hS => ?_)
      · exact va_runV (z_fix C0) (c_X12_number l D Y F G w23.2 _ 1 0 9 w25 ew25) (cwV 3 hts gX12_pressed_X12_number rfl rfl rfl (by decide +kernel) ⟨Nat.le_of_ble_eq_true rfl, Nat.le_of_ble_eq_true rfl⟩) ⟨zPc_blind, z_rv C0 hw (k := 0) rfl rfl rfl rfl, z_give C0 hw hS _⟩ rfl rfl hl.1 rfl (lv_room (Nat.le_of_ble_eq_true rfl)) dX12_pressed_68 ⟨Nat.zero_le _, Nat.zero_le _⟩
      refine lv_if_eq (tgt := 85) hx hb dX12_pressed_71 (by decide) (fun c26 => ?_) (fun c26 => ?_)
      · replace h := z_ifp c26 h
        refine lv_iconst (v := 0) hx hb dX12_pressed_85 (by decide) ?_
        exact z_retz C0 hw hS rfl (Option.some.inj h) dX12_pressed_86
      · replace h := z_ifn c26 h
        refine lv_aload_n hx hb dX12_pressed_74 rfl (lv_at hl 0 rfl) ?_
        refine lv_iconst (v := 2) hx hb dX12_pressed_75 (by decide) ?_
        refine lv_iconst (v := 1) hx hb dX12_pressed_76 (by decide) ?_
        refine lv_bipush (v := 20) hx hb dX12_pressed_77 (by decide) ?_
        obtain ⟨w27, ew27, h⟩ := z_bd h
        refine z_goi C0 hw hS (res := w27) (rest := []) (arr := (Value.ref (F 0) :: [.int 2, .int 1, .int 20]).toArray) ?_ (fun H locs hw hS => ?_)
        · exact va_runV (z_fix C0) (c_X12_number l D Y F G w25.2 _ 2 1 20 w27 ew27) (cwV 3 hts gX12_pressed_X12_number rfl rfl rfl (by decide +kernel) ⟨Nat.le_of_ble_eq_true rfl, Nat.le_of_ble_eq_true rfl⟩) ⟨zPc_blind, z_rv C0 hw (k := 0) rfl rfl rfl rfl, z_give C0 hw hS _⟩ rfl rfl hl.1 rfl (lv_room (Nat.le_of_ble_eq_true rfl)) dX12_pressed_79 ⟨Nat.zero_le _, Nat.zero_le _⟩
        refine lv_if_ne (tgt := 87) hx hb dX12_pressed_82 (by decide) (fun c28 => ?_) (fun c28 => ?_)
        · replace h := z_ifn c28 h
          refine lv_aload_n hx hb dX12_pressed_87 rfl (lv_at hl 0 rfl) ?_
          refine lv_aload_n hx hb dX12_pressed_88 rfl (lv_at hl 0 rfl) ?_
          refine z_getU C0 in_X12_pressed_X12 (C := RX12) (T := TX12) (N := 27) hw (k := 0) (ci := 12) (v := .ref (F 11)) rfl rfl rfl rfl 16 (by decide) rfl 3 rfl (Or.inl rfl) dX12_pressed_89 ?_
          refine lv_iconst (v := 0) hx hb dX12_pressed_92 (by decide) ?_
          obtain ⟨b29, h⟩ := z_gd h
          refine z_iald C0 hw 11 rfl rfl zri_11 (zin_in b29) dX12_pressed_93 ?_
          refine lv_aload_n hx hb dX12_pressed_94 rfl (lv_at hl 0 rfl) ?_
          refine z_getU C0 in_X12_pressed_X12 (C := RX12) (T := TX12) (N := 27) hw (k := 0) (ci := 12) (v := .ref (F 11)) rfl rfl rfl rfl 16 (by decide) rfl 3 rfl (Or.inl rfl) dX12_pressed_95 ?_
          refine lv_iconst (v := 1) hx hb dX12_pressed_98 (by decide) ?_
          obtain ⟨b30, h⟩ := z_gd h
          refine z_iald C0 hw 11 rfl rfl zri_11 (zin_in b30) dX12_pressed_99 ?_
          refine lv_aload_n hx hb dX12_pressed_100 rfl (lv_at hl 0 rfl) ?_
          refine z_getU C0 in_X12_pressed_X12 (C := RX12) (T := TX12) (N := 27) hw (k := 0) (ci := 12) (v := .ref (F 11)) rfl rfl rfl rfl 16 (by decide) rfl 3 rfl (Or.inl rfl) dX12_pressed_101 ?_
          refine lv_iconst (v := 2) hx hb dX12_pressed_104 (by decide) ?_
          obtain ⟨b31, h⟩ := z_gd h
          refine z_iald C0 hw 11 rfl rfl zri_11 (zin_in b31) dX12_pressed_105 ?_
          obtain ⟨w32, ew32, h⟩ := z_bd h
          refine z_goi C0 hw hS (res := w32) (rest := []) (arr := (Value.ref (F 0) :: [.int ((zar w27.2 11 (Int32.toNatClampNeg 0))), .int ((zar w27.2 11 (Int32.toNatClampNeg 1))), .int ((zar w27.2 11 (Int32.toNatClampNeg 2)))]).toArray) ?_ (fun H locs hw hS => ?_)
          · exact va_runV (z_fix C0) (c_X12_newPerson l D Y F G w27.2 _ ((zar w27.2 11 (Int32.toNatClampNeg 0))) ((zar w27.2 11 (Int32.toNatClampNeg 1))) ((zar w27.2 11 (Int32.toNatClampNeg 2))) w32 ew32) (cwV 3 hts gX12_pressed_X12_newPerson rfl rfl rfl (by decide +kernel) ⟨Nat.le_of_ble_eq_true rfl, Nat.le_of_ble_eq_true rfl⟩) ⟨zPc_blind, z_rv C0 hw (k := 0) rfl rfl rfl rfl, z_give C0 hw hS _⟩ rfl rfl hl.1 rfl (lv_room (Nat.le_of_ble_eq_true rfl)) dX12_pressed_106 ⟨Nat.zero_le _, Nat.zero_le _⟩
          refine lv_pop hx hb dX12_pressed_109 rfl ?_
          refine lv_iconst (v := 1) hx hb dX12_pressed_110 (by decide) ?_
          exact z_retz C0 hw hS rfl (Option.some.inj h) dX12_pressed_111
        · replace h := z_ifp c28 h
          refine lv_iconst (v := 0) hx hb dX12_pressed_85 (by decide) ?_
          exact z_retz C0 hw hS rfl (Option.some.inj h) dX12_pressed_86
def M_X12_pressed (S : zSt) : Option (Int32 × zSt) :=
  Option.bind (M_X12_sign ((zP S 0 14 (((zsc S 0 14) + 1))))) (fun w1 => (if w1 = 101 then (if 6 ≤ (zsc ((zP ((zP S 0 14 (((zsc S 0 14) + 1)))) 0 14 ((zsc S 0 14)))) 0 3) then M_X12_pressed_B46 ((zP ((zP S 0 14 (((zsc S 0 14) + 1)))) 0 14 ((zsc S 0 14)))) 0 else M_X12_pressed_B46 ((zP ((zP S 0 14 (((zsc S 0 14) + 1)))) 0 14 ((zsc S 0 14)))) 1) else Option.bind (M_X12_word ((zP S 0 14 (((zsc S 0 14) + 1)))) 5) (fun w3 => (if w3.1 = 0 then some (0, w3.2) else Option.bind (M_X12_number w3.2 0 0 (((zsc w3.2 0 3) - 1))) (fun w5 => (if w5.1 = 0 then some (0, w5.2) else zg (zin 0 3) (zg (zin ((zar w5.2 11 (Int32.toNatClampNeg 0))) 6) ((if 6 ≤ (zar w5.2 7 (Int32.toNatClampNeg ((zar w5.2 11 (Int32.toNatClampNeg 0))))) then M_X12_pressed_B168 w5.2 0 (((zsc w3.2 0 14) + 1)) else M_X12_pressed_B168 w5.2 1 (((zsc w3.2 0 14) + 1)))))))))))
set_option maxHeartbeats 4000000 in
set_option maxRecDepth 100000 in
theorem c_X12_pressed (l : Launch) (D : va_G) (Y : Nat → ClassId) (F : Nat → Nat) (G : zG) (S : zSt) (sz : Nat) (res : Int32 × zSt) (h : M_X12_pressed S = some res) : Met l yX12_pressed wsX12_pressed (zRm 6 131) (zPc D Y F G S sz [.ref (F 0)]) (zQi D Y F (zAo F G sz) G res) 0 0 (zAo F G sz) := by
  unfold M_X12_pressed at h
  refine zMet (cc := cX12_pressed) (maxL := 3) (ret := (some .boolean)) (own := RX12) (by decide +kernel) rfl rfl (Nat.le_of_ble_eq_true rfl) ?_
  intro p e s m args below meth c C0 hin hw hS ls hl
  have hl : lv_has ls 3 [(0, .ref (F 0))] := hl
  generalize zAo F G sz = A at C0 hw hS ⊢
  obtain ⟨hx, hb, hml, hr, hown, hts, hK, hA, hlk, hN⟩ := id C0
  refine lv_aload_n hx hb dX12_pressed_0 rfl (lv_at hl 0 rfl) ?_
  refine z_getU C0 in_X12_pressed_X12 (C := RX12) (T := TX12) (N := 27) hw (k := 0) (ci := 12) (v := .int ((zsc S 0 14))) rfl rfl rfl rfl 14 (by decide) rfl 1 rfl (Or.inl rfl) dX12_pressed_1 ?_
  refine lv_istore_n (lv' := [(1, .int ((zsc S 0 14))), (0, .ref (F 0))]) hx hb dX12_pressed_4 rfl hl (by decide) rfl (fun ls hl => ?_)
  refine lv_aload_n hx hb dX12_pressed_5 rfl (lv_at hl 1 rfl) ?_
  refine lv_dup hx hb dX12_pressed_6 rfl ?_
  refine z_getU C0 in_X12_pressed_X12 (C := RX12) (T := TX12) (N := 27) hw (k := 0) (ci := 12) (v := .int ((zsc S 0 14))) rfl rfl rfl rfl 14 (by decide) rfl 1 rfl (Or.inl rfl) dX12_pressed_7 ?_
  refine lv_iconst (v := 1) hx hb dX12_pressed_10 (by decide) ?_
  refine lv_iadd hx hb dX12_pressed_11 ?_
  refine z_putU C0 in_X12_pressed_X12 tyX12 tyX12_ok nmX12 (C := RX12) (T := TX12) (N := 27) hw hS (k := 0) (ci := 12) (v := ((zsc S 0 14) + 1)) rfl rfl rfl rfl 14 (by decide) 1 rfl rfl rfl rfl (Nat.le_of_ble_eq_true rfl) rfl dX12_pressed_12 (fun H locs hw hS => ?_)
  refine lv_aload_n hx hb dX12_pressed_15 rfl (lv_at hl 1 rfl) ?_
  obtain ⟨w1, ew1, h⟩ := z_bd h
  refine z_goi C0 hw hS (res := (w1, ((zP S 0 14 (((zsc S 0 14) + 1)))))) (rest := []) (arr := (Value.ref (F 0) :: []).toArray) ?_ (fun H locs hw hS => ?_)
  · exact va_runV (z_fix C0) (c_X12_sign l D Y F G ((zP S 0 14 (((zsc S 0 14) + 1)))) _ w1 ew1) (cwV 0 hts gX12_pressed_X12_sign rfl rfl rfl (by decide +kernel) ⟨Nat.le_of_ble_eq_true rfl, Nat.le_of_ble_eq_true rfl⟩) ⟨zPc_blind, z_rv C0 hw (k := 0) rfl rfl rfl rfl, z_give C0 hw hS _⟩ rfl rfl hl.1 rfl (lv_room (Nat.le_of_ble_eq_true rfl)) dX12_pressed_16 ⟨Nat.zero_le _, Nat.zero_le _⟩
  refine lv_bipush (v := 101) hx hb dX12_pressed_19 (by decide) ?_
  refine lv_icmp_ne (tgt := 112) hx hb dX12_pressed_21 (by decide) (fun c2 => ?_) (fun c2 => ?_)
  · replace h := z_ifn c2 h
    refine lv_aload_n hx hb dX12_pressed_112 rfl (lv_at hl 1 rfl) ?_
    refine va_ldcS (q := F (200 + 5)) hx hb hown (hN.2.2.2.2.1 _ (List.mem_of_getElem? (i := 9) rfl)) dX12_pressed_113 ?_
    obtain ⟨w3, ew3, h⟩ := z_bd h
    refine z_goi C0 hw hS (res := w3) (rest := []) (arr := (Value.ref (F 0) :: [.ref (F (200 + 5))]).toArray) ?_ (fun H locs hw hS => ?_)
    · exact va_runV (z_fix C0) (c_X12_word l D Y F G ((zP S 0 14 (((zsc S 0 14) + 1)))) _ 5 (by decide) w3 ew3) (cwV 1 hts gX12_pressed_X12_word rfl rfl rfl (by decide +kernel) ⟨Nat.le_of_ble_eq_true rfl, Nat.le_of_ble_eq_true rfl⟩) ⟨zPc_blind, z_rv C0 hw (k := 0) rfl rfl rfl rfl, z_give C0 hw hS _⟩ rfl rfl hl.1 rfl (lv_room (Nat.le_of_ble_eq_true rfl)) dX12_pressed_115 ⟨Nat.zero_le _, Nat.zero_le _⟩
    refine lv_if_ne (tgt := 123) hx hb dX12_pressed_118 (by decide) (fun c4 => ?_) (fun c4 => ?_)
    · replace h := z_ifn c4 h
      refine lv_aload_n hx hb dX12_pressed_123 rfl (lv_at hl 1 rfl) ?_
      refine z_getU C0 in_X12_pressed_X12 (C := RX12) (T := TX12) (N := 27) hw (k := 0) (ci := 12) (v := .int ((zsc w3.2 0 14))) rfl rfl rfl rfl 14 (by decide) rfl 1 rfl (Or.inl rfl) dX12_pressed_124 ?_
      refine lv_iconst (v := 1) hx hb dX12_pressed_127 (by decide) ?_
      refine lv_iadd hx hb dX12_pressed_128 ?_
      refine lv_istore_n (lv' := [(2, .int (((zsc w3.2 0 14) + 1))), (1, .int ((zsc S 0 14))), (0, .ref (F 0))]) hx hb dX12_pressed_129 rfl hl (by decide) rfl (fun ls hl => ?_)
      refine lv_aload_n hx hb dX12_pressed_130 rfl (lv_at hl 2 rfl) ?_
      refine lv_iconst (v := 0) hx hb dX12_pressed_131 (by decide) ?_
      refine lv_iconst (v := 0) hx hb dX12_pressed_132 (by decide) ?_
      refine lv_aload_n hx hb dX12_pressed_133 rfl (lv_at hl 2 rfl) ?_
      refine z_getU C0 in_X12_pressed_X12 (C := RX12) (T := TX12) (N := 27) hw (k := 0) (ci := 12) (v := .int ((zsc w3.2 0 3))) rfl rfl rfl rfl 3 (by decide) rfl 2 rfl (Or.inl rfl) dX12_pressed_134 ?_
      refine lv_iconst (v := 1) hx hb dX12_pressed_137 (by decide) ?_
      refine lv_isub hx hb dX12_pressed_138 ?_
      obtain ⟨w5, ew5, h⟩ := z_bd h
      refine z_goi C0 hw hS (res := w5) (rest := []) (arr := (Value.ref (F 0) :: [.int 0, .int 0, .int (((zsc w3.2 0 3) - 1))]).toArray) ?_ (fun H locs hw hS => ?_)
      · exact va_runV (z_fix C0) (c_X12_number l D Y F G w3.2 _ 0 0 (((zsc w3.2 0 3) - 1)) w5 ew5) (cwV 3 hts gX12_pressed_X12_number rfl rfl rfl (by decide +kernel) ⟨Nat.le_of_ble_eq_true rfl, Nat.le_of_ble_eq_true rfl⟩) ⟨zPc_blind, z_rv C0 hw (k := 0) rfl rfl rfl rfl, z_give C0 hw hS _⟩ rfl rfl hl.1 rfl (lv_room (Nat.le_of_ble_eq_true rfl)) dX12_pressed_139 ⟨Nat.zero_le _, Nat.zero_le _⟩
      refine lv_if_eq (tgt := 196) hx hb dX12_pressed_142 (by decide) (fun c6 => ?_) (fun c6 => ?_)
      · replace h := z_ifp c6 h
        refine lv_iconst (v := 0) hx hb dX12_pressed_196 (by decide) ?_
        exact z_retz C0 hw hS rfl (Option.some.inj h) dX12_pressed_197
      · replace h := z_ifn c6 h
        refine lv_aload_n hx hb dX12_pressed_145 rfl (lv_at hl 2 rfl) ?_
        refine lv_iload_n hx hb dX12_pressed_146 rfl (lv_at hl 0 rfl) ?_
        refine lv_aload_n hx hb dX12_pressed_147 rfl (lv_at hl 2 rfl) ?_
        refine z_getU C0 in_X12_pressed_X12 (C := RX12) (T := TX12) (N := 27) hw (k := 0) (ci := 12) (v := .ref (F 7)) rfl rfl rfl rfl 7 (by decide) rfl 4 rfl (Or.inl rfl) dX12_pressed_148 ?_
        refine lv_aload_n hx hb dX12_pressed_151 rfl (lv_at hl 2 rfl) ?_
        refine z_getU C0 in_X12_pressed_X12 (C := RX12) (T := TX12) (N := 27) hw (k := 0) (ci := 12) (v := .ref (F 11)) rfl rfl rfl rfl 16 (by decide) rfl 3 rfl (Or.inl rfl) dX12_pressed_152 ?_
        refine lv_iconst (v := 0) hx hb dX12_pressed_155 (by decide) ?_
        obtain ⟨b7, h⟩ := z_gd h
        refine z_iald C0 hw 11 rfl rfl zri_11 (zin_in b7) dX12_pressed_156 ?_
        obtain ⟨b8, h⟩ := z_gd h
        refine z_iald C0 hw 7 rfl rfl zri_7 (zin_in b8) dX12_pressed_157 ?_
        refine lv_bipush (v := 6) hx hb dX12_pressed_158 (by decide) ?_
        refine lv_icmp_ge (tgt := 167) hx hb dX12_pressed_160 (by decide) (fun c9 => ?_) (fun c9 => ?_)
        · replace h := z_ifp c9 h
          refine lv_iconst (v := 0) hx hb dX12_pressed_167 (by decide) ?_
          exact t_X12_pressed_B168 C0 res w5.2 0 (((zsc w3.2 0 14) + 1)) h _ _ _ hw hS (lv_sub hl [2] rfl)
        · replace h := z_ifn c9 h
          refine lv_iconst (v := 1) hx hb dX12_pressed_163 (by decide) ?_
          refine lv_goto (tgt := 168) hx hb dX12_pressed_164 (by decide) ?_
          exact t_X12_pressed_B168 C0 res w5.2 1 (((zsc w3.2 0 14) + 1)) h _ _ _ hw hS (lv_sub hl [2] rfl)
    · replace h := z_ifp c4 h
      refine lv_iconst (v := 0) hx hb dX12_pressed_121 (by decide) ?_
      exact z_retz C0 hw hS rfl (Option.some.inj h) dX12_pressed_122
  · replace h := z_ifp c2 h
    refine lv_aload_n hx hb dX12_pressed_24 rfl (lv_at hl 1 rfl) ?_
    refine lv_iload_n hx hb dX12_pressed_25 rfl (lv_at hl 0 rfl) ?_
    refine z_putU C0 in_X12_pressed_X12 tyX12 tyX12_ok nmX12 (C := RX12) (T := TX12) (N := 27) hw hS (k := 0) (ci := 12) (v := (zsc S 0 14)) rfl rfl rfl rfl 14 (by decide) 1 rfl rfl rfl rfl (Nat.le_of_ble_eq_true rfl) rfl dX12_pressed_26 (fun H locs hw hS => ?_)
    refine lv_aload_n hx hb dX12_pressed_29 rfl (lv_at hl 1 rfl) ?_
    refine va_ldcS (q := F (200 + 0)) hx hb hown (hN.2.2.2.2.1 _ (List.mem_of_getElem? (i := 8) rfl)) dX12_pressed_30 ?_
    refine lv_aload_n hx hb dX12_pressed_32 rfl (lv_at hl 1 rfl) ?_
    refine z_getU C0 in_X12_pressed_X12 (C := RX12) (T := TX12) (N := 27) hw (k := 0) (ci := 12) (v := .int ((zsc ((zP ((zP S 0 14 (((zsc S 0 14) + 1)))) 0 14 ((zsc S 0 14)))) 0 3))) rfl rfl rfl rfl 3 (by decide) rfl 2 rfl (Or.inl rfl) dX12_pressed_33 ?_
    refine lv_bipush (v := 6) hx hb dX12_pressed_36 (by decide) ?_
    refine lv_icmp_ge (tgt := 45) hx hb dX12_pressed_38 (by decide) (fun c20 => ?_) (fun c20 => ?_)
    · replace h := z_ifp c20 h
      refine lv_iconst (v := 0) hx hb dX12_pressed_45 (by decide) ?_
      exact t_X12_pressed_B46 C0 res ((zP ((zP S 0 14 (((zsc S 0 14) + 1)))) 0 14 ((zsc S 0 14)))) 0 h _ _ _ hw hS (lv_sub hl [1] rfl)
    · replace h := z_ifn c20 h
      refine lv_iconst (v := 1) hx hb dX12_pressed_41 (by decide) ?_
      refine lv_goto (tgt := 46) hx hb dX12_pressed_42 (by decide) ?_
      exact t_X12_pressed_B46 C0 res ((zP ((zP S 0 14 (((zsc S 0 14) + 1)))) 0 14 ((zsc S 0 14)))) 1 h _ _ _ hw hS (lv_sub hl [1] rfl)
def M_X12_item_B214 (S : zSt) (y0 : Int32) (y1 : Int32) : Option (Int32 × zSt) :=
  Option.bind (M_X12_stands S y1 y0) (fun w10 => (if w10.1 = 0 then some (0, w10.2) else zg (zin 0 3) (zg (zin ((zar w10.2 11 (Int32.toNatClampNeg 0))) 6) (zg (zin ((zar w10.2 11 (Int32.toNatClampNeg 0))) 6) (some (1, (zAs w10.2 7 (Int32.toNatClampNeg ((zar w10.2 11 (Int32.toNatClampNeg 0)))) (((zar w10.2 7 (Int32.toNatClampNeg ((zar w10.2 11 (Int32.toNatClampNeg 0))))) + 1)))))))))
set_option maxHeartbeats 4000000 in
set_option maxRecDepth 100000 in
theorem t_X12_item_B214 {p : Program} {l : Launch} {e : Env} {s : State} {m : MethodId} {args : Array Value} {below : List Frame} {meth : Method} {c : Code} {D : va_G} {Y : Nat → ClassId} {F : Nat → Nat} {A : Nat → Prop} {G : zG} (C0 : zCx p s m args meth c D Y F A RX12 cX12_item 2 (some .boolean) wsX12_item) (res : Int32 × zSt) : ∀ (S : zSt) (y0 : Int32) (y1 : Int32), M_X12_item_B214 S y0 y1 = some res → ∀ (H : Heap) (locs : List Loc) (ls : Array Slot), zH D Y F A G S H → va_S A s.heap H locs → lv_has ls 2 [(0, .ref (F 0))] → W p l e (zRm 7 153) s m args below meth c H locs 0 0 (MQ below (zQi D Y F A G res) args s 0 0 A) (F0 m 214 ls [.int y0, .int y1, .ref (F 0)]) := by
  obtain ⟨hx, hb, hml, hr, hown, hts, hK, hA, hlk, hN⟩ := id C0
  intro S y0 y1 h H locs ls hw hS hl
  unfold M_X12_item_B214 at h
  obtain ⟨w10, ew10, h⟩ := z_bd h
  refine z_goi C0 hw hS (res := w10) (rest := []) (arr := (Value.ref (F 0) :: [.int y1, .int y0]).toArray) ?_ (fun H locs hw hS => ?_)
  · exact va_runV (z_fix C0) (c_X12_stands l D Y F G S _ y1 y0 w10 ew10) (cwV 2 hts gX12_item_X12_stands rfl rfl rfl (by decide +kernel) ⟨Nat.le_of_ble_eq_true rfl, Nat.le_of_ble_eq_true rfl⟩) ⟨zPc_blind, z_rv C0 hw (k := 0) rfl rfl rfl rfl, z_give C0 hw hS _⟩ rfl rfl hl.1 rfl (lv_room (Nat.le_of_ble_eq_true rfl)) dX12_item_214 ⟨Nat.zero_le _, Nat.zero_le _⟩
  refine lv_if_ne (tgt := 222) hx hb dX12_item_217 (by decide) (fun c11 => ?_) (fun c11 => ?_)
  · replace h := z_ifn c11 h
    refine lv_aload_n hx hb dX12_item_222 rfl (lv_at hl 0 rfl) ?_
    refine z_getU C0 in_X12_item_X12 (C := RX12) (T := TX12) (N := 27) hw (k := 0) (ci := 12) (v := .ref (F 7)) rfl rfl rfl rfl 7 (by decide) rfl 4 rfl (Or.inl rfl) dX12_item_223 ?_
    refine lv_aload_n hx hb dX12_item_226 rfl (lv_at hl 0 rfl) ?_
    refine z_getU C0 in_X12_item_X12 (C := RX12) (T := TX12) (N := 27) hw (k := 0) (ci := 12) (v := .ref (F 11)) rfl rfl rfl rfl 16 (by decide) rfl 3 rfl (Or.inl rfl) dX12_item_227 ?_
    refine lv_iconst (v := 0) hx hb dX12_item_230 (by decide) ?_
    obtain ⟨b12, h⟩ := z_gd h
    refine z_iald C0 hw 11 rfl rfl zri_11 (zin_in b12) dX12_item_231 ?_
    refine lv_dup2_11 hx hb dX12_item_232 rfl rfl ?_
    obtain ⟨b13, h⟩ := z_gd h
    refine z_iald C0 hw 7 rfl rfl zri_7 (zin_in b13) dX12_item_233 ?_
    refine lv_iconst (v := 1) hx hb dX12_item_234 (by decide) ?_
    refine lv_iadd hx hb dX12_item_235 ?_
    obtain ⟨b14, h⟩ := z_gd h
    refine z_iasts C0 hw hS 7 rfl rfl zri_7 (zin_in b14) dX12_item_236 (fun H locs hw hS => ?_)
    refine lv_iconst (v := 1) hx hb dX12_item_237 (by decide) ?_
    exact z_retz C0 hw hS rfl (Option.some.inj h) dX12_item_238
  · replace h := z_ifp c11 h
    refine lv_iconst (v := 0) hx hb dX12_item_220 (by decide) ?_
    exact z_retz C0 hw hS rfl (Option.some.inj h) dX12_item_221
def M_X12_item (S : zSt) : Option (Int32 × zSt) :=
  Option.bind (M_X12_sign S) (fun w1 => (if w1 = 100 then Option.bind (M_X12_word S 3) (fun w3 => (if w3.1 = 0 then some (0, w3.2) else Option.bind (M_X12_number w3.2 0 0 (((zsc w3.2 0 3) - 1))) (fun w5 => (if w5.1 = 0 then some (0, w5.2) else zg (zin 0 3) (zg (zin ((zar w5.2 11 (Int32.toNatClampNeg 0))) 6) ((if 6 ≤ (zar w5.2 7 (Int32.toNatClampNeg ((zar w5.2 11 (Int32.toNatClampNeg 0))))) then M_X12_item_B214 w5.2 0 (((zsc w3.2 0 14) + 1)) else M_X12_item_B214 w5.2 1 (((zsc w3.2 0 14) + 1))))))))) else (if w1 = 108 then Option.bind (M_X12_word S 4) (fun w16 => (if w16.1 = 0 then some (0, w16.2) else Option.bind (M_X12_number w16.2 0 1 99) (fun w18 => (if w18.1 = 0 then some (0, w18.2) else zg (zin 0 3) (some (1, (zP w18.2 0 11 ((zar w18.2 11 (Int32.toNatClampNeg 0)))))))))) else (if w1 = 112 then Option.bind (M_X12_pressed S) (fun w22 => zg (decide ((w22.1 &&& 1) = w22.1)) (some (w22.1, w22.2))) else (if w1 = 114 then Option.bind (M_X12_word S 2) (fun w25 => (if w25.1 = 0 then some (0, w25.2) else Option.bind (M_X12_number w25.2 0 0 (((zsc w25.2 0 3) - 1))) (fun w27 => (if w27.1 = 0 then some (0, w27.2) else Option.bind (M_X12_number w27.2 1 0 5) (fun w29 => (if w29.1 = 0 then some (0, w29.2) else zg (zin 0 3) (zg (zin 1 3) (Option.bind (M_X12_lives w29.2 ((zar w29.2 11 (Int32.toNatClampNeg 0))) ((zar w29.2 11 (Int32.toNatClampNeg 1)))) (fun w33 => Option.bind (M_X12_stands w29.2 (((zsc w27.2 0 14) + 1)) w33) (fun w34 => (if w34.1 = 0 then some (0, w34.2) else Option.bind (M_X12_number w34.2 2 0 7) (fun w36 => (if w36.1 = 0 then some (0, w36.2) else zg (zin 0 3) (zg (zin 1 3) (zg (zin 2 3) (Option.bind (M_X12_rubs w36.2 ((zar w36.2 11 (Int32.toNatClampNeg 0))) ((zar w36.2 11 (Int32.toNatClampNeg 1))) ((zar w36.2 11 (Int32.toNatClampNeg 2)))) (fun w41 => some (1, w41.2)))))))))))))))))) else some (0, S))))))
set_option maxHeartbeats 4000000 in
set_option maxRecDepth 100000 in
theorem c_X12_item (l : Launch) (D : va_G) (Y : Nat → ClassId) (F : Nat → Nat) (G : zG) (S : zSt) (sz : Nat) (res : Int32 × zSt) (h : M_X12_item S = some res) : Met l yX12_item wsX12_item (zRm 7 153) (zPc D Y F G S sz [.ref (F 0)]) (zQi D Y F (zAo F G sz) G res) 0 0 (zAo F G sz) := by
  unfold M_X12_item at h
  refine zMet (cc := cX12_item) (maxL := 2) (ret := (some .boolean)) (own := RX12) (by decide +kernel) rfl rfl (Nat.le_of_ble_eq_true rfl) ?_
  intro p e s m args below meth c C0 hin hw hS ls hl
  have hl : lv_has ls 2 [(0, .ref (F 0))] := hl
  generalize zAo F G sz = A at C0 hw hS ⊢
  obtain ⟨hx, hb, hml, hr, hown, hts, hK, hA, hlk, hN⟩ := id C0
  refine lv_aload_n hx hb dX12_item_0 rfl (lv_at hl 0 rfl) ?_
  obtain ⟨w1, ew1, h⟩ := z_bd h
  refine z_goi C0 hw hS (res := (w1, S)) (rest := []) (arr := (Value.ref (F 0) :: []).toArray) ?_ (fun H locs hw hS => ?_)
  · exact va_runV (z_fix C0) (c_X12_sign l D Y F G S _ w1 ew1) (cwV 0 hts gX12_item_X12_sign rfl rfl rfl (by decide +kernel) ⟨Nat.le_of_ble_eq_true rfl, Nat.le_of_ble_eq_true rfl⟩) ⟨zPc_blind, z_rv C0 hw (k := 0) rfl rfl rfl rfl, z_give C0 hw hS _⟩ rfl rfl hl.1 rfl (lv_room (Nat.le_of_ble_eq_true rfl)) dX12_item_1 ⟨Nat.zero_le _, Nat.zero_le _⟩
  by_cases c2 : w1 = 100
  · replace h := z_ifp c2 h
    refine z_top c2 ?_
    refine lv_lookup (off := 154) (tgt := 158) hx hb dX12_item_4 (by decide) (by decide) (by decide) ?_
    refine lv_aload_n hx hb dX12_item_158 rfl (lv_at hl 0 rfl) ?_
    refine va_ldcS (q := F (200 + 3)) hx hb hown (hN.2.2.2.2.1 _ (List.mem_of_getElem? (i := 6) rfl)) dX12_item_159 ?_
    obtain ⟨w3, ew3, h⟩ := z_bd h
    refine z_goi C0 hw hS (res := w3) (rest := []) (arr := (Value.ref (F 0) :: [.ref (F (200 + 3))]).toArray) ?_ (fun H locs hw hS => ?_)
    · exact va_runV (z_fix C0) (c_X12_word l D Y F G S _ 3 (by decide) w3 ew3) (cwV 1 hts gX12_item_X12_word rfl rfl rfl (by decide +kernel) ⟨Nat.le_of_ble_eq_true rfl, Nat.le_of_ble_eq_true rfl⟩) ⟨zPc_blind, z_rv C0 hw (k := 0) rfl rfl rfl rfl, z_give C0 hw hS _⟩ rfl rfl hl.1 rfl (lv_room (Nat.le_of_ble_eq_true rfl)) dX12_item_161 ⟨Nat.zero_le _, Nat.zero_le _⟩
    refine lv_if_ne (tgt := 169) hx hb dX12_item_164 (by decide) (fun c4 => ?_) (fun c4 => ?_)
    · replace h := z_ifn c4 h
      refine lv_aload_n hx hb dX12_item_169 rfl (lv_at hl 0 rfl) ?_
      refine z_getU C0 in_X12_item_X12 (C := RX12) (T := TX12) (N := 27) hw (k := 0) (ci := 12) (v := .int ((zsc w3.2 0 14))) rfl rfl rfl rfl 14 (by decide) rfl 2 rfl (Or.inl rfl) dX12_item_170 ?_
      refine lv_iconst (v := 1) hx hb dX12_item_173 (by decide) ?_
      refine lv_iadd hx hb dX12_item_174 ?_
      refine lv_istore_n (lv' := [(1, .int (((zsc w3.2 0 14) + 1))), (0, .ref (F 0))]) hx hb dX12_item_175 rfl hl (by decide) rfl (fun ls hl => ?_)
      refine lv_aload_n hx hb dX12_item_176 rfl (lv_at hl 1 rfl) ?_
      refine lv_iconst (v := 0) hx hb dX12_item_177 (by decide) ?_
      refine lv_iconst (v := 0) hx hb dX12_item_178 (by decide) ?_
      refine lv_aload_n hx hb dX12_item_179 rfl (lv_at hl 1 rfl) ?_
      refine z_getU C0 in_X12_item_X12 (C := RX12) (T := TX12) (N := 27) hw (k := 0) (ci := 12) (v := .int ((zsc w3.2 0 3))) rfl rfl rfl rfl 3 (by decide) rfl 1 rfl (Or.inl rfl) dX12_item_180 ?_
      refine lv_iconst (v := 1) hx hb dX12_item_183 (by decide) ?_
      refine lv_isub hx hb dX12_item_184 ?_
      obtain ⟨w5, ew5, h⟩ := z_bd h
      refine z_goi C0 hw hS (res := w5) (rest := []) (arr := (Value.ref (F 0) :: [.int 0, .int 0, .int (((zsc w3.2 0 3) - 1))]).toArray) ?_ (fun H locs hw hS => ?_)
      · exact va_runV (z_fix C0) (c_X12_number l D Y F G w3.2 _ 0 0 (((zsc w3.2 0 3) - 1)) w5 ew5) (cwV 3 hts gX12_item_X12_number rfl rfl rfl (by decide +kernel) ⟨Nat.le_of_ble_eq_true rfl, Nat.le_of_ble_eq_true rfl⟩) ⟨zPc_blind, z_rv C0 hw (k := 0) rfl rfl rfl rfl, z_give C0 hw hS _⟩ rfl rfl hl.1 rfl (lv_room (Nat.le_of_ble_eq_true rfl)) dX12_item_185 ⟨Nat.zero_le _, Nat.zero_le _⟩
      refine lv_if_eq (tgt := 220) hx hb dX12_item_188 (by decide) (fun c6 => ?_) (fun c6 => ?_)
      · replace h := z_ifp c6 h
        refine lv_iconst (v := 0) hx hb dX12_item_220 (by decide) ?_
        exact z_retz C0 hw hS rfl (Option.some.inj h) dX12_item_221
      · replace h := z_ifn c6 h
        refine lv_aload_n hx hb dX12_item_191 rfl (lv_at hl 1 rfl) ?_
        refine lv_iload_n hx hb dX12_item_192 rfl (lv_at hl 0 rfl) ?_
        refine lv_aload_n hx hb dX12_item_193 rfl (lv_at hl 1 rfl) ?_
        refine z_getU C0 in_X12_item_X12 (C := RX12) (T := TX12) (N := 27) hw (k := 0) (ci := 12) (v := .ref (F 7)) rfl rfl rfl rfl 7 (by decide) rfl 4 rfl (Or.inl rfl) dX12_item_194 ?_
        refine lv_aload_n hx hb dX12_item_197 rfl (lv_at hl 1 rfl) ?_
        refine z_getU C0 in_X12_item_X12 (C := RX12) (T := TX12) (N := 27) hw (k := 0) (ci := 12) (v := .ref (F 11)) rfl rfl rfl rfl 16 (by decide) rfl 3 rfl (Or.inl rfl) dX12_item_198 ?_
        refine lv_iconst (v := 0) hx hb dX12_item_201 (by decide) ?_
        obtain ⟨b7, h⟩ := z_gd h
        refine z_iald C0 hw 11 rfl rfl zri_11 (zin_in b7) dX12_item_202 ?_
        obtain ⟨b8, h⟩ := z_gd h
        refine z_iald C0 hw 7 rfl rfl zri_7 (zin_in b8) dX12_item_203 ?_
        refine lv_bipush (v := 6) hx hb dX12_item_204 (by decide) ?_
        refine lv_icmp_ge (tgt := 213) hx hb dX12_item_206 (by decide) (fun c9 => ?_) (fun c9 => ?_)
        · replace h := z_ifp c9 h
          refine lv_iconst (v := 0) hx hb dX12_item_213 (by decide) ?_
          exact t_X12_item_B214 C0 res w5.2 0 (((zsc w3.2 0 14) + 1)) h _ _ _ hw hS (lv_sub hl [1] rfl)
        · replace h := z_ifn c9 h
          refine lv_iconst (v := 1) hx hb dX12_item_209 (by decide) ?_
          refine lv_goto (tgt := 214) hx hb dX12_item_210 (by decide) ?_
          exact t_X12_item_B214 C0 res w5.2 1 (((zsc w3.2 0 14) + 1)) h _ _ _ hw hS (lv_sub hl [1] rfl)
    · replace h := z_ifp c4 h
      refine lv_iconst (v := 0) hx hb dX12_item_167 (by decide) ?_
      exact z_retz C0 hw hS rfl (Option.some.inj h) dX12_item_168
  · replace h := z_ifn c2 h
    by_cases c15 : w1 = 108
    · replace h := z_ifp c15 h
      refine z_top c15 ?_
      refine lv_lookup (off := 235) (tgt := 239) hx hb dX12_item_4 (by decide) (by decide) (by decide) ?_
      refine lv_aload_n hx hb dX12_item_239 rfl (lv_at hl 0 rfl) ?_
      refine va_ldcS (q := F (200 + 4)) hx hb hown (hN.2.2.2.2.1 _ (List.mem_of_getElem? (i := 7) rfl)) dX12_item_240 ?_
      obtain ⟨w16, ew16, h⟩ := z_bd h
      refine z_goi C0 hw hS (res := w16) (rest := []) (arr := (Value.ref (F 0) :: [.ref (F (200 + 4))]).toArray) ?_ (fun H locs hw hS => ?_)
      · exact va_runV (z_fix C0) (c_X12_word l D Y F G S _ 4 (by decide) w16 ew16) (cwV 1 hts gX12_item_X12_word rfl rfl rfl (by decide +kernel) ⟨Nat.le_of_ble_eq_true rfl, Nat.le_of_ble_eq_true rfl⟩) ⟨zPc_blind, z_rv C0 hw (k := 0) rfl rfl rfl rfl, z_give C0 hw hS _⟩ rfl rfl hl.1 rfl (lv_room (Nat.le_of_ble_eq_true rfl)) dX12_item_242 ⟨Nat.zero_le _, Nat.zero_le _⟩
      refine lv_if_eq (tgt := 259) hx hb dX12_item_245 (by decide) (fun c17 => ?_) (fun c17 => ?_)
      · replace h := z_ifp c17 h
        refine lv_iconst (v := 0) hx hb dX12_item_259 (by decide) ?_
        exact z_retz C0 hw hS rfl (Option.some.inj h) dX12_item_260
      · replace h := z_ifn c17 h
        refine lv_aload_n hx hb dX12_item_248 rfl (lv_at hl 0 rfl) ?_
        refine lv_iconst (v := 0) hx hb dX12_item_249 (by decide) ?_
        refine lv_iconst (v := 1) hx hb dX12_item_250 (by decide) ?_
        refine lv_bipush (v := 99) hx hb dX12_item_251 (by decide) ?_
        obtain ⟨w18, ew18, h⟩ := z_bd h
        refine z_goi C0 hw hS (res := w18) (rest := []) (arr := (Value.ref (F 0) :: [.int 0, .int 1, .int 99]).toArray) ?_ (fun H locs hw hS => ?_)
        · exact va_runV (z_fix C0) (c_X12_number l D Y F G w16.2 _ 0 1 99 w18 ew18) (cwV 3 hts gX12_item_X12_number rfl rfl rfl (by decide +kernel) ⟨Nat.le_of_ble_eq_true rfl, Nat.le_of_ble_eq_true rfl⟩) ⟨zPc_blind, z_rv C0 hw (k := 0) rfl rfl rfl rfl, z_give C0 hw hS _⟩ rfl rfl hl.1 rfl (lv_room (Nat.le_of_ble_eq_true rfl)) dX12_item_253 ⟨Nat.zero_le _, Nat.zero_le _⟩
        refine lv_if_ne (tgt := 261) hx hb dX12_item_256 (by decide) (fun c19 => ?_) (fun c19 => ?_)
        · replace h := z_ifn c19 h
          refine lv_aload_n hx hb dX12_item_261 rfl (lv_at hl 0 rfl) ?_
          refine lv_aload_n hx hb dX12_item_262 rfl (lv_at hl 0 rfl) ?_
          refine z_getU C0 in_X12_item_X12 (C := RX12) (T := TX12) (N := 27) hw (k := 0) (ci := 12) (v := .ref (F 11)) rfl rfl rfl rfl 16 (by decide) rfl 3 rfl (Or.inl rfl) dX12_item_263 ?_
          refine lv_iconst (v := 0) hx hb dX12_item_266 (by decide) ?_
          obtain ⟨b20, h⟩ := z_gd h
          refine z_iald C0 hw 11 rfl rfl zri_11 (zin_in b20) dX12_item_267 ?_
          refine z_putU C0 in_X12_item_X12 tyX12 tyX12_ok nmX12 (C := RX12) (T := TX12) (N := 27) hw hS (k := 0) (ci := 12) (v := (zar w18.2 11 (Int32.toNatClampNeg 0))) rfl rfl rfl rfl 11 (by decide) 5 rfl rfl rfl rfl (Nat.le_of_ble_eq_true rfl) rfl dX12_item_268 (fun H locs hw hS => ?_)
          refine lv_iconst (v := 1) hx hb dX12_item_271 (by decide) ?_
          exact z_retz C0 hw hS rfl (Option.some.inj h) dX12_item_272
        · replace h := z_ifp c19 h
          refine lv_iconst (v := 0) hx hb dX12_item_259 (by decide) ?_
          exact z_retz C0 hw hS rfl (Option.some.inj h) dX12_item_260
    · replace h := z_ifn c15 h
      by_cases c21 : w1 = 112
      · replace h := z_ifp c21 h
        refine z_top c21 ?_
        refine lv_lookup (off := 44) (tgt := 48) hx hb dX12_item_4 (by decide) (by decide) (by decide) ?_
        refine lv_aload_n hx hb dX12_item_48 rfl (lv_at hl 0 rfl) ?_
        obtain ⟨w22, ew22, h⟩ := z_bd h
        refine z_goi C0 hw hS (res := w22) (rest := []) (arr := (Value.ref (F 0) :: []).toArray) ?_ (fun H locs hw hS => ?_)
        · exact va_runV (z_fix C0) (c_X12_pressed l D Y F G S _ w22 ew22) (cwV 0 hts gX12_item_X12_pressed rfl rfl rfl (by decide +kernel) ⟨Nat.le_of_ble_eq_true rfl, Nat.le_of_ble_eq_true rfl⟩) ⟨zPc_blind, z_rv C0 hw (k := 0) rfl rfl rfl rfl, z_give C0 hw hS _⟩ rfl rfl hl.1 rfl (lv_room (Nat.le_of_ble_eq_true rfl)) dX12_item_49 ⟨Nat.zero_le _, Nat.zero_le _⟩
        obtain ⟨b23, h⟩ := z_gd h
        exact z_retz C0 hw hS (congrArg Value.int (of_decide_eq_true b23)) (Option.some.inj h) dX12_item_52
      · replace h := z_ifn c21 h
        by_cases c24 : w1 = 114
        · replace h := z_ifp c24 h
          refine z_top c24 ?_
          refine lv_lookup (off := 49) (tgt := 53) hx hb dX12_item_4 (by decide) (by decide) (by decide) ?_
          refine lv_aload_n hx hb dX12_item_53 rfl (lv_at hl 0 rfl) ?_
          refine va_ldcS (q := F (200 + 2)) hx hb hown (hN.2.2.2.2.1 _ (List.mem_of_getElem? (i := 5) rfl)) dX12_item_54 ?_
          obtain ⟨w25, ew25, h⟩ := z_bd h
          refine z_goi C0 hw hS (res := w25) (rest := []) (arr := (Value.ref (F 0) :: [.ref (F (200 + 2))]).toArray) ?_ (fun H locs hw hS => ?_)
          · exact va_runV (z_fix C0) (c_X12_word l D Y F G S _ 2 (by decide) w25 ew25) (cwV 1 hts gX12_item_X12_word rfl rfl rfl (by decide +kernel) ⟨Nat.le_of_ble_eq_true rfl, Nat.le_of_ble_eq_true rfl⟩) ⟨zPc_blind, z_rv C0 hw (k := 0) rfl rfl rfl rfl, z_give C0 hw hS _⟩ rfl rfl hl.1 rfl (lv_room (Nat.le_of_ble_eq_true rfl)) dX12_item_56 ⟨Nat.zero_le _, Nat.zero_le _⟩
          refine lv_if_eq (tgt := 77) hx hb dX12_item_59 (by decide) (fun c26 => ?_) (fun c26 => ?_)
          · replace h := z_ifp c26 h
            refine lv_iconst (v := 0) hx hb dX12_item_77 (by decide) ?_
            exact z_retz C0 hw hS rfl (Option.some.inj h) dX12_item_78
          · replace h := z_ifn c26 h
            refine lv_aload_n hx hb dX12_item_62 rfl (lv_at hl 0 rfl) ?_
            refine lv_iconst (v := 0) hx hb dX12_item_63 (by decide) ?_
            refine lv_iconst (v := 0) hx hb dX12_item_64 (by decide) ?_
            refine lv_aload_n hx hb dX12_item_65 rfl (lv_at hl 0 rfl) ?_
            refine z_getU C0 in_X12_item_X12 (C := RX12) (T := TX12) (N := 27) hw (k := 0) (ci := 12) (v := .int ((zsc w25.2 0 3))) rfl rfl rfl rfl 3 (by decide) rfl 1 rfl (Or.inl rfl) dX12_item_66 ?_
            refine lv_iconst (v := 1) hx hb dX12_item_69 (by decide) ?_
            refine lv_isub hx hb dX12_item_70 ?_
            obtain ⟨w27, ew27, h⟩ := z_bd h
            refine z_goi C0 hw hS (res := w27) (rest := []) (arr := (Value.ref (F 0) :: [.int 0, .int 0, .int (((zsc w25.2 0 3) - 1))]).toArray) ?_ (fun H locs hw hS => ?_)
            · exact va_runV (z_fix C0) (c_X12_number l D Y F G w25.2 _ 0 0 (((zsc w25.2 0 3) - 1)) w27 ew27) (cwV 3 hts gX12_item_X12_number rfl rfl rfl (by decide +kernel) ⟨Nat.le_of_ble_eq_true rfl, Nat.le_of_ble_eq_true rfl⟩) ⟨zPc_blind, z_rv C0 hw (k := 0) rfl rfl rfl rfl, z_give C0 hw hS _⟩ rfl rfl hl.1 rfl (lv_room (Nat.le_of_ble_eq_true rfl)) dX12_item_71 ⟨Nat.zero_le _, Nat.zero_le _⟩
            refine lv_if_ne (tgt := 79) hx hb dX12_item_74 (by decide) (fun c28 => ?_) (fun c28 => ?_)
            · replace h := z_ifn c28 h
              refine lv_aload_n hx hb dX12_item_79 rfl (lv_at hl 0 rfl) ?_
              refine z_getU C0 in_X12_item_X12 (C := RX12) (T := TX12) (N := 27) hw (k := 0) (ci := 12) (v := .int ((zsc w27.2 0 14))) rfl rfl rfl rfl 14 (by decide) rfl 2 rfl (Or.inl rfl) dX12_item_80 ?_
              refine lv_iconst (v := 1) hx hb dX12_item_83 (by decide) ?_
              refine lv_iadd hx hb dX12_item_84 ?_
              refine lv_istore_n (lv' := [(1, .int (((zsc w27.2 0 14) + 1))), (0, .ref (F 0))]) hx hb dX12_item_85 rfl hl (by decide) rfl (fun ls hl => ?_)
              refine lv_aload_n hx hb dX12_item_86 rfl (lv_at hl 1 rfl) ?_
              refine lv_iconst (v := 1) hx hb dX12_item_87 (by decide) ?_
              refine lv_iconst (v := 0) hx hb dX12_item_88 (by decide) ?_
              refine lv_iconst (v := 5) hx hb dX12_item_89 (by decide) ?_
              obtain ⟨w29, ew29, h⟩ := z_bd h
              refine z_goi C0 hw hS (res := w29) (rest := []) (arr := (Value.ref (F 0) :: [.int 1, .int 0, .int 5]).toArray) ?_ (fun H locs hw hS => ?_)
              · exact va_runV (z_fix C0) (c_X12_number l D Y F G w27.2 _ 1 0 5 w29 ew29) (cwV 3 hts gX12_item_X12_number rfl rfl rfl (by decide +kernel) ⟨Nat.le_of_ble_eq_true rfl, Nat.le_of_ble_eq_true rfl⟩) ⟨zPc_blind, z_rv C0 hw (k := 0) rfl rfl rfl rfl, z_give C0 hw hS _⟩ rfl rfl hl.1 rfl (lv_room (Nat.le_of_ble_eq_true rfl)) dX12_item_90 ⟨Nat.zero_le _, Nat.zero_le _⟩
              refine lv_if_eq (tgt := 131) hx hb dX12_item_93 (by decide) (fun c30 => ?_) (fun c30 => ?_)
              · replace h := z_ifp c30 h
                refine lv_iconst (v := 0) hx hb dX12_item_131 (by decide) ?_
                exact z_retz C0 hw hS rfl (Option.some.inj h) dX12_item_132
              · replace h := z_ifn c30 h
                refine lv_aload_n hx hb dX12_item_96 rfl (lv_at hl 1 rfl) ?_
                refine lv_iload_n hx hb dX12_item_97 rfl (lv_at hl 0 rfl) ?_
                refine lv_aload_n hx hb dX12_item_98 rfl (lv_at hl 1 rfl) ?_
                refine lv_aload_n hx hb dX12_item_99 rfl (lv_at hl 1 rfl) ?_
                refine z_getU C0 in_X12_item_X12 (C := RX12) (T := TX12) (N := 27) hw (k := 0) (ci := 12) (v := .ref (F 11)) rfl rfl rfl rfl 16 (by decide) rfl 3 rfl (Or.inl rfl) dX12_item_100 ?_
                refine lv_iconst (v := 0) hx hb dX12_item_103 (by decide) ?_
                obtain ⟨b31, h⟩ := z_gd h
                refine z_iald C0 hw 11 rfl rfl zri_11 (zin_in b31) dX12_item_104 ?_
                refine lv_aload_n hx hb dX12_item_105 rfl (lv_at hl 1 rfl) ?_
                refine z_getU C0 in_X12_item_X12 (C := RX12) (T := TX12) (N := 27) hw (k := 0) (ci := 12) (v := .ref (F 11)) rfl rfl rfl rfl 16 (by decide) rfl 3 rfl (Or.inl rfl) dX12_item_106 ?_
                refine lv_iconst (v := 1) hx hb dX12_item_109 (by decide) ?_
                obtain ⟨b32, h⟩ := z_gd h
                refine z_iald C0 hw 11 rfl rfl zri_11 (zin_in b32) dX12_item_110 ?_
                obtain ⟨w33, ew33, h⟩ := z_bd h
                refine z_goi C0 hw hS (res := (w33, w29.2)) (rest := [.int (((zsc w27.2 0 14) + 1)), .ref (F 0)]) (arr := (Value.ref (F 0) :: [.int ((zar w29.2 11 (Int32.toNatClampNeg 0))), .int ((zar w29.2 11 (Int32.toNatClampNeg 1)))]).toArray) ?_ (fun H locs hw hS => ?_)
                · exact va_runV (z_fix C0) (c_X12_lives l D Y F G w29.2 _ ((zar w29.2 11 (Int32.toNatClampNeg 0))) ((zar w29.2 11 (Int32.toNatClampNeg 1))) w33 ew33) (cwV 2 hts gX12_item_X12_lives rfl rfl rfl (by decide +kernel) ⟨Nat.le_of_ble_eq_true rfl, Nat.le_of_ble_eq_true rfl⟩) ⟨zPc_blind, z_rv C0 hw (k := 0) rfl rfl rfl rfl, z_give C0 hw hS _⟩ rfl rfl hl.1 rfl (lv_room (Nat.le_of_ble_eq_true rfl)) dX12_item_111 ⟨Nat.zero_le _, Nat.zero_le _⟩
                obtain ⟨w34, ew34, h⟩ := z_bd h
                refine z_goi C0 hw hS (res := w34) (rest := []) (arr := (Value.ref (F 0) :: [.int (((zsc w27.2 0 14) + 1)), .int w33]).toArray) ?_ (fun H locs hw hS => ?_)
                · exact va_runV (z_fix C0) (c_X12_stands l D Y F G w29.2 _ (((zsc w27.2 0 14) + 1)) w33 w34 ew34) (cwV 2 hts gX12_item_X12_stands rfl rfl rfl (by decide +kernel) ⟨Nat.le_of_ble_eq_true rfl, Nat.le_of_ble_eq_true rfl⟩) ⟨zPc_blind, z_rv C0 hw (k := 0) rfl rfl rfl rfl, z_give C0 hw hS _⟩ rfl rfl hl.1 rfl (lv_room (Nat.le_of_ble_eq_true rfl)) dX12_item_114 ⟨Nat.zero_le _, Nat.zero_le _⟩
                refine lv_if_eq (tgt := 131) hx hb dX12_item_117 (by decide) (fun c35 => ?_) (fun c35 => ?_)
                · replace h := z_ifp c35 h
                  refine lv_iconst (v := 0) hx hb dX12_item_131 (by decide) ?_
                  exact z_retz C0 hw hS rfl (Option.some.inj h) dX12_item_132
                · replace h := z_ifn c35 h
                  refine lv_aload_n hx hb dX12_item_120 rfl (lv_at hl 1 rfl) ?_
                  refine lv_iconst (v := 2) hx hb dX12_item_121 (by decide) ?_
                  refine lv_iconst (v := 0) hx hb dX12_item_122 (by decide) ?_
                  refine lv_bipush (v := 7) hx hb dX12_item_123 (by decide) ?_
                  obtain ⟨w36, ew36, h⟩ := z_bd h
                  refine z_goi C0 hw hS (res := w36) (rest := []) (arr := (Value.ref (F 0) :: [.int 2, .int 0, .int 7]).toArray) ?_ (fun H locs hw hS => ?_)
                  · exact va_runV (z_fix C0) (c_X12_number l D Y F G w34.2 _ 2 0 7 w36 ew36) (cwV 3 hts gX12_item_X12_number rfl rfl rfl (by decide +kernel) ⟨Nat.le_of_ble_eq_true rfl, Nat.le_of_ble_eq_true rfl⟩) ⟨zPc_blind, z_rv C0 hw (k := 0) rfl rfl rfl rfl, z_give C0 hw hS _⟩ rfl rfl hl.1 rfl (lv_room (Nat.le_of_ble_eq_true rfl)) dX12_item_125 ⟨Nat.zero_le _, Nat.zero_le _⟩
                  refine lv_if_ne (tgt := 133) hx hb dX12_item_128 (by decide) (fun c37 => ?_) (fun c37 => ?_)
                  · replace h := z_ifn c37 h
                    refine lv_aload_n hx hb dX12_item_133 rfl (lv_at hl 1 rfl) ?_
                    refine lv_aload_n hx hb dX12_item_134 rfl (lv_at hl 1 rfl) ?_
                    refine z_getU C0 in_X12_item_X12 (C := RX12) (T := TX12) (N := 27) hw (k := 0) (ci := 12) (v := .ref (F 11)) rfl rfl rfl rfl 16 (by decide) rfl 3 rfl (Or.inl rfl) dX12_item_135 ?_
                    refine lv_iconst (v := 0) hx hb dX12_item_138 (by decide) ?_
                    obtain ⟨b38, h⟩ := z_gd h
                    refine z_iald C0 hw 11 rfl rfl zri_11 (zin_in b38) dX12_item_139 ?_
                    refine lv_aload_n hx hb dX12_item_140 rfl (lv_at hl 1 rfl) ?_
                    refine z_getU C0 in_X12_item_X12 (C := RX12) (T := TX12) (N := 27) hw (k := 0) (ci := 12) (v := .ref (F 11)) rfl rfl rfl rfl 16 (by decide) rfl 3 rfl (Or.inl rfl) dX12_item_141 ?_
                    refine lv_iconst (v := 1) hx hb dX12_item_144 (by decide) ?_
                    obtain ⟨b39, h⟩ := z_gd h
                    refine z_iald C0 hw 11 rfl rfl zri_11 (zin_in b39) dX12_item_145 ?_
                    refine lv_aload_n hx hb dX12_item_146 rfl (lv_at hl 1 rfl) ?_
                    refine z_getU C0 in_X12_item_X12 (C := RX12) (T := TX12) (N := 27) hw (k := 0) (ci := 12) (v := .ref (F 11)) rfl rfl rfl rfl 16 (by decide) rfl 3 rfl (Or.inl rfl) dX12_item_147 ?_
                    refine lv_iconst (v := 2) hx hb dX12_item_150 (by decide) ?_
                    obtain ⟨b40, h⟩ := z_gd h
                    refine z_iald C0 hw 11 rfl rfl zri_11 (zin_in b40) dX12_item_151 ?_
                    obtain ⟨w41, ew41, h⟩ := z_bd h
                    refine z_goi C0 hw hS (res := w41) (rest := []) (arr := (Value.ref (F 0) :: [.int ((zar w36.2 11 (Int32.toNatClampNeg 0))), .int ((zar w36.2 11 (Int32.toNatClampNeg 1))), .int ((zar w36.2 11 (Int32.toNatClampNeg 2)))]).toArray) ?_ (fun H locs hw hS => ?_)
                    · exact va_runV (z_fix C0) (c_X12_rubs l D Y F G w36.2 _ ((zar w36.2 11 (Int32.toNatClampNeg 0))) ((zar w36.2 11 (Int32.toNatClampNeg 1))) ((zar w36.2 11 (Int32.toNatClampNeg 2))) w41 ew41) (cwV 3 hts gX12_item_X12_rubs rfl rfl rfl (by decide +kernel) ⟨Nat.le_of_ble_eq_true rfl, Nat.le_of_ble_eq_true rfl⟩) ⟨zPc_blind, z_rv C0 hw (k := 0) rfl rfl rfl rfl, z_give C0 hw hS _⟩ rfl rfl hl.1 rfl (lv_room (Nat.le_of_ble_eq_true rfl)) dX12_item_152 ⟨Nat.zero_le _, Nat.zero_le _⟩
                    refine lv_pop hx hb dX12_item_155 rfl ?_
                    refine lv_iconst (v := 1) hx hb dX12_item_156 (by decide) ?_
                    exact z_retz C0 hw hS rfl (Option.some.inj h) dX12_item_157
                  · replace h := z_ifp c37 h
                    refine lv_iconst (v := 0) hx hb dX12_item_131 (by decide) ?_
                    exact z_retz C0 hw hS rfl (Option.some.inj h) dX12_item_132
            · replace h := z_ifp c28 h
              refine lv_iconst (v := 0) hx hb dX12_item_77 (by decide) ?_
              exact z_retz C0 hw hS rfl (Option.some.inj h) dX12_item_78
        · replace h := z_ifn c24 h
          have nc2 : Int32.toInt w1 ≠ 100 := fun q => c2 (Int32.toInt_inj.mp (q.trans (by decide)))
          have nc15 : Int32.toInt w1 ≠ 108 := fun q => c15 (Int32.toInt_inj.mp (q.trans (by decide)))
          have nc21 : Int32.toInt w1 ≠ 112 := fun q => c21 (Int32.toInt_inj.mp (q.trans (by decide)))
          have nc24 : Int32.toInt w1 ≠ 114 := fun q => c24 (Int32.toInt_inj.mp (q.trans (by decide)))
          refine lv_lookup (off := 269) (tgt := 273) hx hb dX12_item_4 (by decide) (by simp [Op.lookupswitch.offset, nc2, Ne.symm nc2, nc15, Ne.symm nc15, nc21, Ne.symm nc21, nc24, Ne.symm nc24]) (by decide) ?_
          refine lv_iconst (v := 0) hx hb dX12_item_273 (by decide) ?_
          exact z_retz C0 hw hS rfl (Option.some.inj h) dX12_item_274
def M_X12_land_B83 (K39 : zSt → Int32 → Int32 → Int32 → Option (Int32 × zSt)) (S : zSt) (x1 : Int32) (x3 : Int32) (x4 : Int32) : Option (Int32 × zSt) :=
  (if x4 = 0 then K39 S x1 x3 x4 else Option.bind (M_X12_is S 59) (fun w11 => K39 w11.2 x1 x3 w11.1))
set_option maxHeartbeats 4000000 in
set_option maxRecDepth 100000 in
theorem t_X12_land_B83 {p : Program} {l : Launch} {e : Env} {s : State} {m : MethodId} {args : Array Value} {below : List Frame} {meth : Method} {c : Code} {D : va_G} {Y : Nat → ClassId} {F : Nat → Nat} {A : Nat → Prop} {G : zG} (C0 : zCx p s m args meth c D Y F A RX12 cX12_land 5 (some .int) wsX12_land) (res : Int32 × zSt) (K39 : zSt → Int32 → Int32 → Int32 → Option (Int32 × zSt)) (hK39 : ∀ (S : zSt) (x1 : Int32) (x3 : Int32) (x4 : Int32), K39 S x1 x3 x4 = some res → ∀ (H : Heap) (locs : List Loc) (ls : Array Slot), zH D Y F A G S H → va_S A s.heap H locs → lv_has ls 5 [(0, .ref (F 0)), (1, .int x1), (3, .int x3), (4, .int x4)] → W p l e (zRm 8 174) s m args below meth c H locs 0 0 (MQ below (zQi D Y F A G res) args s 0 0 A) (F0 m 39 ls [])) : ∀ (S : zSt) (x1 : Int32) (x3 : Int32) (x4 : Int32), M_X12_land_B83 K39 S x1 x3 x4 = some res → ∀ (H : Heap) (locs : List Loc) (ls : Array Slot), zH D Y F A G S H → va_S A s.heap H locs → lv_has ls 5 [(0, .ref (F 0)), (1, .int x1), (3, .int x3), (4, .int x4)] → W p l e (zRm 8 174) s m args below meth c H locs 0 0 (MQ below (zQi D Y F A G res) args s 0 0 A) (F0 m 83 ls []) := by
  obtain ⟨hx, hb, hml, hr, hown, hts, hK, hA, hlk, hN⟩ := id C0
  intro S x1 x3 x4 h H locs ls hw hS hl
  unfold M_X12_land_B83 at h
  refine lv_iload hx hb dX12_land_83 (lv_at hl 3 rfl) ?_
  refine lv_if_eq (tgt := 39) hx hb dX12_land_85 (by decide) (fun c10 => ?_) (fun c10 => ?_)
  · replace h := z_ifp c10 h
    exact hK39 S x1 x3 x4 h _ _ _ hw hS (lv_sub hl [0, 1, 2, 3] rfl)
  · replace h := z_ifn c10 h
    refine lv_aload_n hx hb dX12_land_88 rfl (lv_at hl 0 rfl) ?_
    refine lv_bipush (v := 59) hx hb dX12_land_89 (by decide) ?_
    obtain ⟨w11, ew11, h⟩ := z_bd h
    refine z_goi C0 hw hS (res := w11) (rest := []) (arr := (Value.ref (F 0) :: [.int 59]).toArray) ?_ (fun H locs hw hS => ?_)
    · exact va_runV (z_fix C0) (c_X12_is l D Y F G S _ 59 w11 ew11) (cwV 1 hts gX12_land_X12_is rfl rfl rfl (by decide +kernel) ⟨Nat.le_of_ble_eq_true rfl, Nat.le_of_ble_eq_true rfl⟩) ⟨zPc_blind, z_rv C0 hw (k := 0) rfl rfl rfl rfl, z_give C0 hw hS _⟩ rfl rfl hl.1 rfl (lv_room (Nat.le_of_ble_eq_true rfl)) dX12_land_91 ⟨Nat.zero_le _, Nat.zero_le _⟩
    refine lv_istore (lv' := [(4, .int w11.1), (0, .ref (F 0)), (1, .int x1), (3, .int x3)]) hx hb dX12_land_94 hl (by decide) rfl (fun ls hl => ?_)
    refine lv_goto (tgt := 39) hx hb dX12_land_96 (by decide) ?_
    exact hK39 w11.2 x1 x3 w11.1 h _ _ _ hw hS (lv_sub hl [1, 2, 3, 0] rfl)
def M_X12_land_B58 (K39 : zSt → Int32 → Int32 → Int32 → Option (Int32 × zSt)) (S : zSt) (x1 : Int32) (x3 : Int32) (x4 : Int32) : Option (Int32 × zSt) :=
  (if x4 = 0 then M_X12_land_B83 K39 S x1 x3 x4 else zg (zin x1 8) ((if (zsc S 0 14) = (zar S 2 (Int32.toNatClampNeg x1)) then some (x3, (zP S 0 15 (-1))) else M_X12_land_B83 K39 S x1 x3 x4)))
set_option maxHeartbeats 4000000 in
set_option maxRecDepth 100000 in
theorem t_X12_land_B58 {p : Program} {l : Launch} {e : Env} {s : State} {m : MethodId} {args : Array Value} {below : List Frame} {meth : Method} {c : Code} {D : va_G} {Y : Nat → ClassId} {F : Nat → Nat} {A : Nat → Prop} {G : zG} (C0 : zCx p s m args meth c D Y F A RX12 cX12_land 5 (some .int) wsX12_land) (res : Int32 × zSt) (K39 : zSt → Int32 → Int32 → Int32 → Option (Int32 × zSt)) (hK39 : ∀ (S : zSt) (x1 : Int32) (x3 : Int32) (x4 : Int32), K39 S x1 x3 x4 = some res → ∀ (H : Heap) (locs : List Loc) (ls : Array Slot), zH D Y F A G S H → va_S A s.heap H locs → lv_has ls 5 [(0, .ref (F 0)), (1, .int x1), (3, .int x3), (4, .int x4)] → W p l e (zRm 8 174) s m args below meth c H locs 0 0 (MQ below (zQi D Y F A G res) args s 0 0 A) (F0 m 39 ls [])) : ∀ (S : zSt) (x1 : Int32) (x3 : Int32) (x4 : Int32), M_X12_land_B58 K39 S x1 x3 x4 = some res → ∀ (H : Heap) (locs : List Loc) (ls : Array Slot), zH D Y F A G S H → va_S A s.heap H locs → lv_has ls 5 [(0, .ref (F 0)), (1, .int x1), (3, .int x3), (4, .int x4)] → W p l e (zRm 8 174) s m args below meth c H locs 0 0 (MQ below (zQi D Y F A G res) args s 0 0 A) (F0 m 58 ls []) := by
  obtain ⟨hx, hb, hml, hr, hown, hts, hK, hA, hlk, hN⟩ := id C0
  intro S x1 x3 x4 h H locs ls hw hS hl
  unfold M_X12_land_B58 at h
  refine lv_iload hx hb dX12_land_58 (lv_at hl 3 rfl) ?_
  refine lv_if_eq (tgt := 83) hx hb dX12_land_60 (by decide) (fun c9 => ?_) (fun c9 => ?_)
  · replace h := z_ifp c9 h
    exact t_X12_land_B83 C0 res K39 hK39 S x1 x3 x4 h _ _ _ hw hS (lv_sub hl [0, 1, 2, 3] rfl)
  · replace h := z_ifn c9 h
    refine lv_aload_n hx hb dX12_land_63 rfl (lv_at hl 0 rfl) ?_
    refine z_getU C0 in_X12_land_X12 (C := RX12) (T := TX12) (N := 27) hw (k := 0) (ci := 12) (v := .int ((zsc S 0 14))) rfl rfl rfl rfl 14 (by decide) rfl 3 rfl (Or.inl rfl) dX12_land_64 ?_
    refine lv_aload_n hx hb dX12_land_67 rfl (lv_at hl 0 rfl) ?_
    refine z_getU C0 in_X12_land_X12 (C := RX12) (T := TX12) (N := 27) hw (k := 0) (ci := 12) (v := .ref (F 2)) rfl rfl rfl rfl 1 (by decide) rfl 4 rfl (Or.inl rfl) dX12_land_68 ?_
    refine lv_iload_n hx hb dX12_land_71 rfl (lv_at hl 1 rfl) ?_
    obtain ⟨b12, h⟩ := z_gd h
    refine z_iald C0 hw 2 rfl rfl zri_2 (zin_in b12) dX12_land_72 ?_
    refine lv_icmp_ne (tgt := 83) hx hb dX12_land_73 (by decide) (fun c13 => ?_) (fun c13 => ?_)
    · replace h := z_ifn c13 h
      exact t_X12_land_B83 C0 res K39 hK39 S x1 x3 x4 h _ _ _ hw hS (lv_sub hl [0, 1, 2, 3] rfl)
    · replace h := z_ifp c13 h
      refine lv_aload_n hx hb dX12_land_76 rfl (lv_at hl 0 rfl) ?_
      refine lv_iconst (v := (-1)) hx hb dX12_land_77 (by decide) ?_
      refine z_putU C0 in_X12_land_X12 tyX12 tyX12_ok nmX12 (C := RX12) (T := TX12) (N := 27) hw hS (k := 0) (ci := 12) (v := (-1)) rfl rfl rfl rfl 15 (by decide) 5 rfl rfl rfl rfl (Nat.le_of_ble_eq_true rfl) rfl dX12_land_78 (fun H locs hw hS => ?_)
      refine lv_iload_n hx hb dX12_land_81 rfl (lv_at hl 2 rfl) ?_
      exact z_reti C0 hw hS (Option.some.inj h) dX12_land_82
def M_X12_land_B39 : Nat → zSt → Int32 → Int32 → Int32 → Option (Int32 × zSt)
  | 0, _, _, _, _ => none
  | n + 1, S, x1, x3, x4 =>
  (if x4 = 0 then Option.bind (M_X12_again ((zP S 0 15 ((zsc S 0 14)))) 15) (fun w5 => Option.bind (M_X12_no w5 (-6)) (fun w6 => some (w6.1, w6.2))) else Option.bind (M_X12_item S) (fun w7 => (if w7.1 = 0 then M_X12_land_B58 (fun S_ x1_ x3_ x4_ => M_X12_land_B39 n S_ x1_ x3_ x4_) w7.2 x1 x3 w7.1 else M_X12_land_B58 (fun S_ x1_ x3_ x4_ => M_X12_land_B39 n S_ x1_ x3_ x4_) w7.2 x1 ((x3 + 1)) w7.1)))
set_option maxHeartbeats 4000000 in
set_option maxRecDepth 100000 in
theorem t_X12_land_B39 {p : Program} {l : Launch} {e : Env} {s : State} {m : MethodId} {args : Array Value} {below : List Frame} {meth : Method} {c : Code} {D : va_G} {Y : Nat → ClassId} {F : Nat → Nat} {A : Nat → Prop} {G : zG} (C0 : zCx p s m args meth c D Y F A RX12 cX12_land 5 (some .int) wsX12_land) (res : Int32 × zSt) : ∀ (n : Nat), ∀ (S : zSt) (x1 : Int32) (x3 : Int32) (x4 : Int32), M_X12_land_B39 n S x1 x3 x4 = some res → ∀ (H : Heap) (locs : List Loc) (ls : Array Slot), zH D Y F A G S H → va_S A s.heap H locs → lv_has ls 5 [(0, .ref (F 0)), (1, .int x1), (3, .int x3), (4, .int x4)] → W p l e (zRm 8 174) s m args below meth c H locs 0 0 (MQ below (zQi D Y F A G res) args s 0 0 A) (F0 m 39 ls []) := by
  obtain ⟨hx, hb, hml, hr, hown, hts, hK, hA, hlk, hN⟩ := id C0
  intro n
  induction n with
  | zero =>
    intro S x1 x3 x4 h
    unfold M_X12_land_B39 at h
    cases h
  | succ n ih =>
    intro S x1 x3 x4 h H locs ls hw hS hl
    rw [M_X12_land_B39] at h
    refine lv_iload hx hb dX12_land_39 (lv_at hl 3 rfl) ?_
    refine lv_if_eq (tgt := 99) hx hb dX12_land_41 (by decide) (fun c4 => ?_) (fun c4 => ?_)
    · replace h := z_ifp c4 h
      refine lv_aload_n hx hb dX12_land_99 rfl (lv_at hl 0 rfl) ?_
      refine lv_aload_n hx hb dX12_land_100 rfl (lv_at hl 0 rfl) ?_
      refine z_getU C0 in_X12_land_X12 (C := RX12) (T := TX12) (N := 27) hw (k := 0) (ci := 12) (v := .int ((zsc S 0 14))) rfl rfl rfl rfl 14 (by decide) rfl 3 rfl (Or.inl rfl) dX12_land_101 ?_
      refine z_putU C0 in_X12_land_X12 tyX12 tyX12_ok nmX12 (C := RX12) (T := TX12) (N := 27) hw hS (k := 0) (ci := 12) (v := (zsc S 0 14)) rfl rfl rfl rfl 15 (by decide) 5 rfl rfl rfl rfl (Nat.le_of_ble_eq_true rfl) rfl dX12_land_104 (fun H locs hw hS => ?_)
      refine lv_aload_n hx hb dX12_land_107 rfl (lv_at hl 0 rfl) ?_
      refine lv_aload_n hx hb dX12_land_108 rfl (lv_at hl 0 rfl) ?_
      refine z_getU C0 in_X12_land_X12 (C := RX12) (T := TX12) (N := 27) hw (k := 0) (ci := 12) (v := .ref (F 15)) rfl rfl rfl rfl 22 (by decide) rfl 1 rfl (Or.inl rfl) dX12_land_109 ?_
      obtain ⟨w5, ew5, h⟩ := z_bd h
      refine z_gov C0 hw hS (res := w5) (rest := []) (arr := (Value.ref (F 0) :: [.ref (F 15)]).toArray) ?_ (fun H locs hw hS => ?_)
      · exact va_runV (z_fix C0) (c_X12_again l D Y F G ((zP S 0 15 ((zsc S 0 14)))) _ 15 (Or.inr rfl) w5 ew5) (cwV 1 hts gX12_land_X12_again rfl rfl rfl (by decide +kernel) ⟨Nat.le_of_ble_eq_true rfl, Nat.le_of_ble_eq_true rfl⟩) ⟨zPc_blind, z_rv C0 hw (k := 0) rfl rfl rfl rfl, z_give C0 hw hS _⟩ rfl rfl hl.1 rfl (lv_room (Nat.le_of_ble_eq_true rfl)) dX12_land_112 ⟨Nat.zero_le _, Nat.zero_le _⟩
      refine lv_aload_n hx hb dX12_land_115 rfl (lv_at hl 0 rfl) ?_
      refine lv_bipush (v := (-6)) hx hb dX12_land_116 (by decide) ?_
      obtain ⟨w6, ew6, h⟩ := z_bd h
      refine z_goi C0 hw hS (res := w6) (rest := []) (arr := (Value.ref (F 0) :: [.int (-6)]).toArray) ?_ (fun H locs hw hS => ?_)
      · exact va_runV (z_fix C0) (c_X12_no l D Y F G w5 _ (-6) w6 ew6) (cwV 1 hts gX12_land_X12_no rfl rfl rfl (by decide +kernel) ⟨Nat.le_of_ble_eq_true rfl, Nat.le_of_ble_eq_true rfl⟩) ⟨zPc_blind, z_rv C0 hw (k := 0) rfl rfl rfl rfl, z_give C0 hw hS _⟩ rfl rfl hl.1 rfl (lv_room (Nat.le_of_ble_eq_true rfl)) dX12_land_118 ⟨Nat.zero_le _, Nat.zero_le _⟩
      exact z_reti C0 hw hS (Option.some.inj h) dX12_land_121
    · replace h := z_ifn c4 h
      refine lv_aload_n hx hb dX12_land_44 rfl (lv_at hl 0 rfl) ?_
      obtain ⟨w7, ew7, h⟩ := z_bd h
      refine z_goi C0 hw hS (res := w7) (rest := []) (arr := (Value.ref (F 0) :: []).toArray) ?_ (fun H locs hw hS => ?_)
      · exact va_runV (z_fix C0) (c_X12_item l D Y F G S _ w7 ew7) (cwV 0 hts gX12_land_X12_item rfl rfl rfl (by decide +kernel) ⟨Nat.le_of_ble_eq_true rfl, Nat.le_of_ble_eq_true rfl⟩) ⟨zPc_blind, z_rv C0 hw (k := 0) rfl rfl rfl rfl, z_give C0 hw hS _⟩ rfl rfl hl.1 rfl (lv_room (Nat.le_of_ble_eq_true rfl)) dX12_land_45 ⟨Nat.zero_le _, Nat.zero_le _⟩
      refine lv_istore (lv' := [(4, .int w7.1), (0, .ref (F 0)), (1, .int x1), (3, .int x3)]) hx hb dX12_land_48 hl (by decide) rfl (fun ls hl => ?_)
      refine lv_iload hx hb dX12_land_50 (lv_at hl 0 rfl) ?_
      refine lv_if_eq (tgt := 58) hx hb dX12_land_52 (by decide) (fun c8 => ?_) (fun c8 => ?_)
      · replace h := z_ifp c8 h
        exact t_X12_land_B58 C0 res (fun S_ x1_ x3_ x4_ => M_X12_land_B39 n S_ x1_ x3_ x4_) ih w7.2 x1 x3 w7.1 h _ _ _ hw hS (lv_sub hl [1, 2, 3, 0] rfl)
      · replace h := z_ifn c8 h
        refine lv_iinc (v := (x3 + 1)) (lv' := [(3, .int ((x3 + 1))), (4, .int w7.1), (0, .ref (F 0)), (1, .int x1)]) hx hb dX12_land_55 hl (k := 3) rfl rfl (by decide) rfl (fun ls hl => ?_)
        exact t_X12_land_B58 C0 res (fun S_ x1_ x3_ x4_ => M_X12_land_B39 n S_ x1_ x3_ x4_) ih w7.2 x1 ((x3 + 1)) w7.1 h _ _ _ hw hS (lv_sub hl [2, 3, 0, 1] rfl)
def M_X12_land (S : zSt) (x1 : Int32) : Option (Int32 × zSt) :=
  Option.bind (M_X12_noRow S x1) (fun w1 => (if 0 ≤ w1 then Option.bind (M_X12_keep S 15) (fun w3 => M_X12_land_B39 zF ((zP ((zP w3 0 13 x1)) 0 14 0)) x1 0 1) else Option.bind (M_X12_no S w1) (fun w14 => some (w14.1, w14.2))))
set_option maxHeartbeats 4000000 in
set_option maxRecDepth 100000 in
theorem c_X12_land (l : Launch) (D : va_G) (Y : Nat → ClassId) (F : Nat → Nat) (G : zG) (S : zSt) (sz : Nat) (x1 : Int32) (res : Int32 × zSt) (h : M_X12_land S x1 = some res) : Met l yX12_land wsX12_land (zRm 8 174) (zPc D Y F G S sz [.ref (F 0), .int x1]) (zQi D Y F (zAo F G sz) G res) 0 0 (zAo F G sz) := by
  unfold M_X12_land at h
  refine zMet (cc := cX12_land) (maxL := 5) (ret := (some .int)) (own := RX12) (by decide +kernel) rfl rfl (Nat.le_of_ble_eq_true rfl) ?_
  intro p e s m args below meth c C0 hin hw hS ls hl
  have hl : lv_has ls 5 [(0, .ref (F 0)), (1, .int x1)] := hl
  generalize zAo F G sz = A at C0 hw hS ⊢
  obtain ⟨hx, hb, hml, hr, hown, hts, hK, hA, hlk, hN⟩ := id C0
  refine lv_aload_n hx hb dX12_land_0 rfl (lv_at hl 0 rfl) ?_
  refine lv_iload_n hx hb dX12_land_1 rfl (lv_at hl 1 rfl) ?_
  obtain ⟨w1, ew1, h⟩ := z_bd h
  refine z_goi C0 hw hS (res := (w1, S)) (rest := []) (arr := (Value.ref (F 0) :: [.int x1]).toArray) ?_ (fun H locs hw hS => ?_)
  · exact va_runV (z_fix C0) (c_X12_noRow l D Y F G S _ x1 w1 ew1) (cwV 1 hts gX12_land_X12_noRow rfl rfl rfl (by decide +kernel) ⟨Nat.le_of_ble_eq_true rfl, Nat.le_of_ble_eq_true rfl⟩) ⟨zPc_blind, z_rv C0 hw (k := 0) rfl rfl rfl rfl, z_give C0 hw hS _⟩ rfl rfl hl.1 rfl (lv_room (Nat.le_of_ble_eq_true rfl)) dX12_land_2 ⟨Nat.zero_le _, Nat.zero_le _⟩
  refine lv_istore_n (lv' := [(2, .int w1), (0, .ref (F 0)), (1, .int x1)]) hx hb dX12_land_5 rfl hl (by decide) rfl (fun ls hl => ?_)
  refine lv_iload_n hx hb dX12_land_6 rfl (lv_at hl 0 rfl) ?_
  refine lv_if_ge (tgt := 16) hx hb dX12_land_7 (by decide) (fun c2 => ?_) (fun c2 => ?_)
  · replace h := z_ifp c2 h
    refine lv_aload_n hx hb dX12_land_16 rfl (lv_at hl 1 rfl) ?_
    refine lv_aload_n hx hb dX12_land_17 rfl (lv_at hl 1 rfl) ?_
    refine z_getU C0 in_X12_land_X12 (C := RX12) (T := TX12) (N := 27) hw (k := 0) (ci := 12) (v := .ref (F 15)) rfl rfl rfl rfl 22 (by decide) rfl 1 rfl (Or.inl rfl) dX12_land_18 ?_
    obtain ⟨w3, ew3, h⟩ := z_bd h
    refine z_gov C0 hw hS (res := w3) (rest := []) (arr := (Value.ref (F 0) :: [.ref (F 15)]).toArray) ?_ (fun H locs hw hS => ?_)
    · exact va_runV (z_fix C0) (c_X12_keep l D Y F G S _ 15 (Or.inr rfl) w3 ew3) (cwV 1 hts gX12_land_X12_keep rfl rfl rfl (by decide +kernel) ⟨Nat.le_of_ble_eq_true rfl, Nat.le_of_ble_eq_true rfl⟩) ⟨zPc_blind, z_rv C0 hw (k := 0) rfl rfl rfl rfl, z_give C0 hw hS _⟩ rfl rfl hl.1 rfl (lv_room (Nat.le_of_ble_eq_true rfl)) dX12_land_21 ⟨Nat.zero_le _, Nat.zero_le _⟩
    refine lv_aload_n hx hb dX12_land_24 rfl (lv_at hl 1 rfl) ?_
    refine lv_iload_n hx hb dX12_land_25 rfl (lv_at hl 2 rfl) ?_
    refine z_putU C0 in_X12_land_X12 tyX12 tyX12_ok nmX12 (C := RX12) (T := TX12) (N := 27) hw hS (k := 0) (ci := 12) (v := x1) rfl rfl rfl rfl 13 (by decide) 2 rfl rfl rfl rfl (Nat.le_of_ble_eq_true rfl) rfl dX12_land_26 (fun H locs hw hS => ?_)
    refine lv_aload_n hx hb dX12_land_29 rfl (lv_at hl 1 rfl) ?_
    refine lv_iconst (v := 0) hx hb dX12_land_30 (by decide) ?_
    refine z_putU C0 in_X12_land_X12 tyX12 tyX12_ok nmX12 (C := RX12) (T := TX12) (N := 27) hw hS (k := 0) (ci := 12) (v := 0) rfl rfl rfl rfl 14 (by decide) 3 rfl rfl rfl rfl (Nat.le_of_ble_eq_true rfl) rfl dX12_land_31 (fun H locs hw hS => ?_)
    refine lv_iconst (v := 0) hx hb dX12_land_34 (by decide) ?_
    refine lv_istore_n (lv' := [(3, .int 0), (2, .int w1), (0, .ref (F 0)), (1, .int x1)]) hx hb dX12_land_35 rfl hl (by decide) rfl (fun ls hl => ?_)
    refine lv_iconst (v := 1) hx hb dX12_land_36 (by decide) ?_
    refine lv_istore (lv' := [(4, .int 1), (3, .int 0), (2, .int w1), (0, .ref (F 0)), (1, .int x1)]) hx hb dX12_land_37 hl (by decide) rfl (fun ls hl => ?_)
    exact t_X12_land_B39 C0 res zF ((zP ((zP w3 0 13 x1)) 0 14 0)) x1 0 1 h _ _ _ hw hS (lv_sub hl [3, 4, 1, 0] rfl)
  · replace h := z_ifn c2 h
    refine lv_aload_n hx hb dX12_land_10 rfl (lv_at hl 1 rfl) ?_
    refine lv_iload_n hx hb dX12_land_11 rfl (lv_at hl 0 rfl) ?_
    obtain ⟨w14, ew14, h⟩ := z_bd h
    refine z_goi C0 hw hS (res := w14) (rest := []) (arr := (Value.ref (F 0) :: [.int w1]).toArray) ?_ (fun H locs hw hS => ?_)
    · exact va_runV (z_fix C0) (c_X12_no l D Y F G S _ w1 w14 ew14) (cwV 1 hts gX12_land_X12_no rfl rfl rfl (by decide +kernel) ⟨Nat.le_of_ble_eq_true rfl, Nat.le_of_ble_eq_true rfl⟩) ⟨zPc_blind, z_rv C0 hw (k := 0) rfl rfl rfl rfl, z_give C0 hw hS _⟩ rfl rfl hl.1 rfl (lv_room (Nat.le_of_ble_eq_true rfl)) dX12_land_12 ⟨Nat.zero_le _, Nat.zero_le _⟩
    exact z_reti C0 hw hS (Option.some.inj h) dX12_land_15
