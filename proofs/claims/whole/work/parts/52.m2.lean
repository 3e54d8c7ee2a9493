set_option maxRecDepth 20000 in
theorem in_X12_all_X12 : ∀ w ∈ u_ws RX12 TX12 27, w ∈ wsX12_all := by decide +kernel
set_option maxRecDepth 20000 in
theorem in_X12_fitting_X12 : ∀ w ∈ u_ws RX12 TX12 27, w ∈ wsX12_fitting := by decide +kernel
set_option maxRecDepth 20000 in
theorem in_X12_got_X12 : ∀ w ∈ u_ws RX12 TX12 27, w ∈ wsX12_got := by decide +kernel
set_option maxRecDepth 20000 in
theorem in_X12_isEnough_X12 : ∀ w ∈ u_ws RX12 TX12 27, w ∈ wsX12_isEnough := by decide +kernel
set_option maxRecDepth 20000 in
theorem in_X12_mends_X12 : ∀ w ∈ u_ws RX12 TX12 27, w ∈ wsX12_mends := by decide +kernel
set_option maxRecDepth 20000 in
theorem in_X12_noTold_X12 : ∀ w ∈ u_ws RX12 TX12 27, w ∈ wsX12_noTold := by decide +kernel
set_option maxRecDepth 20000 in
theorem in_X12_odd_X12 : ∀ w ∈ u_ws RX12 TX12 27, w ∈ wsX12_odd := by decide +kernel
set_option maxRecDepth 20000 in
theorem in_X12_toldAt_X12 : ∀ w ∈ u_ws RX12 TX12 27, w ∈ wsX12_toldAt := by decide +kernel
set_option maxRecDepth 20000 in
theorem in_X12_which_X12 : ∀ w ∈ u_ws RX12 TX12 27, w ∈ wsX12_which := by decide +kernel
set_option maxRecDepth 20000 in
theorem in_X12_worst_X12 : ∀ w ∈ u_ws RX12 TX12 27, w ∈ wsX12_worst := by decide +kernel
def M_X12_have (S : zSt) (x1 : Int32) (x2 : Int32) : Option (Int32 × zSt) :=
  Option.bind (M_X12_isPerson S x1) (fun w1 => (if w1 = 0 then Option.bind (M_X12_no S (-1)) (fun w7 => some (w7.1, w7.2)) else Option.bind (M_X12_isDeed S x2) (fun w3 => (if w3 = 0 then Option.bind (M_X12_no S (-6)) (fun w5 => some (w5.1, w5.2)) else Option.bind (M_X12_haveBits S x1 x2) (fun w6 => some (w6, S))))))
set_option maxHeartbeats 4000000 in
set_option maxRecDepth 100000 in
theorem c_X12_have (l : Launch) (D : va_G) (Y : Nat → ClassId) (F : Nat → Nat) (G : zG) (S : zSt) (sz : Nat) (x1 : Int32) (x2 : Int32) (res : Int32 × zSt) (h : M_X12_have S x1 x2 = some res) : Met l yX12_have wsX12_have (zRm 3 70) (zPc D Y F G S sz [.ref (F 0), .int x1, .int x2]) (zQi D Y F (zAo F G sz) G res) 0 0 (zAo F G sz) := by
  unfold M_X12_have at h
  refine zMet (cc := cX12_have) (maxL := 3) (ret := (some .int)) (own := RX12) (by decide +kernel) rfl rfl (Nat.le_of_ble_eq_true rfl) ?_
  intro p e s m args below meth c C0 hin hw hS ls hl
  have hl : lv_has ls 3 [(0, .ref (F 0)), (1, .int x1), (2, .int x2)] := hl
  generalize zAo F G sz = A at C0 hw hS ⊢
  obtain ⟨hx, hb, hml, hr, hown, hts, hK, hA, hlk, hN⟩ := id C0
  refine lv_aload_n hx hb dX12_have_0 rfl (lv_at hl 0 rfl) ?_
  refine lv_iload_n hx hb dX12_have_1 rfl (lv_at hl 1 rfl) ?_
  obtain ⟨w1, ew1, h⟩ := z_bd h
  refine z_callVip C0 hw hS (k := 0) (As := [.int x1]) (rest := []) rfl rfl rfl rfl (c_X12_isPerson l D Y F G S _ x1 w1 ew1) (cwV 1 hts gX12_have_X12_isPerson rfl rfl rfl (by decide +kernel) ⟨Nat.le_of_ble_eq_true rfl, Nat.le_of_ble_eq_true rfl⟩) rfl hl.1 rfl (Nat.le_of_ble_eq_true rfl) dX12_have_2 ⟨Nat.zero_le _, Nat.zero_le _⟩ (fun H locs hw hS => ?_)
  refine lv_if_ne (tgt := 14) hx hb dX12_have_5 (by decide) (fun c2 => ?_) (fun c2 => ?_)
  · replace h := z_ifn c2 h
    refine lv_iload_n hx hb dX12_have_14 rfl (lv_at hl 2 rfl) ?_
    obtain ⟨w3, ew3, h⟩ := z_bd h
    refine z_callSip C0 hw hS (As := [.int x2]) (rest := []) (c_X12_isDeed l D Y F G S _ x2 w3 ew3) (va_cwS 1 hts gX12_have_X12_isDeed rfl rfl rfl (by decide +kernel) ⟨Nat.le_of_ble_eq_true rfl, Nat.le_of_ble_eq_true rfl⟩) rfl hl.1 rfl (Nat.le_of_ble_eq_true rfl) dX12_have_15 ⟨Nat.zero_le _, Nat.zero_le _⟩ (fun H locs hw hS => ?_)
    refine lv_if_eq (tgt := 30) hx hb dX12_have_18 (by decide) (fun c4 => ?_) (fun c4 => ?_)
    · replace h := z_ifp c4 h
      refine lv_aload_n hx hb dX12_have_30 rfl (lv_at hl 0 rfl) ?_
      refine lv_bipush (v := (-6)) hx hb dX12_have_31 (by decide) ?_
      obtain ⟨w5, ew5, h⟩ := z_bd h
      refine z_callVi0 C0 hw hS (k := 0) (As := [.int (-6)]) (rest := []) rfl rfl rfl rfl (c_X12_no l D Y F G S _ (-6) w5 ew5) (cwV 1 hts gX12_have_X12_no rfl rfl rfl (by decide +kernel) ⟨Nat.le_of_ble_eq_true rfl, Nat.le_of_ble_eq_true rfl⟩) rfl hl.1 rfl (Nat.le_of_ble_eq_true rfl) dX12_have_33 ⟨Nat.zero_le _, Nat.zero_le _⟩ (fun H locs hw hS => ?_)
      exact z_reti C0 hw hS (Option.some.inj h) dX12_have_36
    · replace h := z_ifn c4 h
      refine lv_aload_n hx hb dX12_have_21 rfl (lv_at hl 0 rfl) ?_
      refine lv_iload_n hx hb dX12_have_22 rfl (lv_at hl 1 rfl) ?_
      refine lv_iload_n hx hb dX12_have_23 rfl (lv_at hl 2 rfl) ?_
      obtain ⟨w6, ew6, h⟩ := z_bd h
      refine z_callVip C0 hw hS (k := 0) (As := [.int x1, .int x2]) (rest := []) rfl rfl rfl rfl (c_X12_haveBits l D Y F G S _ x1 x2 w6 ew6) (cwV 2 hts gX12_have_X12_haveBits rfl rfl rfl (by decide +kernel) ⟨Nat.le_of_ble_eq_true rfl, Nat.le_of_ble_eq_true rfl⟩) rfl hl.1 rfl (Nat.le_of_ble_eq_true rfl) dX12_have_24 ⟨Nat.zero_le _, Nat.zero_le _⟩ (fun H locs hw hS => ?_)
      refine lv_goto (tgt := 36) hx hb dX12_have_27 (by decide) ?_
      exact z_reti C0 hw hS (Option.some.inj h) dX12_have_36
  · replace h := z_ifp c2 h
    refine lv_aload_n hx hb dX12_have_8 rfl (lv_at hl 0 rfl) ?_
    refine lv_iconst (v := (-1)) hx hb dX12_have_9 (by decide) ?_
    obtain ⟨w7, ew7, h⟩ := z_bd h
    refine z_callVi0 C0 hw hS (k := 0) (As := [.int (-1)]) (rest := []) rfl rfl rfl rfl (c_X12_no l D Y F G S _ (-1) w7 ew7) (cwV 1 hts gX12_have_X12_no rfl rfl rfl (by decide +kernel) ⟨Nat.le_of_ble_eq_true rfl, Nat.le_of_ble_eq_true rfl⟩) rfl hl.1 rfl (Nat.le_of_ble_eq_true rfl) dX12_have_10 ⟨Nat.zero_le _, Nat.zero_le _⟩ (fun H locs hw hS => ?_)
    exact z_reti C0 hw hS (Option.some.inj h) dX12_have_13
def M_X12_all_B25 : Nat → zSt → Int32 → Int32 → Int32 → Option (Int32 × zSt)
  | 0, _, _, _, _ => none
  | n + 1, S, x1, x2, x3 =>
  (if 6 ≤ x3 then some (x2, S) else Option.bind (M_X12_hasAll S x1 x3) (fun w6 => M_X12_all_B25 n S x1 ((x2 &&& w6)) ((x3 + 1))))
set_option maxHeartbeats 4000000 in
set_option maxRecDepth 100000 in
theorem t_X12_all_B25 {p : Program} {l : Launch} {e : Env} {s : State} {m : MethodId} {args : Array Value} {below : List Frame} {meth : Method} {c : Code} {D : va_G} {Y : Nat → ClassId} {F : Nat → Nat} {A : Nat → Prop} {G : zG} (C0 : zCx p s m args meth c D Y F A RX12 cX12_all 4 (some .int) wsX12_all) (res : Int32 × zSt) : ∀ (n : Nat), ∀ (S : zSt) (x1 : Int32) (x2 : Int32) (x3 : Int32), M_X12_all_B25 n S x1 x2 x3 = some res → ∀ (H : Heap) (locs : List Loc) (ls : Array Slot), zH D Y F A G S H → va_S A s.heap H locs → lv_has ls 4 [(0, .ref (F 0)), (1, .int x1), (2, .int x2), (3, .int x3)] → W p l e (zRm 3 70) s m args below meth c H locs 0 0 (MQ below (zQi D Y F A G res) args s 0 0 A) (F0 m 25 ls []) := by
  obtain ⟨hx, hb, hml, hr, hown, hts, hK, hA, hlk, hN⟩ := id C0
  intro n
  induction n with
  | zero =>
    intro S x1 x2 x3 h
    unfold M_X12_all_B25 at h
    cases h
  | succ n ih =>
    intro S x1 x2 x3 h H locs ls hw hS hl
    rw [M_X12_all_B25] at h
    refine lv_iload_n hx hb dX12_all_25 rfl (lv_at hl 3 rfl) ?_
    refine lv_bipush (v := 6) hx hb dX12_all_26 (by decide) ?_
    refine lv_icmp_ge (tgt := 46) hx hb dX12_all_28 (by decide) (fun c5 => ?_) (fun c5 => ?_)
    · replace h := z_ifp c5 h
      refine lv_iload_n hx hb dX12_all_46 rfl (lv_at hl 2 rfl) ?_
      exact z_reti C0 hw hS (Option.some.inj h) dX12_all_47
    · replace h := z_ifn c5 h
      refine lv_iload_n hx hb dX12_all_31 rfl (lv_at hl 2 rfl) ?_
      refine lv_aload_n hx hb dX12_all_32 rfl (lv_at hl 0 rfl) ?_
      refine lv_iload_n hx hb dX12_all_33 rfl (lv_at hl 1 rfl) ?_
      refine lv_iload_n hx hb dX12_all_34 rfl (lv_at hl 3 rfl) ?_
      obtain ⟨w6, ew6, h⟩ := z_bd h
      refine z_callVip C0 hw hS (k := 0) (As := [.int x1, .int x3]) (rest := [.int x2]) rfl rfl rfl rfl (c_X12_hasAll l D Y F G S _ x1 x3 w6 ew6) (cwV 2 hts gX12_all_X12_hasAll rfl rfl rfl (by decide +kernel) ⟨Nat.le_of_ble_eq_true rfl, Nat.le_of_ble_eq_true rfl⟩) rfl hl.1 rfl (Nat.le_of_ble_eq_true rfl) dX12_all_35 ⟨Nat.zero_le _, Nat.zero_le _⟩ (fun H locs hw hS => ?_)
      refine lv_iand hx hb dX12_all_38 ?_
      refine lv_istore_n (lv' := [(2, .int ((x2 &&& w6))), (0, .ref (F 0)), (1, .int x1), (3, .int x3)]) hx hb dX12_all_39 rfl hl (by decide) rfl (fun ls hl => ?_)
      refine lv_iinc (v := (x3 + 1)) (lv' := [(3, .int ((x3 + 1))), (2, .int ((x2 &&& w6))), (0, .ref (F 0)), (1, .int x1)]) hx hb dX12_all_40 hl (k := 3) rfl rfl (by decide) rfl (fun ls hl => ?_)
      refine lv_goto (tgt := 25) hx hb dX12_all_43 (by decide) ?_
      exact ih S x1 ((x2 &&& w6)) ((x3 + 1)) h _ _ _ hw hS (lv_sub hl [2, 3, 1, 0] rfl)
def M_X12_all (S : zSt) (x1 : Int32) : Option (Int32 × zSt) :=
  Option.bind (M_X12_isPerson S x1) (fun w1 => (if w1 = 0 then Option.bind (M_X12_no S (-1)) (fun w7 => some (w7.1, w7.2)) else zg (zin x1 6) (Option.bind (some ((zar S 7 (Int32.toNatClampNeg x1)))) (fun v4 => M_X12_all_B25 zF S x1 255 v4))))
set_option maxHeartbeats 4000000 in
set_option maxRecDepth 100000 in
theorem c_X12_all (l : Launch) (D : va_G) (Y : Nat → ClassId) (F : Nat → Nat) (G : zG) (S : zSt) (sz : Nat) (x1 : Int32) (res : Int32 × zSt) (h : M_X12_all S x1 = some res) : Met l yX12_all wsX12_all (zRm 3 70) (zPc D Y F G S sz [.ref (F 0), .int x1]) (zQi D Y F (zAo F G sz) G res) 0 0 (zAo F G sz) := by
  unfold M_X12_all at h
  refine zMet (cc := cX12_all) (maxL := 4) (ret := (some .int)) (own := RX12) (by decide +kernel) rfl rfl (Nat.le_of_ble_eq_true rfl) ?_
  intro p e s m args below meth c C0 hin hw hS ls hl
  have hl : lv_has ls 4 [(0, .ref (F 0)), (1, .int x1)] := hl
  generalize zAo F G sz = A at C0 hw hS ⊢
  obtain ⟨hx, hb, hml, hr, hown, hts, hK, hA, hlk, hN⟩ := id C0
  refine lv_aload_n hx hb dX12_all_0 rfl (lv_at hl 0 rfl) ?_
  refine lv_iload_n hx hb dX12_all_1 rfl (lv_at hl 1 rfl) ?_
  obtain ⟨w1, ew1, h⟩ := z_bd h
  refine z_callVip C0 hw hS (k := 0) (As := [.int x1]) (rest := []) rfl rfl rfl rfl (c_X12_isPerson l D Y F G S _ x1 w1 ew1) (cwV 1 hts gX12_all_X12_isPerson rfl rfl rfl (by decide +kernel) ⟨Nat.le_of_ble_eq_true rfl, Nat.le_of_ble_eq_true rfl⟩) rfl hl.1 rfl (Nat.le_of_ble_eq_true rfl) dX12_all_2 ⟨Nat.zero_le _, Nat.zero_le _⟩ (fun H locs hw hS => ?_)
  refine lv_if_ne (tgt := 14) hx hb dX12_all_5 (by decide) (fun c2 => ?_) (fun c2 => ?_)
  · replace h := z_ifn c2 h
    refine lv_sipush (v := 255) hx hb dX12_all_14 (by decide) ?_
    refine lv_istore_n (lv' := [(2, .int 255), (0, .ref (F 0)), (1, .int x1)]) hx hb dX12_all_17 rfl hl (by decide) rfl (fun ls hl => ?_)
    refine lv_aload_n hx hb dX12_all_18 rfl (lv_at hl 1 rfl) ?_
    refine z_get C0 in_X12_all_X12 (C := RX12) (T := TX12) (N := 27) hw (k := 0) (ci := 12) (v := .ref (F 7)) rfl rfl rfl rfl 7 (by decide) rfl 1 rfl dX12_all_19 ?_
    refine lv_iload_n hx hb dX12_all_22 rfl (lv_at hl 2 rfl) ?_
    obtain ⟨b3, h⟩ := z_gd h
    refine z_iald C0 hw 7 rfl rfl zri_7 (zin_in b3) dX12_all_23 ?_
    obtain ⟨v4, ev4, h⟩ := z_bd h
    refine z_top (Option.some.inj ev4) ?_
    refine lv_istore_n (lv' := [(3, .int v4), (2, .int 255), (0, .ref (F 0)), (1, .int x1)]) hx hb dX12_all_24 rfl hl (by decide) rfl (fun ls hl => ?_)
    exact t_X12_all_B25 C0 res zF S x1 255 v4 h _ _ _ hw hS (lv_sub hl [2, 3, 1, 0] rfl)
  · replace h := z_ifp c2 h
    refine lv_aload_n hx hb dX12_all_8 rfl (lv_at hl 0 rfl) ?_
    refine lv_iconst (v := (-1)) hx hb dX12_all_9 (by decide) ?_
    obtain ⟨w7, ew7, h⟩ := z_bd h
    refine z_callVi0 C0 hw hS (k := 0) (As := [.int (-1)]) (rest := []) rfl rfl rfl rfl (c_X12_no l D Y F G S _ (-1) w7 ew7) (cwV 1 hts gX12_all_X12_no rfl rfl rfl (by decide +kernel) ⟨Nat.le_of_ble_eq_true rfl, Nat.le_of_ble_eq_true rfl⟩) rfl hl.1 rfl (Nat.le_of_ble_eq_true rfl) dX12_all_10 ⟨Nat.zero_le _, Nat.zero_le _⟩ (fun H locs hw hS => ?_)
    exact z_reti C0 hw hS (Option.some.inj h) dX12_all_13
def M_X12_isEnough_B55 (K15 : zSt → Int32 → Int32 → Int32 → Int32 → Int32 → Option (Int32 × zSt)) (S : zSt) (x1 : Int32) (x2 : Int32) (x3 : Int32) (x4 : Int32) (x6 : Int32) (y0 : Int32) : Option (Int32 × zSt) :=
  (if x3 < x6 then (if x4 = 0 then K15 S x1 x2 x3 x4 ((x6 + 1)) else (if y0 = 0 then K15 S x1 x2 x3 x4 ((x6 + 1)) else some (0, S))) else (if y0 = 0 then some (0, S) else K15 S x1 x2 x3 x4 ((x6 + 1))))
set_option maxHeartbeats 4000000 in
set_option maxRecDepth 100000 in
theorem t_X12_isEnough_B55 {p : Program} {l : Launch} {e : Env} {s : State} {m : MethodId} {args : Array Value} {below : List Frame} {meth : Method} {c : Code} {D : va_G} {Y : Nat → ClassId} {F : Nat → Nat} {A : Nat → Prop} {G : zG} (C0 : zCx p s m args meth c D Y F A RX12 cX12_isEnough 8 (some .boolean) wsX12_isEnough) (res : Int32 × zSt) (K15 : zSt → Int32 → Int32 → Int32 → Int32 → Int32 → Option (Int32 × zSt)) (hK15 : ∀ (S : zSt) (x1 : Int32) (x2 : Int32) (x3 : Int32) (x4 : Int32) (x6 : Int32), K15 S x1 x2 x3 x4 x6 = some res → ∀ (H : Heap) (locs : List Loc) (ls : Array Slot), zH D Y F A G S H → va_S A s.heap H locs → lv_has ls 8 [(0, .ref (F 0)), (1, .int x1), (2, .int x2), (3, .int x3), (4, .int x4), (6, .int x6)] → W p l e (zRm 2 48) s m args below meth c H locs 0 0 (MQ below (zQi D Y F A G res) args s 0 0 A) (F0 m 15 ls [])) : ∀ (S : zSt) (x1 : Int32) (x2 : Int32) (x3 : Int32) (x4 : Int32) (x6 : Int32) (y0 : Int32), M_X12_isEnough_B55 K15 S x1 x2 x3 x4 x6 y0 = some res → ∀ (H : Heap) (locs : List Loc) (ls : Array Slot), zH D Y F A G S H → va_S A s.heap H locs → lv_has ls 8 [(0, .ref (F 0)), (1, .int x1), (2, .int x2), (3, .int x3), (4, .int x4), (6, .int x6)] → W p l e (zRm 2 48) s m args below meth c H locs 0 0 (MQ below (zQi D Y F A G res) args s 0 0 A) (F0 m 55 ls [.int y0]) := by
  obtain ⟨hx, hb, hml, hr, hown, hts, hK, hA, hlk, hN⟩ := id C0
  intro S x1 x2 x3 x4 x6 y0 h H locs ls hw hS hl
  unfold M_X12_isEnough_B55 at h
  refine lv_istore (lv' := [(7, .int y0), (0, .ref (F 0)), (1, .int x1), (2, .int x2), (3, .int x3), (4, .int x4), (6, .int x6)]) hx hb dX12_isEnough_55 hl (by decide) rfl (fun ls hl => ?_)
  refine lv_iload hx hb dX12_isEnough_57 (lv_at hl 6 rfl) ?_
  refine lv_iload_n hx hb dX12_isEnough_59 rfl (lv_at hl 4 rfl) ?_
  refine lv_icmp_gt (tgt := 71) hx hb dX12_isEnough_60 (by decide) (fun c8 => ?_) (fun c8 => ?_)
  · replace h := z_ifp c8 h
    refine lv_iload hx hb dX12_isEnough_71 (lv_at hl 5 rfl) ?_
    refine lv_if_eq (tgt := 83) hx hb dX12_isEnough_73 (by decide) (fun c9 => ?_) (fun c9 => ?_)
    · replace h := z_ifp c9 h
      refine lv_iinc (v := (x6 + 1)) (lv' := [(6, .int ((x6 + 1))), (7, .int y0), (0, .ref (F 0)), (1, .int x1), (2, .int x2), (3, .int x3), (4, .int x4)]) hx hb dX12_isEnough_83 hl (k := 6) rfl rfl (by decide) rfl (fun ls hl => ?_)
      refine lv_goto (tgt := 15) hx hb dX12_isEnough_86 (by decide) ?_
      exact hK15 S x1 x2 x3 x4 ((x6 + 1)) h _ _ _ hw hS (lv_sub hl [2, 3, 4, 5, 6, 0] rfl)
    · replace h := z_ifn c9 h
      refine lv_iload hx hb dX12_isEnough_76 (lv_at hl 0 rfl) ?_
      refine lv_if_eq (tgt := 83) hx hb dX12_isEnough_78 (by decide) (fun c10 => ?_) (fun c10 => ?_)
      · replace h := z_ifp c10 h
        refine lv_iinc (v := (x6 + 1)) (lv' := [(6, .int ((x6 + 1))), (7, .int y0), (0, .ref (F 0)), (1, .int x1), (2, .int x2), (3, .int x3), (4, .int x4)]) hx hb dX12_isEnough_83 hl (k := 6) rfl rfl (by decide) rfl (fun ls hl => ?_)
        refine lv_goto (tgt := 15) hx hb dX12_isEnough_86 (by decide) ?_
        exact hK15 S x1 x2 x3 x4 ((x6 + 1)) h _ _ _ hw hS (lv_sub hl [2, 3, 4, 5, 6, 0] rfl)
      · replace h := z_ifn c10 h
        refine lv_iconst (v := 0) hx hb dX12_isEnough_81 (by decide) ?_
        exact z_retz C0 hw hS rfl (Option.some.inj h) dX12_isEnough_82
  · replace h := z_ifn c8 h
    refine lv_iload hx hb dX12_isEnough_63 (lv_at hl 0 rfl) ?_
    refine lv_if_ne (tgt := 83) hx hb dX12_isEnough_65 (by decide) (fun c11 => ?_) (fun c11 => ?_)
    · replace h := z_ifn c11 h
      refine lv_iinc (v := (x6 + 1)) (lv' := [(6, .int ((x6 + 1))), (7, .int y0), (0, .ref (F 0)), (1, .int x1), (2, .int x2), (3, .int x3), (4, .int x4)]) hx hb dX12_isEnough_83 hl (k := 6) rfl rfl (by decide) rfl (fun ls hl => ?_)
      refine lv_goto (tgt := 15) hx hb dX12_isEnough_86 (by decide) ?_
      exact hK15 S x1 x2 x3 x4 ((x6 + 1)) h _ _ _ hw hS (lv_sub hl [2, 3, 4, 5, 6, 0] rfl)
    · replace h := z_ifp c11 h
      refine lv_goto (tgt := 81) hx hb dX12_isEnough_68 (by decide) ?_
      refine lv_iconst (v := 0) hx hb dX12_isEnough_81 (by decide) ?_
      exact z_retz C0 hw hS rfl (Option.some.inj h) dX12_isEnough_82
def M_X12_isEnough_B15 : Nat → zSt → Int32 → Int32 → Int32 → Int32 → Int32 → Option (Int32 × zSt)
  | 0, _, _, _, _, _, _ => none
  | n + 1, S, x1, x2, x3, x4, x6 =>
  (if 6 ≤ x6 then some (1, S) else Option.bind (M_X12_strengthOf S x1 x6 x2) (fun w5 => zg (zin x6 6) ((if (if (w5 + (zar S 16 (Int32.toNatClampNeg x6))) < (99 : Int32) then (w5 + (zar S 16 (Int32.toNatClampNeg x6))) else (99 : Int32)) < (zsc S 0 11) then M_X12_isEnough_B55 (fun S_ x1_ x2_ x3_ x4_ x6_ => M_X12_isEnough_B15 n S_ x1_ x2_ x3_ x4_ x6_) S x1 x2 x3 x4 x6 0 else M_X12_isEnough_B55 (fun S_ x1_ x2_ x3_ x4_ x6_ => M_X12_isEnough_B15 n S_ x1_ x2_ x3_ x4_ x6_) S x1 x2 x3 x4 x6 1))))
set_option maxHeartbeats 4000000 in
set_option maxRecDepth 100000 in
theorem t_X12_isEnough_B15 {p : Program} {l : Launch} {e : Env} {s : State} {m : MethodId} {args : Array Value} {below : List Frame} {meth : Method} {c : Code} {D : va_G} {Y : Nat → ClassId} {F : Nat → Nat} {A : Nat → Prop} {G : zG} (C0 : zCx p s m args meth c D Y F A RX12 cX12_isEnough 8 (some .boolean) wsX12_isEnough) (res : Int32 × zSt) : ∀ (n : Nat), ∀ (S : zSt) (x1 : Int32) (x2 : Int32) (x3 : Int32) (x4 : Int32) (x6 : Int32), M_X12_isEnough_B15 n S x1 x2 x3 x4 x6 = some res → ∀ (H : Heap) (locs : List Loc) (ls : Array Slot), zH D Y F A G S H → va_S A s.heap H locs → lv_has ls 8 [(0, .ref (F 0)), (1, .int x1), (2, .int x2), (3, .int x3), (4, .int x4), (6, .int x6)] → W p l e (zRm 2 48) s m args below meth c H locs 0 0 (MQ below (zQi D Y F A G res) args s 0 0 A) (F0 m 15 ls []) := by
  obtain ⟨hx, hb, hml, hr, hown, hts, hK, hA, hlk, hN⟩ := id C0
  intro n
  induction n with
  | zero =>
    intro S x1 x2 x3 x4 x6 h
    unfold M_X12_isEnough_B15 at h
    cases h
  | succ n ih =>
    intro S x1 x2 x3 x4 x6 h H locs ls hw hS hl
    rw [M_X12_isEnough_B15] at h
    refine lv_iload hx hb dX12_isEnough_15 (lv_at hl 5 rfl) ?_
    refine lv_bipush (v := 6) hx hb dX12_isEnough_17 (by decide) ?_
    refine lv_icmp_ge (tgt := 89) hx hb dX12_isEnough_19 (by decide) (fun c4 => ?_) (fun c4 => ?_)
    · replace h := z_ifp c4 h
      refine lv_iconst (v := 1) hx hb dX12_isEnough_89 (by decide) ?_
      exact z_retz C0 hw hS rfl (Option.some.inj h) dX12_isEnough_90
    · replace h := z_ifn c4 h
      refine lv_bipush (v := 99) hx hb dX12_isEnough_22 (by decide) ?_
      refine lv_aload_n hx hb dX12_isEnough_24 rfl (lv_at hl 0 rfl) ?_
      refine lv_iload_n hx hb dX12_isEnough_25 rfl (lv_at hl 1 rfl) ?_
      refine lv_iload hx hb dX12_isEnough_26 (lv_at hl 5 rfl) ?_
      refine lv_iload_n hx hb dX12_isEnough_28 rfl (lv_at hl 2 rfl) ?_
      obtain ⟨w5, ew5, h⟩ := z_bd h
      refine z_callVip C0 hw hS (k := 0) (As := [.int x1, .int x6, .int x2]) (rest := [.int 99]) rfl rfl rfl rfl (c_X12_strengthOf l D Y F G S _ x1 x6 x2 w5 ew5) (cwV 3 hts gX12_isEnough_X12_strengthOf rfl rfl rfl (by decide +kernel) ⟨Nat.le_of_ble_eq_true rfl, Nat.le_of_ble_eq_true rfl⟩) rfl hl.1 rfl (Nat.le_of_ble_eq_true rfl) dX12_isEnough_29 ⟨Nat.zero_le _, Nat.zero_le _⟩ (fun H locs hw hS => ?_)
      refine lv_aload_n hx hb dX12_isEnough_32 rfl (lv_at hl 0 rfl) ?_
      refine z_get C0 in_X12_isEnough_X12 (C := RX12) (T := TX12) (N := 27) hw (k := 0) (ci := 12) (v := .ref (F 16)) rfl rfl rfl rfl 23 (by decide) rfl 2 rfl dX12_isEnough_33 ?_
      refine lv_iload hx hb dX12_isEnough_36 (lv_at hl 5 rfl) ?_
      obtain ⟨b6, h⟩ := z_gd h
      refine z_iald C0 hw 16 rfl rfl zri_16 (zin_in b6) dX12_isEnough_38 ?_
      refine lv_iadd hx hb dX12_isEnough_39 ?_
      refine va_mmin hx hb (hml.trans hl.1.symm) hown (hts _ (List.mem_of_getElem? (i := 3) rfl)) (hts _ (List.mem_of_getElem? (i := 4) rfl)) (hts _ (List.mem_of_getElem? (i := 5) rfl)) (hts _ (List.mem_of_getElem? (i := 6) rfl)) (Nat.le_of_ble_eq_true rfl) (Nat.le_of_ble_eq_true rfl) (Nat.zero_le _) (Nat.zero_le _) dX12_isEnough_40 ?_
      refine lv_aload_n hx hb dX12_isEnough_43 rfl (lv_at hl 0 rfl) ?_
      refine z_get C0 in_X12_isEnough_X12 (C := RX12) (T := TX12) (N := 27) hw (k := 0) (ci := 12) (v := .int ((zsc S 0 11))) rfl rfl rfl rfl 11 (by decide) rfl 7 rfl dX12_isEnough_44 ?_
      refine lv_icmp_lt (tgt := 54) hx hb dX12_isEnough_47 (by decide) (fun c7 => ?_) (fun c7 => ?_)
      · replace h := z_ifp c7 h
        refine lv_iconst (v := 0) hx hb dX12_isEnough_54 (by decide) ?_
        exact t_X12_isEnough_B55 C0 res (fun S_ x1_ x2_ x3_ x4_ x6_ => M_X12_isEnough_B15 n S_ x1_ x2_ x3_ x4_ x6_) ih S x1 x2 x3 x4 x6 0 h _ _ _ hw hS (lv_sub hl [0, 1, 2, 3, 4, 5] rfl)
      · replace h := z_ifn c7 h
        refine lv_iconst (v := 1) hx hb dX12_isEnough_50 (by decide) ?_
        refine lv_goto (tgt := 55) hx hb dX12_isEnough_51 (by decide) ?_
        exact t_X12_isEnough_B55 C0 res (fun S_ x1_ x2_ x3_ x4_ x6_ => M_X12_isEnough_B15 n S_ x1_ x2_ x3_ x4_ x6_) ih S x1 x2 x3 x4 x6 1 h _ _ _ hw hS (lv_sub hl [0, 1, 2, 3, 4, 5] rfl)
def M_X12_isEnough (S : zSt) (x1 : Int32) (x2 : Int32) (x3 : Int32) (x4 : Int32) (x5 : Int32) : Option (Int32 × zSt) :=
  Option.bind (M_X12_gives S x1 x5) (fun w1 => zg (zin x1 6) (Option.bind (some ((zar w1 7 (Int32.toNatClampNeg x1)))) (fun v3 => M_X12_isEnough_B15 zF w1 x1 x2 x3 x4 v3)))
set_option maxHeartbeats 4000000 in
set_option maxRecDepth 100000 in
theorem c_X12_isEnough (l : Launch) (D : va_G) (Y : Nat → ClassId) (F : Nat → Nat) (G : zG) (S : zSt) (sz : Nat) (x1 : Int32) (x2 : Int32) (x3 : Int32) (x4 : Int32) (x5 : Int32) (res : Int32 × zSt) (h : M_X12_isEnough S x1 x2 x3 x4 x5 = some res) : Met l yX12_isEnough wsX12_isEnough (zRm 2 48) (zPc D Y F G S sz [.ref (F 0), .int x1, .int x2, .int x3, .int x4, .int x5]) (zQi D Y F (zAo F G sz) G res) 0 0 (zAo F G sz) := by
  unfold M_X12_isEnough at h
  refine zMet (cc := cX12_isEnough) (maxL := 8) (ret := (some .boolean)) (own := RX12) (by decide +kernel) rfl rfl (Nat.le_of_ble_eq_true rfl) ?_
  intro p e s m args below meth c C0 hin hw hS ls hl
  have hl : lv_has ls 8 [(0, .ref (F 0)), (1, .int x1), (2, .int x2), (3, .int x3), (4, .int x4), (5, .int x5)] := hl
  generalize zAo F G sz = A at C0 hw hS ⊢
  obtain ⟨hx, hb, hml, hr, hown, hts, hK, hA, hlk, hN⟩ := id C0
  refine lv_aload_n hx hb dX12_isEnough_0 rfl (lv_at hl 0 rfl) ?_
  refine lv_iload_n hx hb dX12_isEnough_1 rfl (lv_at hl 1 rfl) ?_
  refine lv_iload hx hb dX12_isEnough_2 (lv_at hl 5 rfl) ?_
  obtain ⟨w1, ew1, h⟩ := z_bd h
  refine z_callVv0 C0 hw hS (k := 0) (As := [.int x1, .int x5]) (rest := []) rfl rfl rfl rfl (c_X12_gives l D Y F G S _ x1 x5 w1 ew1) (cwV 2 hts gX12_isEnough_X12_gives rfl rfl rfl (by decide +kernel) ⟨Nat.le_of_ble_eq_true rfl, Nat.le_of_ble_eq_true rfl⟩) rfl hl.1 rfl (Nat.le_of_ble_eq_true rfl) dX12_isEnough_4 ⟨Nat.zero_le _, Nat.zero_le _⟩ (fun H locs hw hS => ?_)
  refine lv_aload_n hx hb dX12_isEnough_7 rfl (lv_at hl 0 rfl) ?_
  refine z_get C0 in_X12_isEnough_X12 (C := RX12) (T := TX12) (N := 27) hw (k := 0) (ci := 12) (v := .ref (F 7)) rfl rfl rfl rfl 7 (by decide) rfl 1 rfl dX12_isEnough_8 ?_
  refine lv_iload_n hx hb dX12_isEnough_11 rfl (lv_at hl 1 rfl) ?_
  obtain ⟨b2, h⟩ := z_gd h
  refine z_iald C0 hw 7 rfl rfl zri_7 (zin_in b2) dX12_isEnough_12 ?_
  obtain ⟨v3, ev3, h⟩ := z_bd h
  refine z_top (Option.some.inj ev3) ?_
  refine lv_istore (lv' := [(6, .int v3), (0, .ref (F 0)), (1, .int x1), (2, .int x2), (3, .int x3), (4, .int x4), (5, .int x5)]) hx hb dX12_isEnough_13 hl (by decide) rfl (fun ls hl => ?_)
  exact t_X12_isEnough_B15 C0 res zF w1 x1 x2 x3 x4 v3 h _ _ _ hw hS (lv_sub hl [1, 2, 3, 4, 5, 0] rfl)
def M_X12_force_B47 (S : zSt) : Option (Int32 × zSt) :=
  Option.bind (M_X12_no10 S (-6)) (fun w7 => some (w7.1, w7.2))
set_option maxHeartbeats 4000000 in
set_option maxRecDepth 100000 in
theorem t_X12_force_B47 {p : Program} {l : Launch} {e : Env} {s : State} {m : MethodId} {args : Array Value} {below : List Frame} {meth : Method} {c : Code} {D : va_G} {Y : Nat → ClassId} {F : Nat → Nat} {A : Nat → Prop} {G : zG} (C0 : zCx p s m args meth c D Y F A RX12 cX12_force 6 (some .int) wsX12_force) (res : Int32 × zSt) : ∀ (S : zSt), M_X12_force_B47 S = some res → ∀ (H : Heap) (locs : List Loc) (ls : Array Slot), zH D Y F A G S H → va_S A s.heap H locs → lv_has ls 6 [(0, .ref (F 0))] → W p l e (zRm 3 75) s m args below meth c H locs 0 0 (MQ below (zQi D Y F A G res) args s 0 0 A) (F0 m 47 ls []) := by
  obtain ⟨hx, hb, hml, hr, hown, hts, hK, hA, hlk, hN⟩ := id C0
  intro S h H locs ls hw hS hl
  unfold M_X12_force_B47 at h
  refine lv_aload_n hx hb dX12_force_47 rfl (lv_at hl 0 rfl) ?_
  refine lv_bipush (v := (-6)) hx hb dX12_force_48 (by decide) ?_
  obtain ⟨w7, ew7, h⟩ := z_bd h
  refine z_callVi0 C0 hw hS (k := 0) (As := [.int (-6)]) (rest := []) rfl rfl rfl rfl (c_X12_no10 l D Y F G S _ (-6) w7 ew7) (cwV 1 hts gX12_force_X12_no10 rfl rfl rfl (by decide +kernel) ⟨Nat.le_of_ble_eq_true rfl, Nat.le_of_ble_eq_true rfl⟩) rfl hl.1 rfl (Nat.le_of_ble_eq_true rfl) dX12_force_50 ⟨Nat.zero_le _, Nat.zero_le _⟩ (fun H locs hw hS => ?_)
  exact z_reti C0 hw hS (Option.some.inj h) dX12_force_53
def M_X12_force_B79 (K57 : zSt → Int32 → Int32 → Int32 → Int32 → Int32 → Option (Int32 × zSt)) (S : zSt) (x1 : Int32) (x2 : Int32) (x3 : Int32) (x4 : Int32) (x5 : Int32) (y0 : Int32) (y1 : Int32) (y2 : Int32) (y3 : Int32) : Option (Int32 × zSt) :=
  Option.bind (M_X12_isEnough S y3 y2 y1 y0 x5) (fun w12 => (if w12.1 = 0 then K57 w12.2 x1 x2 x3 x4 ((x5 + 1)) else some (x5, w12.2)))
set_option maxHeartbeats 4000000 in
set_option maxRecDepth 100000 in
theorem t_X12_force_B79 {p : Program} {l : Launch} {e : Env} {s : State} {m : MethodId} {args : Array Value} {below : List Frame} {meth : Method} {c : Code} {D : va_G} {Y : Nat → ClassId} {F : Nat → Nat} {A : Nat → Prop} {G : zG} (C0 : zCx p s m args meth c D Y F A RX12 cX12_force 6 (some .int) wsX12_force) (res : Int32 × zSt) (K57 : zSt → Int32 → Int32 → Int32 → Int32 → Int32 → Option (Int32 × zSt)) (hK57 : ∀ (S : zSt) (x1 : Int32) (x2 : Int32) (x3 : Int32) (x4 : Int32) (x5 : Int32), K57 S x1 x2 x3 x4 x5 = some res → ∀ (H : Heap) (locs : List Loc) (ls : Array Slot), zH D Y F A G S H → va_S A s.heap H locs → lv_has ls 6 [(0, .ref (F 0)), (1, .int x1), (2, .int x2), (3, .int x3), (4, .int x4), (5, .int x5)] → W p l e (zRm 3 75) s m args below meth c H locs 0 0 (MQ below (zQi D Y F A G res) args s 0 0 A) (F0 m 57 ls [])) : ∀ (S : zSt) (x1 : Int32) (x2 : Int32) (x3 : Int32) (x4 : Int32) (x5 : Int32) (y0 : Int32) (y1 : Int32) (y2 : Int32) (y3 : Int32), M_X12_force_B79 K57 S x1 x2 x3 x4 x5 y0 y1 y2 y3 = some res → ∀ (H : Heap) (locs : List Loc) (ls : Array Slot), zH D Y F A G S H → va_S A s.heap H locs → lv_has ls 6 [(0, .ref (F 0)), (1, .int x1), (2, .int x2), (3, .int x3), (4, .int x4), (5, .int x5)] → W p l e (zRm 3 75) s m args below meth c H locs 0 0 (MQ below (zQi D Y F A G res) args s 0 0 A) (F0 m 79 ls [.int y0, .int y1, .int y2, .int y3, .ref (F 0)]) := by
  obtain ⟨hx, hb, hml, hr, hown, hts, hK, hA, hlk, hN⟩ := id C0
  intro S x1 x2 x3 x4 x5 y0 y1 y2 y3 h H locs ls hw hS hl
  unfold M_X12_force_B79 at h
  refine lv_iload hx hb dX12_force_79 (lv_at hl 5 rfl) ?_
  obtain ⟨w12, ew12, h⟩ := z_bd h
  refine z_callVi0 C0 hw hS (k := 0) (As := [.int y3, .int y2, .int y1, .int y0, .int x5]) (rest := []) rfl rfl rfl rfl (c_X12_isEnough l D Y F G S _ y3 y2 y1 y0 x5 w12 ew12) (cwV 5 hts gX12_force_X12_isEnough rfl rfl rfl (by decide +kernel) ⟨Nat.le_of_ble_eq_true rfl, Nat.le_of_ble_eq_true rfl⟩) rfl hl.1 rfl (Nat.le_of_ble_eq_true rfl) dX12_force_81 ⟨Nat.zero_le _, Nat.zero_le _⟩ (fun H locs hw hS => ?_)
  refine lv_if_eq (tgt := 90) hx hb dX12_force_84 (by decide) (fun c13 => ?_) (fun c13 => ?_)
  · replace h := z_ifp c13 h
    refine lv_iinc (v := (x5 + 1)) (lv' := [(5, .int ((x5 + 1))), (0, .ref (F 0)), (1, .int x1), (2, .int x2), (3, .int x3), (4, .int x4)]) hx hb dX12_force_90 hl (k := 5) rfl rfl (by decide) rfl (fun ls hl => ?_)
    refine lv_goto (tgt := 57) hx hb dX12_force_93 (by decide) ?_
    exact hK57 w12.2 x1 x2 x3 x4 ((x5 + 1)) h _ _ _ hw hS (lv_sub hl [1, 2, 3, 4, 5, 0] rfl)
  · replace h := z_ifn c13 h
    refine lv_iload hx hb dX12_force_87 (lv_at hl 5 rfl) ?_
    exact z_reti C0 hw hS (Option.some.inj h) dX12_force_89
def M_X12_force_B57 : Nat → zSt → Int32 → Int32 → Int32 → Int32 → Int32 → Option (Int32 × zSt)
  | 0, _, _, _, _, _, _ => none
  | n + 1, S, x1, x2, x3, x4, x5 =>
  (if 100 ≤ x5 then some ((-1), S) else (if x4 = 1 then M_X12_force_B79 (fun S_ x1_ x2_ x3_ x4_ x5_ => M_X12_force_B57 n S_ x1_ x2_ x3_ x4_ x5_) S x1 x2 x3 x4 x5 1 x3 x2 x1 else M_X12_force_B79 (fun S_ x1_ x2_ x3_ x4_ x5_ => M_X12_force_B57 n S_ x1_ x2_ x3_ x4_ x5_) S x1 x2 x3 x4 x5 0 x3 x2 x1))
set_option maxHeartbeats 4000000 in
set_option maxRecDepth 100000 in
theorem t_X12_force_B57 {p : Program} {l : Launch} {e : Env} {s : State} {m : MethodId} {args : Array Value} {below : List Frame} {meth : Method} {c : Code} {D : va_G} {Y : Nat → ClassId} {F : Nat → Nat} {A : Nat → Prop} {G : zG} (C0 : zCx p s m args meth c D Y F A RX12 cX12_force 6 (some .int) wsX12_force) (res : Int32 × zSt) : ∀ (n : Nat), ∀ (S : zSt) (x1 : Int32) (x2 : Int32) (x3 : Int32) (x4 : Int32) (x5 : Int32), M_X12_force_B57 n S x1 x2 x3 x4 x5 = some res → ∀ (H : Heap) (locs : List Loc) (ls : Array Slot), zH D Y F A G S H → va_S A s.heap H locs → lv_has ls 6 [(0, .ref (F 0)), (1, .int x1), (2, .int x2), (3, .int x3), (4, .int x4), (5, .int x5)] → W p l e (zRm 3 75) s m args below meth c H locs 0 0 (MQ below (zQi D Y F A G res) args s 0 0 A) (F0 m 57 ls []) := by
  obtain ⟨hx, hb, hml, hr, hown, hts, hK, hA, hlk, hN⟩ := id C0
  intro n
  induction n with
  | zero =>
    intro S x1 x2 x3 x4 x5 h
    unfold M_X12_force_B57 at h
    cases h
  | succ n ih =>
    intro S x1 x2 x3 x4 x5 h H locs ls hw hS hl
    rw [M_X12_force_B57] at h
    refine lv_iload hx hb dX12_force_57 (lv_at hl 5 rfl) ?_
    refine lv_bipush (v := 100) hx hb dX12_force_59 (by decide) ?_
    refine lv_icmp_ge (tgt := 96) hx hb dX12_force_61 (by decide) (fun c10 => ?_) (fun c10 => ?_)
    · replace h := z_ifp c10 h
      refine lv_iconst (v := (-1)) hx hb dX12_force_96 (by decide) ?_
      exact z_reti C0 hw hS (Option.some.inj h) dX12_force_97
    · replace h := z_ifn c10 h
      refine lv_aload_n hx hb dX12_force_64 rfl (lv_at hl 0 rfl) ?_
      refine lv_iload_n hx hb dX12_force_65 rfl (lv_at hl 1 rfl) ?_
      refine lv_iload_n hx hb dX12_force_66 rfl (lv_at hl 2 rfl) ?_
      refine lv_iload_n hx hb dX12_force_67 rfl (lv_at hl 3 rfl) ?_
      refine lv_iload hx hb dX12_force_68 (lv_at hl 4 rfl) ?_
      refine lv_iconst (v := 1) hx hb dX12_force_70 (by decide) ?_
      refine lv_icmp_ne (tgt := 78) hx hb dX12_force_71 (by decide) (fun c11 => ?_) (fun c11 => ?_)
      · replace h := z_ifn c11 h
        refine lv_iconst (v := 0) hx hb dX12_force_78 (by decide) ?_
        exact t_X12_force_B79 C0 res (fun S_ x1_ x2_ x3_ x4_ x5_ => M_X12_force_B57 n S_ x1_ x2_ x3_ x4_ x5_) ih S x1 x2 x3 x4 x5 0 x3 x2 x1 h _ _ _ hw hS (lv_sub hl [0, 1, 2, 3, 4, 5] rfl)
      · replace h := z_ifp c11 h
        refine lv_iconst (v := 1) hx hb dX12_force_74 (by decide) ?_
        refine lv_goto (tgt := 79) hx hb dX12_force_75 (by decide) ?_
        exact t_X12_force_B79 C0 res (fun S_ x1_ x2_ x3_ x4_ x5_ => M_X12_force_B57 n S_ x1_ x2_ x3_ x4_ x5_) ih S x1 x2 x3 x4 x5 1 x3 x2 x1 h _ _ _ hw hS (lv_sub hl [0, 1, 2, 3, 4, 5] rfl)
def M_X12_force (S : zSt) (x1 : Int32) (x2 : Int32) (x3 : Int32) (x4 : Int32) : Option (Int32 × zSt) :=
  Option.bind (M_X12_isPerson S x1) (fun w1 => (if w1 = 0 then Option.bind (M_X12_no10 S (-1)) (fun w15 => some (w15.1, w15.2)) else Option.bind (M_X12_within S x4 0 1) (fun w3 => (if w3 = 0 then Option.bind (M_X12_no10 S (-5)) (fun w14 => some (w14.1, w14.2)) else Option.bind (M_X12_isDeed S x2) (fun w5 => (if w5 = 0 then M_X12_force_B47 S else Option.bind (M_X12_lives S x1 x3) (fun w8 => (if w8 = 0 then M_X12_force_B47 S else M_X12_force_B57 zF S x1 x2 x3 x4 1))))))))
set_option maxHeartbeats 4000000 in
set_option maxRecDepth 100000 in
theorem c_X12_force (l : Launch) (D : va_G) (Y : Nat → ClassId) (F : Nat → Nat) (G : zG) (S : zSt) (sz : Nat) (x1 : Int32) (x2 : Int32) (x3 : Int32) (x4 : Int32) (res : Int32 × zSt) (h : M_X12_force S x1 x2 x3 x4 = some res) : Met l yX12_force wsX12_force (zRm 3 75) (zPc D Y F G S sz [.ref (F 0), .int x1, .int x2, .int x3, .int x4]) (zQi D Y F (zAo F G sz) G res) 0 0 (zAo F G sz) := by
  unfold M_X12_force at h
  refine zMet (cc := cX12_force) (maxL := 6) (ret := (some .int)) (own := RX12) (by decide +kernel) rfl rfl (Nat.le_of_ble_eq_true rfl) ?_
  intro p e s m args below meth c C0 hin hw hS ls hl
  have hl : lv_has ls 6 [(0, .ref (F 0)), (1, .int x1), (2, .int x2), (3, .int x3), (4, .int x4)] := hl
  generalize zAo F G sz = A at C0 hw hS ⊢
  obtain ⟨hx, hb, hml, hr, hown, hts, hK, hA, hlk, hN⟩ := id C0
  refine lv_aload_n hx hb dX12_force_0 rfl (lv_at hl 0 rfl) ?_
  refine lv_iload_n hx hb dX12_force_1 rfl (lv_at hl 1 rfl) ?_
  obtain ⟨w1, ew1, h⟩ := z_bd h
  refine z_callVip C0 hw hS (k := 0) (As := [.int x1]) (rest := []) rfl rfl rfl rfl (c_X12_isPerson l D Y F G S _ x1 w1 ew1) (cwV 1 hts gX12_force_X12_isPerson rfl rfl rfl (by decide +kernel) ⟨Nat.le_of_ble_eq_true rfl, Nat.le_of_ble_eq_true rfl⟩) rfl hl.1 rfl (Nat.le_of_ble_eq_true rfl) dX12_force_2 ⟨Nat.zero_le _, Nat.zero_le _⟩ (fun H locs hw hS => ?_)
  refine lv_if_ne (tgt := 14) hx hb dX12_force_5 (by decide) (fun c2 => ?_) (fun c2 => ?_)
  · replace h := z_ifn c2 h
    refine lv_iload hx hb dX12_force_14 (lv_at hl 4 rfl) ?_
    refine lv_iconst (v := 0) hx hb dX12_force_16 (by decide) ?_
    refine lv_iconst (v := 1) hx hb dX12_force_17 (by decide) ?_
    obtain ⟨w3, ew3, h⟩ := z_bd h
    refine z_callSip C0 hw hS (As := [.int x4, .int 0, .int 1]) (rest := []) (c_X12_within l D Y F G S _ x4 0 1 w3 ew3) (va_cwS 3 hts gX12_force_X12_within rfl rfl rfl (by decide +kernel) ⟨Nat.le_of_ble_eq_true rfl, Nat.le_of_ble_eq_true rfl⟩) rfl hl.1 rfl (Nat.le_of_ble_eq_true rfl) dX12_force_18 ⟨Nat.zero_le _, Nat.zero_le _⟩ (fun H locs hw hS => ?_)
    refine lv_if_ne (tgt := 31) hx hb dX12_force_21 (by decide) (fun c4 => ?_) (fun c4 => ?_)
    · replace h := z_ifn c4 h
      refine lv_iload_n hx hb dX12_force_31 rfl (lv_at hl 2 rfl) ?_
      obtain ⟨w5, ew5, h⟩ := z_bd h
      refine z_callSip C0 hw hS (As := [.int x2]) (rest := []) (c_X12_isDeed l D Y F G S _ x2 w5 ew5) (va_cwS 1 hts gX12_force_X12_isDeed rfl rfl rfl (by decide +kernel) ⟨Nat.le_of_ble_eq_true rfl, Nat.le_of_ble_eq_true rfl⟩) rfl hl.1 rfl (Nat.le_of_ble_eq_true rfl) dX12_force_32 ⟨Nat.zero_le _, Nat.zero_le _⟩ (fun H locs hw hS => ?_)
      refine lv_if_eq (tgt := 47) hx hb dX12_force_35 (by decide) (fun c6 => ?_) (fun c6 => ?_)
      · replace h := z_ifp c6 h
        exact t_X12_force_B47 C0 res S h _ _ _ hw hS (lv_sub hl [0] rfl)
      · replace h := z_ifn c6 h
        refine lv_aload_n hx hb dX12_force_38 rfl (lv_at hl 0 rfl) ?_
        refine lv_iload_n hx hb dX12_force_39 rfl (lv_at hl 1 rfl) ?_
        refine lv_iload_n hx hb dX12_force_40 rfl (lv_at hl 3 rfl) ?_
        obtain ⟨w8, ew8, h⟩ := z_bd h
        refine z_callVip C0 hw hS (k := 0) (As := [.int x1, .int x3]) (rest := []) rfl rfl rfl rfl (c_X12_lives l D Y F G S _ x1 x3 w8 ew8) (cwV 2 hts gX12_force_X12_lives rfl rfl rfl (by decide +kernel) ⟨Nat.le_of_ble_eq_true rfl, Nat.le_of_ble_eq_true rfl⟩) rfl hl.1 rfl (Nat.le_of_ble_eq_true rfl) dX12_force_41 ⟨Nat.zero_le _, Nat.zero_le _⟩ (fun H locs hw hS => ?_)
        refine lv_if_ne (tgt := 54) hx hb dX12_force_44 (by decide) (fun c9 => ?_) (fun c9 => ?_)
        · replace h := z_ifn c9 h
          refine lv_iconst (v := 1) hx hb dX12_force_54 (by decide) ?_
          refine lv_istore (lv' := [(5, .int 1), (0, .ref (F 0)), (1, .int x1), (2, .int x2), (3, .int x3), (4, .int x4)]) hx hb dX12_force_55 hl (by decide) rfl (fun ls hl => ?_)
          exact t_X12_force_B57 C0 res zF S x1 x2 x3 x4 1 h _ _ _ hw hS (lv_sub hl [1, 2, 3, 4, 5, 0] rfl)
        · replace h := z_ifp c9 h
          exact t_X12_force_B47 C0 res S h _ _ _ hw hS (lv_sub hl [0] rfl)
    · replace h := z_ifp c4 h
      refine lv_aload_n hx hb dX12_force_24 rfl (lv_at hl 0 rfl) ?_
      refine lv_bipush (v := (-5)) hx hb dX12_force_25 (by decide) ?_
      obtain ⟨w14, ew14, h⟩ := z_bd h
      refine z_callVi0 C0 hw hS (k := 0) (As := [.int (-5)]) (rest := []) rfl rfl rfl rfl (c_X12_no10 l D Y F G S _ (-5) w14 ew14) (cwV 1 hts gX12_force_X12_no10 rfl rfl rfl (by decide +kernel) ⟨Nat.le_of_ble_eq_true rfl, Nat.le_of_ble_eq_true rfl⟩) rfl hl.1 rfl (Nat.le_of_ble_eq_true rfl) dX12_force_27 ⟨Nat.zero_le _, Nat.zero_le _⟩ (fun H locs hw hS => ?_)
      exact z_reti C0 hw hS (Option.some.inj h) dX12_force_30
  · replace h := z_ifp c2 h
    refine lv_aload_n hx hb dX12_force_8 rfl (lv_at hl 0 rfl) ?_
    refine lv_iconst (v := (-1)) hx hb dX12_force_9 (by decide) ?_
    obtain ⟨w15, ew15, h⟩ := z_bd h
    refine z_callVi0 C0 hw hS (k := 0) (As := [.int (-1)]) (rest := []) rfl rfl rfl rfl (c_X12_no10 l D Y F G S _ (-1) w15 ew15) (cwV 1 hts gX12_force_X12_no10 rfl rfl rfl (by decide +kernel) ⟨Nat.le_of_ble_eq_true rfl, Nat.le_of_ble_eq_true rfl⟩) rfl hl.1 rfl (Nat.le_of_ble_eq_true rfl) dX12_force_10 ⟨Nat.zero_le _, Nat.zero_le _⟩ (fun H locs hw hS => ?_)
    exact z_reti C0 hw hS (Option.some.inj h) dX12_force_13
def M_X12_got_B33 (S : zSt) : Option (Int32 × zSt) :=
  Option.bind (M_X12_no S (-6)) (fun w5 => some (w5.1, w5.2))
set_option maxHeartbeats 4000000 in
set_option maxRecDepth 100000 in
theorem t_X12_got_B33 {p : Program} {l : Launch} {e : Env} {s : State} {m : MethodId} {args : Array Value} {below : List Frame} {meth : Method} {c : Code} {D : va_G} {Y : Nat → ClassId} {F : Nat → Nat} {A : Nat → Prop} {G : zG} (C0 : zCx p s m args meth c D Y F A RX12 cX12_got 4 (some .int) wsX12_got) (res : Int32 × zSt) : ∀ (S : zSt), M_X12_got_B33 S = some res → ∀ (H : Heap) (locs : List Loc) (ls : Array Slot), zH D Y F A G S H → va_S A s.heap H locs → lv_has ls 4 [(0, .ref (F 0))] → W p l e (zRm 3 64) s m args below meth c H locs 0 0 (MQ below (zQi D Y F A G res) args s 0 0 A) (F0 m 33 ls []) := by
  obtain ⟨hx, hb, hml, hr, hown, hts, hK, hA, hlk, hN⟩ := id C0
  intro S h H locs ls hw hS hl
  unfold M_X12_got_B33 at h
  refine lv_aload_n hx hb dX12_got_33 rfl (lv_at hl 0 rfl) ?_
  refine lv_bipush (v := (-6)) hx hb dX12_got_34 (by decide) ?_
  obtain ⟨w5, ew5, h⟩ := z_bd h
  refine z_callVi0 C0 hw hS (k := 0) (As := [.int (-6)]) (rest := []) rfl rfl rfl rfl (c_X12_no l D Y F G S _ (-6) w5 ew5) (cwV 1 hts gX12_got_X12_no rfl rfl rfl (by decide +kernel) ⟨Nat.le_of_ble_eq_true rfl, Nat.le_of_ble_eq_true rfl⟩) rfl hl.1 rfl (Nat.le_of_ble_eq_true rfl) dX12_got_36 ⟨Nat.zero_le _, Nat.zero_le _⟩ (fun H locs hw hS => ?_)
  exact z_reti C0 hw hS (Option.some.inj h) dX12_got_39
def M_X12_got (S : zSt) (x1 : Int32) (x2 : Int32) (x3 : Int32) : Option (Int32 × zSt) :=
  Option.bind (M_X12_isPerson S x1) (fun w1 => (if w1 = 0 then Option.bind (M_X12_no S (-1)) (fun w10 => some (w10.1, w10.2)) else Option.bind (M_X12_lives S x1 x2) (fun w3 => (if w3 = 0 then M_X12_got_B33 S else Option.bind (M_X12_within S x3 1 99) (fun w6 => (if w6 = 0 then M_X12_got_B33 S else Option.bind (M_X12_gives S x1 x3) (fun w8 => zg (zin x2 6) (some ((zar w8 16 (Int32.toNatClampNeg x2)), w8)))))))))
set_option maxHeartbeats 4000000 in
set_option maxRecDepth 100000 in
theorem c_X12_got (l : Launch) (D : va_G) (Y : Nat → ClassId) (F : Nat → Nat) (G : zG) (S : zSt) (sz : Nat) (x1 : Int32) (x2 : Int32) (x3 : Int32) (res : Int32 × zSt) (h : M_X12_got S x1 x2 x3 = some res) : Met l yX12_got wsX12_got (zRm 3 64) (zPc D Y F G S sz [.ref (F 0), .int x1, .int x2, .int x3]) (zQi D Y F (zAo F G sz) G res) 0 0 (zAo F G sz) := by
  unfold M_X12_got at h
  refine zMet (cc := cX12_got) (maxL := 4) (ret := (some .int)) (own := RX12) (by decide +kernel) rfl rfl (Nat.le_of_ble_eq_true rfl) ?_
  intro p e s m args below meth c C0 hin hw hS ls hl
  have hl : lv_has ls 4 [(0, .ref (F 0)), (1, .int x1), (2, .int x2), (3, .int x3)] := hl
  generalize zAo F G sz = A at C0 hw hS ⊢
  obtain ⟨hx, hb, hml, hr, hown, hts, hK, hA, hlk, hN⟩ := id C0
  refine lv_aload_n hx hb dX12_got_0 rfl (lv_at hl 0 rfl) ?_
  refine lv_iload_n hx hb dX12_got_1 rfl (lv_at hl 1 rfl) ?_
  obtain ⟨w1, ew1, h⟩ := z_bd h
  refine z_callVip C0 hw hS (k := 0) (As := [.int x1]) (rest := []) rfl rfl rfl rfl (c_X12_isPerson l D Y F G S _ x1 w1 ew1) (cwV 1 hts gX12_got_X12_isPerson rfl rfl rfl (by decide +kernel) ⟨Nat.le_of_ble_eq_true rfl, Nat.le_of_ble_eq_true rfl⟩) rfl hl.1 rfl (Nat.le_of_ble_eq_true rfl) dX12_got_2 ⟨Nat.zero_le _, Nat.zero_le _⟩ (fun H locs hw hS => ?_)
  refine lv_if_ne (tgt := 14) hx hb dX12_got_5 (by decide) (fun c2 => ?_) (fun c2 => ?_)
  · replace h := z_ifn c2 h
    refine lv_aload_n hx hb dX12_got_14 rfl (lv_at hl 0 rfl) ?_
    refine lv_iload_n hx hb dX12_got_15 rfl (lv_at hl 1 rfl) ?_
    refine lv_iload_n hx hb dX12_got_16 rfl (lv_at hl 2 rfl) ?_
    obtain ⟨w3, ew3, h⟩ := z_bd h
    refine z_callVip C0 hw hS (k := 0) (As := [.int x1, .int x2]) (rest := []) rfl rfl rfl rfl (c_X12_lives l D Y F G S _ x1 x2 w3 ew3) (cwV 2 hts gX12_got_X12_lives rfl rfl rfl (by decide +kernel) ⟨Nat.le_of_ble_eq_true rfl, Nat.le_of_ble_eq_true rfl⟩) rfl hl.1 rfl (Nat.le_of_ble_eq_true rfl) dX12_got_17 ⟨Nat.zero_le _, Nat.zero_le _⟩ (fun H locs hw hS => ?_)
    refine lv_if_eq (tgt := 33) hx hb dX12_got_20 (by decide) (fun c4 => ?_) (fun c4 => ?_)
    · replace h := z_ifp c4 h
      exact t_X12_got_B33 C0 res S h _ _ _ hw hS (lv_sub hl [0] rfl)
    · replace h := z_ifn c4 h
      refine lv_iload_n hx hb dX12_got_23 rfl (lv_at hl 3 rfl) ?_
      refine lv_iconst (v := 1) hx hb dX12_got_24 (by decide) ?_
      refine lv_bipush (v := 99) hx hb dX12_got_25 (by decide) ?_
      obtain ⟨w6, ew6, h⟩ := z_bd h
      refine z_callSip C0 hw hS (As := [.int x3, .int 1, .int 99]) (rest := []) (c_X12_within l D Y F G S _ x3 1 99 w6 ew6) (va_cwS 3 hts gX12_got_X12_within rfl rfl rfl (by decide +kernel) ⟨Nat.le_of_ble_eq_true rfl, Nat.le_of_ble_eq_true rfl⟩) rfl hl.1 rfl (Nat.le_of_ble_eq_true rfl) dX12_got_27 ⟨Nat.zero_le _, Nat.zero_le _⟩ (fun H locs hw hS => ?_)
      refine lv_if_ne (tgt := 40) hx hb dX12_got_30 (by decide) (fun c7 => ?_) (fun c7 => ?_)
      · replace h := z_ifn c7 h
        refine lv_aload_n hx hb dX12_got_40 rfl (lv_at hl 0 rfl) ?_
        refine lv_iload_n hx hb dX12_got_41 rfl (lv_at hl 1 rfl) ?_
        refine lv_iload_n hx hb dX12_got_42 rfl (lv_at hl 3 rfl) ?_
        obtain ⟨w8, ew8, h⟩ := z_bd h
        refine z_callVv0 C0 hw hS (k := 0) (As := [.int x1, .int x3]) (rest := []) rfl rfl rfl rfl (c_X12_gives l D Y F G S _ x1 x3 w8 ew8) (cwV 2 hts gX12_got_X12_gives rfl rfl rfl (by decide +kernel) ⟨Nat.le_of_ble_eq_true rfl, Nat.le_of_ble_eq_true rfl⟩) rfl hl.1 rfl (Nat.le_of_ble_eq_true rfl) dX12_got_43 ⟨Nat.zero_le _, Nat.zero_le _⟩ (fun H locs hw hS => ?_)
        refine lv_aload_n hx hb dX12_got_46 rfl (lv_at hl 0 rfl) ?_
        refine z_get C0 in_X12_got_X12 (C := RX12) (T := TX12) (N := 27) hw (k := 0) (ci := 12) (v := .ref (F 16)) rfl rfl rfl rfl 23 (by decide) rfl 1 rfl dX12_got_47 ?_
        refine lv_iload_n hx hb dX12_got_50 rfl (lv_at hl 2 rfl) ?_
        obtain ⟨b9, h⟩ := z_gd h
        refine z_iald C0 hw 16 rfl rfl zri_16 (zin_in b9) dX12_got_51 ?_
        exact z_reti C0 hw hS (Option.some.inj h) dX12_got_52
      · replace h := z_ifp c7 h
        exact t_X12_got_B33 C0 res S h _ _ _ hw hS (lv_sub hl [0] rfl)
  · replace h := z_ifp c2 h
    refine lv_aload_n hx hb dX12_got_8 rfl (lv_at hl 0 rfl) ?_
    refine lv_iconst (v := (-1)) hx hb dX12_got_9 (by decide) ?_
    obtain ⟨w10, ew10, h⟩ := z_bd h
    refine z_callVi0 C0 hw hS (k := 0) (As := [.int (-1)]) (rest := []) rfl rfl rfl rfl (c_X12_no l D Y F G S _ (-1) w10 ew10) (cwV 1 hts gX12_got_X12_no rfl rfl rfl (by decide +kernel) ⟨Nat.le_of_ble_eq_true rfl, Nat.le_of_ble_eq_true rfl⟩) rfl hl.1 rfl (Nat.le_of_ble_eq_true rfl) dX12_got_10 ⟨Nat.zero_le _, Nat.zero_le _⟩ (fun H locs hw hS => ?_)
    exact z_reti C0 hw hS (Option.some.inj h) dX12_got_13
def M_X12_toldAt (S : zSt) (x1 : Int32) (x2 : Int32) : Option (Int32) :=
  zg (zin ((((160 : Int32) * x1) + x2)) 1280) (some ((Int64.toInt32 ((zlo S 3 (Int32.toNatClampNeg ((((160 : Int32) * x1) + x2))))))))
set_option maxHeartbeats 4000000 in
set_option maxRecDepth 100000 in
theorem c_X12_toldAt (l : Launch) (D : va_G) (Y : Nat → ClassId) (F : Nat → Nat) (G : zG) (S : zSt) (sz : Nat) (x1 : Int32) (x2 : Int32) (res : Int32) (h : M_X12_toldAt S x1 x2 = some res) : Met l yX12_toldAt wsX12_toldAt (zRm 0 0) (zPc D Y F G S sz [.ref (F 0), .int x1, .int x2]) (zQi D Y F (zAo F G sz) G (res, S)) 0 0 (zAo F G sz) := by
  unfold M_X12_toldAt at h
  refine zMet (cc := cX12_toldAt) (maxL := 3) (ret := (some .int)) (own := RX12) (by decide +kernel) rfl rfl (Nat.le_of_ble_eq_true rfl) ?_
  intro p e s m args below meth c C0 hin hw hS ls hl
  have hl : lv_has ls 3 [(0, .ref (F 0)), (1, .int x1), (2, .int x2)] := hl
  generalize zAo F G sz = A at C0 hw hS ⊢
  obtain ⟨hx, hb, hml, hr, hown, hts, hK, hA, hlk, hN⟩ := id C0
  refine lv_aload_n hx hb dX12_toldAt_0 rfl (lv_at hl 0 rfl) ?_
  refine z_get C0 in_X12_toldAt_X12 (C := RX12) (T := TX12) (N := 27) hw (k := 0) (ci := 12) (v := .ref (F 3)) rfl rfl rfl rfl 2 (by decide) rfl 1 rfl dX12_toldAt_1 ?_
  refine lv_sipush (v := 160) hx hb dX12_toldAt_4 (by decide) ?_
  refine lv_iload_n hx hb dX12_toldAt_7 rfl (lv_at hl 1 rfl) ?_
  refine lv_imul hx hb dX12_toldAt_8 ?_
  refine lv_iload_n hx hb dX12_toldAt_9 rfl (lv_at hl 2 rfl) ?_
  refine lv_iadd hx hb dX12_toldAt_10 ?_
  obtain ⟨b1, h⟩ := z_gd h
  refine z_lald C0 hw 3 rfl rfl zri_3 (zin_in b1) dX12_toldAt_11 ?_
  refine lv_l2i (v := (Int64.toInt32 ((zlo S 3 (Int32.toNatClampNeg ((((160 : Int32) * x1) + x2))))))) hx hb dX12_toldAt_12 rfl ?_
  exact z_reti C0 hw hS (congrArg (fun z => (z, S)) (Option.some.inj h)) dX12_toldAt_13
def M_X12_noTold (S : zSt) (x1 : Int32) (x2 : Int32) (x3 : Int32) (x4 : Int32) : Option (Int32) :=
  Option.bind (M_X12_noRow S x1) (fun w1 => (if 0 ≤ w1 then (if 0 ≤ x2 then zg (zin x1 8) ((if x2 ≤ (zar S 2 (Int32.toNatClampNeg x1)) then Option.bind (M_X12_within S x2 x3 x4) (fun w6 => (if w6 = 0 then some (-6) else some 0)) else some (-5))) else some (-4)) else some w1))
set_option maxHeartbeats 4000000 in
set_option maxRecDepth 100000 in
theorem c_X12_noTold (l : Launch) (D : va_G) (Y : Nat → ClassId) (F : Nat → Nat) (G : zG) (S : zSt) (sz : Nat) (x1 : Int32) (x2 : Int32) (x3 : Int32) (x4 : Int32) (res : Int32) (h : M_X12_noTold S x1 x2 x3 x4 = some res) : Met l yX12_noTold wsX12_noTold (zRm 2 43) (zPc D Y F G S sz [.ref (F 0), .int x1, .int x2, .int x3, .int x4]) (zQi D Y F (zAo F G sz) G (res, S)) 0 0 (zAo F G sz) := by
  unfold M_X12_noTold at h
  refine zMet (cc := cX12_noTold) (maxL := 6) (ret := (some .int)) (own := RX12) (by decide +kernel) rfl rfl (Nat.le_of_ble_eq_true rfl) ?_
  intro p e s m args below meth c C0 hin hw hS ls hl
  have hl : lv_has ls 6 [(0, .ref (F 0)), (1, .int x1), (2, .int x2), (3, .int x3), (4, .int x4)] := hl
  generalize zAo F G sz = A at C0 hw hS ⊢
  obtain ⟨hx, hb, hml, hr, hown, hts, hK, hA, hlk, hN⟩ := id C0
  refine lv_aload_n hx hb dX12_noTold_0 rfl (lv_at hl 0 rfl) ?_
  refine lv_iload_n hx hb dX12_noTold_1 rfl (lv_at hl 1 rfl) ?_
  obtain ⟨w1, ew1, h⟩ := z_bd h
  refine z_callVip C0 hw hS (k := 0) (As := [.int x1]) (rest := []) rfl rfl rfl rfl (c_X12_noRow l D Y F G S _ x1 w1 ew1) (cwV 1 hts gX12_noTold_X12_noRow rfl rfl rfl (by decide +kernel) ⟨Nat.le_of_ble_eq_true rfl, Nat.le_of_ble_eq_true rfl⟩) rfl hl.1 rfl (Nat.le_of_ble_eq_true rfl) dX12_noTold_2 ⟨Nat.zero_le _, Nat.zero_le _⟩ (fun H locs hw hS => ?_)
  refine lv_istore (lv' := [(5, .int w1), (0, .ref (F 0)), (1, .int x1), (2, .int x2), (3, .int x3), (4, .int x4)]) hx hb dX12_noTold_5 hl (by decide) rfl (fun ls hl => ?_)
  refine lv_iload hx hb dX12_noTold_7 (lv_at hl 0 rfl) ?_
  refine lv_if_ge (tgt := 15) hx hb dX12_noTold_9 (by decide) (fun c2 => ?_) (fun c2 => ?_)
  · replace h := z_ifp c2 h
    refine lv_iload_n hx hb dX12_noTold_15 rfl (lv_at hl 3 rfl) ?_
    refine lv_if_ge (tgt := 22) hx hb dX12_noTold_16 (by decide) (fun c3 => ?_) (fun c3 => ?_)
    · replace h := z_ifp c3 h
      refine lv_iload_n hx hb dX12_noTold_22 rfl (lv_at hl 3 rfl) ?_
      refine lv_aload_n hx hb dX12_noTold_23 rfl (lv_at hl 1 rfl) ?_
      refine z_get C0 in_X12_noTold_X12 (C := RX12) (T := TX12) (N := 27) hw (k := 0) (ci := 12) (v := .ref (F 2)) rfl rfl rfl rfl 1 (by decide) rfl 1 rfl dX12_noTold_24 ?_
      refine lv_iload_n hx hb dX12_noTold_27 rfl (lv_at hl 2 rfl) ?_
      obtain ⟨b4, h⟩ := z_gd h
      refine z_iald C0 hw 2 rfl rfl zri_2 (zin_in b4) dX12_noTold_28 ?_
      refine lv_icmp_le (tgt := 35) hx hb dX12_noTold_29 (by decide) (fun c5 => ?_) (fun c5 => ?_)
      · replace h := z_ifp c5 h
        refine lv_iload_n hx hb dX12_noTold_35 rfl (lv_at hl 3 rfl) ?_
        refine lv_iload_n hx hb dX12_noTold_36 rfl (lv_at hl 4 rfl) ?_
        refine lv_iload hx hb dX12_noTold_37 (lv_at hl 5 rfl) ?_
        obtain ⟨w6, ew6, h⟩ := z_bd h
        refine z_callSip C0 hw hS (As := [.int x2, .int x3, .int x4]) (rest := []) (c_X12_within l D Y F G S _ x2 x3 x4 w6 ew6) (va_cwS 3 hts gX12_noTold_X12_within rfl rfl rfl (by decide +kernel) ⟨Nat.le_of_ble_eq_true rfl, Nat.le_of_ble_eq_true rfl⟩) rfl hl.1 rfl (Nat.le_of_ble_eq_true rfl) dX12_noTold_39 ⟨Nat.zero_le _, Nat.zero_le _⟩ (fun H locs hw hS => ?_)
        refine lv_if_eq (tgt := 49) hx hb dX12_noTold_42 (by decide) (fun c7 => ?_) (fun c7 => ?_)
        · replace h := z_ifp c7 h
          refine lv_bipush (v := (-6)) hx hb dX12_noTold_49 (by decide) ?_
          exact z_reti C0 hw hS (congrArg (fun z => (z, S)) (Option.some.inj h)) dX12_noTold_51
        · replace h := z_ifn c7 h
          refine lv_iconst (v := 0) hx hb dX12_noTold_45 (by decide) ?_
          refine lv_goto (tgt := 51) hx hb dX12_noTold_46 (by decide) ?_
          exact z_reti C0 hw hS (congrArg (fun z => (z, S)) (Option.some.inj h)) dX12_noTold_51
      · replace h := z_ifn c5 h
        refine lv_bipush (v := (-5)) hx hb dX12_noTold_32 (by decide) ?_
        exact z_reti C0 hw hS (congrArg (fun z => (z, S)) (Option.some.inj h)) dX12_noTold_34
    · replace h := z_ifn c3 h
      refine lv_bipush (v := (-4)) hx hb dX12_noTold_19 (by decide) ?_
      exact z_reti C0 hw hS (congrArg (fun z => (z, S)) (Option.some.inj h)) dX12_noTold_21
  · replace h := z_ifn c2 h
    refine lv_iload hx hb dX12_noTold_12 (lv_at hl 0 rfl) ?_
    exact z_reti C0 hw hS (congrArg (fun z => (z, S)) (Option.some.inj h)) dX12_noTold_14
def M_X12_fits_B16 (S : zSt) : Nat → Int32 → Int32 → Int32 → Int32 → Int32 → Int32 → Option (Int32)
  | 0, _, _, _, _, _, _ => none
  | n + 1, x1, x2, x3, x4, x5, x6 =>
  (if x2 ≤ x6 then some 1 else Option.bind (M_X12_toldAt S x1 x6) (fun w4 => Option.bind (M_X12_strengthOf S x4 x5 x6) (fun w5 => (if (lg_cmp ((if 0 < (((Int32.toInt64 w4) - (Int32.toInt64 w5))) then ((Int32.toInt64 w4) - (Int32.toInt64 w5)) else -(((Int32.toInt64 w4) - (Int32.toInt64 w5))))) ((Int32.toInt64 x3))) ≤ 0 then M_X12_fits_B16 S n x1 x2 x3 x4 x5 ((x6 + 1)) else some 0))))
set_option maxHeartbeats 4000000 in
set_option maxRecDepth 100000 in
theorem t_X12_fits_B16 {p : Program} {l : Launch} {e : Env} {s : State} {m : MethodId} {args : Array Value} {below : List Frame} {meth : Method} {c : Code} {D : va_G} {Y : Nat → ClassId} {F : Nat → Nat} {A : Nat → Prop} {G : zG} (C0 : zCx p s m args meth c D Y F A RX12 cX12_fits 7 (some .boolean) wsX12_fits) (S : zSt) (res : Int32) : ∀ (n : Nat), ∀ (x1 : Int32) (x2 : Int32) (x3 : Int32) (x4 : Int32) (x5 : Int32) (x6 : Int32), M_X12_fits_B16 S n x1 x2 x3 x4 x5 x6 = some res → ∀ (H : Heap) (locs : List Loc) (ls : Array Slot), zH D Y F A G S H → va_S A s.heap H locs → lv_has ls 7 [(0, .ref (F 0)), (1, .int x1), (2, .int x2), (3, .int x3), (4, .int x4), (5, .int x5), (6, .int x6)] → W p l e (zRm 3 64) s m args below meth c H locs 0 0 (MQ below (zQi D Y F A G (res, S)) args s 0 0 A) (F0 m 16 ls []) := by
  obtain ⟨hx, hb, hml, hr, hown, hts, hK, hA, hlk, hN⟩ := id C0
  intro n
  induction n with
  | zero =>
    intro x1 x2 x3 x4 x5 x6 h
    unfold M_X12_fits_B16 at h
    cases h
  | succ n ih =>
    intro x1 x2 x3 x4 x5 x6 h H locs ls hw hS hl
    rw [M_X12_fits_B16] at h
    refine lv_iload hx hb dX12_fits_16 (lv_at hl 6 rfl) ?_
    refine lv_iload_n hx hb dX12_fits_18 rfl (lv_at hl 2 rfl) ?_
    refine lv_icmp_ge (tgt := 59) hx hb dX12_fits_19 (by decide) (fun c3 => ?_) (fun c3 => ?_)
    · replace h := z_ifp c3 h
      refine lv_iconst (v := 1) hx hb dX12_fits_59 (by decide) ?_
      exact z_retz C0 hw hS rfl (congrArg (fun z => (z, S)) (Option.some.inj h)) dX12_fits_60
    · replace h := z_ifn c3 h
      refine lv_aload_n hx hb dX12_fits_22 rfl (lv_at hl 0 rfl) ?_
      refine lv_iload_n hx hb dX12_fits_23 rfl (lv_at hl 1 rfl) ?_
      refine lv_iload hx hb dX12_fits_24 (lv_at hl 6 rfl) ?_
      obtain ⟨w4, ew4, h⟩ := z_bd h
      refine z_callVip C0 hw hS (k := 0) (As := [.int x1, .int x6]) (rest := []) rfl rfl rfl rfl (c_X12_toldAt l D Y F G S _ x1 x6 w4 ew4) (cwV 2 hts gX12_fits_X12_toldAt rfl rfl rfl (by decide +kernel) ⟨Nat.le_of_ble_eq_true rfl, Nat.le_of_ble_eq_true rfl⟩) rfl hl.1 rfl (Nat.le_of_ble_eq_true rfl) dX12_fits_26 ⟨Nat.zero_le _, Nat.zero_le _⟩ (fun H locs hw hS => ?_)
      refine lv_i2l (v := (Int32.toInt64 w4)) hx hb dX12_fits_29 rfl ?_
      refine lv_aload_n hx hb dX12_fits_30 rfl (lv_at hl 0 rfl) ?_
      refine lv_iload hx hb dX12_fits_31 (lv_at hl 4 rfl) ?_
      refine lv_iload hx hb dX12_fits_33 (lv_at hl 5 rfl) ?_
      refine lv_iload hx hb dX12_fits_35 (lv_at hl 6 rfl) ?_
      obtain ⟨w5, ew5, h⟩ := z_bd h
      refine z_callVip C0 hw hS (k := 0) (As := [.int x4, .int x5, .int x6]) (rest := [.long ((Int32.toInt64 w4))]) rfl rfl rfl rfl (c_X12_strengthOf l D Y F G S _ x4 x5 x6 w5 ew5) (cwV 3 hts gX12_fits_X12_strengthOf rfl rfl rfl (by decide +kernel) ⟨Nat.le_of_ble_eq_true rfl, Nat.le_of_ble_eq_true rfl⟩) rfl hl.1 rfl (Nat.le_of_ble_eq_true rfl) dX12_fits_37 ⟨Nat.zero_le _, Nat.zero_le _⟩ (fun H locs hw hS => ?_)
      refine lv_i2l (v := (Int32.toInt64 w5)) hx hb dX12_fits_40 rfl ?_
      refine lv_lsub hx hb dX12_fits_41 ?_
      refine va_mabs_long hx hb (hml.trans hl.1.symm) hown (hts _ (List.mem_of_getElem? (i := 1) rfl)) (hts _ (List.mem_of_getElem? (i := 2) rfl)) (hts _ (List.mem_of_getElem? (i := 3) rfl)) (hts _ (List.mem_of_getElem? (i := 4) rfl)) (Nat.le_of_ble_eq_true rfl) (Nat.le_of_ble_eq_true rfl) (Nat.zero_le _) (Nat.zero_le _) dX12_fits_42 ?_
      refine lv_iload_n hx hb dX12_fits_45 rfl (lv_at hl 3 rfl) ?_
      refine lv_i2l (v := (Int32.toInt64 x3)) hx hb dX12_fits_46 rfl ?_
      refine W.lcmp hx hb dX12_fits_47 ?_
      refine lv_if_le (tgt := 53) hx hb dX12_fits_48 (by decide) (fun c6 => ?_) (fun c6 => ?_)
      · replace h := z_ifp c6 h
        refine lv_iinc (v := (x6 + 1)) (lv' := [(6, .int ((x6 + 1))), (0, .ref (F 0)), (1, .int x1), (2, .int x2), (3, .int x3), (4, .int x4), (5, .int x5)]) hx hb dX12_fits_53 hl (k := 6) rfl rfl (by decide) rfl (fun ls hl => ?_)
        refine lv_goto (tgt := 16) hx hb dX12_fits_56 (by decide) ?_
        exact ih x1 x2 x3 x4 x5 ((x6 + 1)) h _ _ _ hw hS (lv_sub hl [1, 2, 3, 4, 5, 6, 0] rfl)
      · replace h := z_ifn c6 h
        refine lv_iconst (v := 0) hx hb dX12_fits_51 (by decide) ?_
        exact z_retz C0 hw hS rfl (congrArg (fun z => (z, S)) (Option.some.inj h)) dX12_fits_52
def M_X12_fits (S : zSt) (x1 : Int32) (x2 : Int32) (x3 : Int32) (x4 : Int32) (x5 : Int32) : Option (Int32) :=
  Option.bind (M_X12_lives S x4 x5) (fun w1 => (if w1 = 0 then some 0 else M_X12_fits_B16 S zF x1 x2 x3 x4 x5 0))
set_option maxHeartbeats 4000000 in
set_option maxRecDepth 100000 in
theorem c_X12_fits (l : Launch) (D : va_G) (Y : Nat → ClassId) (F : Nat → Nat) (G : zG) (S : zSt) (sz : Nat) (x1 : Int32) (x2 : Int32) (x3 : Int32) (x4 : Int32) (x5 : Int32) (res : Int32) (h : M_X12_fits S x1 x2 x3 x4 x5 = some res) : Met l yX12_fits wsX12_fits (zRm 3 64) (zPc D Y F G S sz [.ref (F 0), .int x1, .int x2, .int x3, .int x4, .int x5]) (zQi D Y F (zAo F G sz) G (res, S)) 0 0 (zAo F G sz) := by
  unfold M_X12_fits at h
  refine zMet (cc := cX12_fits) (maxL := 7) (ret := (some .boolean)) (own := RX12) (by decide +kernel) rfl rfl (Nat.le_of_ble_eq_true rfl) ?_
  intro p e s m args below meth c C0 hin hw hS ls hl
  have hl : lv_has ls 7 [(0, .ref (F 0)), (1, .int x1), (2, .int x2), (3, .int x3), (4, .int x4), (5, .int x5)] := hl
  generalize zAo F G sz = A at C0 hw hS ⊢
  obtain ⟨hx, hb, hml, hr, hown, hts, hK, hA, hlk, hN⟩ := id C0
  refine lv_aload_n hx hb dX12_fits_0 rfl (lv_at hl 0 rfl) ?_
  refine lv_iload hx hb dX12_fits_1 (lv_at hl 4 rfl) ?_
  refine lv_iload hx hb dX12_fits_3 (lv_at hl 5 rfl) ?_
  obtain ⟨w1, ew1, h⟩ := z_bd h
  refine z_callVip C0 hw hS (k := 0) (As := [.int x4, .int x5]) (rest := []) rfl rfl rfl rfl (c_X12_lives l D Y F G S _ x4 x5 w1 ew1) (cwV 2 hts gX12_fits_X12_lives rfl rfl rfl (by decide +kernel) ⟨Nat.le_of_ble_eq_true rfl, Nat.le_of_ble_eq_true rfl⟩) rfl hl.1 rfl (Nat.le_of_ble_eq_true rfl) dX12_fits_5 ⟨Nat.zero_le _, Nat.zero_le _⟩ (fun H locs hw hS => ?_)
  refine lv_if_ne (tgt := 13) hx hb dX12_fits_8 (by decide) (fun c2 => ?_) (fun c2 => ?_)
  · replace h := z_ifn c2 h
    refine lv_iconst (v := 0) hx hb dX12_fits_13 (by decide) ?_
    refine lv_istore (lv' := [(6, .int 0), (0, .ref (F 0)), (1, .int x1), (2, .int x2), (3, .int x3), (4, .int x4), (5, .int x5)]) hx hb dX12_fits_14 hl (by decide) rfl (fun ls hl => ?_)
    exact t_X12_fits_B16 C0 S res zF x1 x2 x3 x4 x5 0 h _ _ _ hw hS (lv_sub hl [1, 2, 3, 4, 5, 6, 0] rfl)
  · replace h := z_ifp c2 h
    refine lv_iconst (v := 0) hx hb dX12_fits_11 (by decide) ?_
    exact z_retz C0 hw hS rfl (congrArg (fun z => (z, S)) (Option.some.inj h)) dX12_fits_12
def M_X12_which_B63 (K51 : zSt → Int32 → Int32 → Int32 → Int32 → Int32 → Int32 → Int32 → Option (Int32 × zSt)) : Nat → zSt → Int32 → Int32 → Int32 → Int32 → Int32 → Int32 → Int32 → Int32 → Option (Int32 × zSt)
  | 0, _, _, _, _, _, _, _, _, _ => none
  | n + 1, S, x1, x2, x3, x4, x6, x7, x8, x9 =>
  (if 6 ≤ x9 then K51 S x1 x2 x3 x4 x6 x7 ((x8 + 1)) else Option.bind (M_X12_fits S x1 x2 x3 x8 x9) (fun w9 => (if w9 = 0 then M_X12_which_B63 K51 n S x1 x2 x3 x4 x6 x7 x8 ((x9 + 1)) else (if x6 = x4 then Option.bind (some ((((10 : Int32) * x8) + x9))) (fun v12 => M_X12_which_B63 K51 n S x1 x2 x3 x4 ((x6 + 1)) v12 x8 ((x9 + 1))) else M_X12_which_B63 K51 n S x1 x2 x3 x4 ((x6 + 1)) x7 x8 ((x9 + 1))))))
set_option maxHeartbeats 4000000 in
set_option maxRecDepth 100000 in
theorem t_X12_which_B63 {p : Program} {l : Launch} {e : Env} {s : State} {m : MethodId} {args : Array Value} {below : List Frame} {meth : Method} {c : Code} {D : va_G} {Y : Nat → ClassId} {F : Nat → Nat} {A : Nat → Prop} {G : zG} (C0 : zCx p s m args meth c D Y F A RX12 cX12_which 10 (some .int) wsX12_which) (res : Int32 × zSt) (K51 : zSt → Int32 → Int32 → Int32 → Int32 → Int32 → Int32 → Int32 → Option (Int32 × zSt)) (hK51 : ∀ (S : zSt) (x1 : Int32) (x2 : Int32) (x3 : Int32) (x4 : Int32) (x6 : Int32) (x7 : Int32) (x8 : Int32), K51 S x1 x2 x3 x4 x6 x7 x8 = some res → ∀ (H : Heap) (locs : List Loc) (ls : Array Slot), zH D Y F A G S H → va_S A s.heap H locs → lv_has ls 10 [(0, .ref (F 0)), (1, .int x1), (2, .int x2), (3, .int x3), (4, .int x4), (6, .int x6), (7, .int x7), (8, .int x8)] → W p l e (zRm 4 90) s m args below meth c H locs 0 0 (MQ below (zQi D Y F A G res) args s 0 0 A) (F0 m 51 ls [])) : ∀ (n : Nat), ∀ (S : zSt) (x1 : Int32) (x2 : Int32) (x3 : Int32) (x4 : Int32) (x6 : Int32) (x7 : Int32) (x8 : Int32) (x9 : Int32), M_X12_which_B63 K51 n S x1 x2 x3 x4 x6 x7 x8 x9 = some res → ∀ (H : Heap) (locs : List Loc) (ls : Array Slot), zH D Y F A G S H → va_S A s.heap H locs → lv_has ls 10 [(0, .ref (F 0)), (1, .int x1), (2, .int x2), (3, .int x3), (4, .int x4), (6, .int x6), (7, .int x7), (8, .int x8), (9, .int x9)] → W p l e (zRm 4 90) s m args below meth c H locs 0 0 (MQ below (zQi D Y F A G res) args s 0 0 A) (F0 m 63 ls []) := by
  obtain ⟨hx, hb, hml, hr, hown, hts, hK, hA, hlk, hN⟩ := id C0
  intro n
  induction n with
  | zero =>
    intro S x1 x2 x3 x4 x6 x7 x8 x9 h
    unfold M_X12_which_B63 at h
    cases h
  | succ n ih =>
    intro S x1 x2 x3 x4 x6 x7 x8 x9 h H locs ls hw hS hl
    rw [M_X12_which_B63] at h
    refine lv_iload hx hb dX12_which_63 (lv_at hl 8 rfl) ?_
    refine lv_bipush (v := 6) hx hb dX12_which_65 (by decide) ?_
    refine lv_icmp_ge (tgt := 110) hx hb dX12_which_67 (by decide) (fun c8 => ?_) (fun c8 => ?_)
    · replace h := z_ifp c8 h
      refine lv_iinc (v := (x8 + 1)) (lv' := [(8, .int ((x8 + 1))), (0, .ref (F 0)), (1, .int x1), (2, .int x2), (3, .int x3), (4, .int x4), (6, .int x6), (7, .int x7), (9, .int x9)]) hx hb dX12_which_110 hl (k := 7) rfl rfl (by decide) rfl (fun ls hl => ?_)
      refine lv_goto (tgt := 51) hx hb dX12_which_113 (by decide) ?_
      exact hK51 S x1 x2 x3 x4 x6 x7 ((x8 + 1)) h _ _ _ hw hS (lv_sub hl [1, 2, 3, 4, 5, 6, 7, 0] rfl)
    · replace h := z_ifn c8 h
      refine lv_aload_n hx hb dX12_which_70 rfl (lv_at hl 0 rfl) ?_
      refine lv_iload_n hx hb dX12_which_71 rfl (lv_at hl 1 rfl) ?_
      refine lv_iload_n hx hb dX12_which_72 rfl (lv_at hl 2 rfl) ?_
      refine lv_iload_n hx hb dX12_which_73 rfl (lv_at hl 3 rfl) ?_
      refine lv_iload hx hb dX12_which_74 (lv_at hl 7 rfl) ?_
      refine lv_iload hx hb dX12_which_76 (lv_at hl 8 rfl) ?_
      obtain ⟨w9, ew9, h⟩ := z_bd h
      refine z_callVip C0 hw hS (k := 0) (As := [.int x1, .int x2, .int x3, .int x8, .int x9]) (rest := []) rfl rfl rfl rfl (c_X12_fits l D Y F G S _ x1 x2 x3 x8 x9 w9 ew9) (cwV 5 hts gX12_which_X12_fits rfl rfl rfl (by decide +kernel) ⟨Nat.le_of_ble_eq_true rfl, Nat.le_of_ble_eq_true rfl⟩) rfl hl.1 rfl (Nat.le_of_ble_eq_true rfl) dX12_which_78 ⟨Nat.zero_le _, Nat.zero_le _⟩ (fun H locs hw hS => ?_)
      refine lv_if_eq (tgt := 104) hx hb dX12_which_81 (by decide) (fun c10 => ?_) (fun c10 => ?_)
      · replace h := z_ifp c10 h
        refine lv_iinc (v := (x9 + 1)) (lv' := [(9, .int ((x9 + 1))), (0, .ref (F 0)), (1, .int x1), (2, .int x2), (3, .int x3), (4, .int x4), (6, .int x6), (7, .int x7), (8, .int x8)]) hx hb dX12_which_104 hl (k := 8) rfl rfl (by decide) rfl (fun ls hl => ?_)
        refine lv_goto (tgt := 63) hx hb dX12_which_107 (by decide) ?_
        exact ih S x1 x2 x3 x4 x6 x7 x8 ((x9 + 1)) h _ _ _ hw hS (lv_sub hl [1, 2, 3, 4, 5, 6, 7, 8, 0] rfl)
      · replace h := z_ifn c10 h
        refine lv_iload hx hb dX12_which_84 (lv_at hl 5 rfl) ?_
        refine lv_iinc (v := (x6 + 1)) (lv' := [(6, .int ((x6 + 1))), (0, .ref (F 0)), (1, .int x1), (2, .int x2), (3, .int x3), (4, .int x4), (7, .int x7), (8, .int x8), (9, .int x9)]) hx hb dX12_which_86 hl (k := 5) rfl rfl (by decide) rfl (fun ls hl => ?_)
        refine lv_iload hx hb dX12_which_89 (lv_at hl 5 rfl) ?_
        refine lv_icmp_ne (tgt := 104) hx hb dX12_which_91 (by decide) (fun c11 => ?_) (fun c11 => ?_)
        · replace h := z_ifn c11 h
          refine lv_iinc (v := (x9 + 1)) (lv' := [(9, .int ((x9 + 1))), (6, .int ((x6 + 1))), (0, .ref (F 0)), (1, .int x1), (2, .int x2), (3, .int x3), (4, .int x4), (7, .int x7), (8, .int x8)]) hx hb dX12_which_104 hl (k := 8) rfl rfl (by decide) rfl (fun ls hl => ?_)
          refine lv_goto (tgt := 63) hx hb dX12_which_107 (by decide) ?_
          exact ih S x1 x2 x3 x4 ((x6 + 1)) x7 x8 ((x9 + 1)) h _ _ _ hw hS (lv_sub hl [2, 3, 4, 5, 6, 1, 7, 8, 0] rfl)
        · replace h := z_ifp c11 h
          refine lv_bipush (v := 10) hx hb dX12_which_94 (by decide) ?_
          refine lv_iload hx hb dX12_which_96 (lv_at hl 7 rfl) ?_
          refine lv_imul hx hb dX12_which_98 ?_
          refine lv_iload hx hb dX12_which_99 (lv_at hl 8 rfl) ?_
          refine lv_iadd hx hb dX12_which_101 ?_
          obtain ⟨v12, ev12, h⟩ := z_bd h
          refine z_top (Option.some.inj ev12) ?_
          refine lv_istore (lv' := [(7, .int v12), (6, .int ((x6 + 1))), (0, .ref (F 0)), (1, .int x1), (2, .int x2), (3, .int x3), (4, .int x4), (8, .int x8), (9, .int x9)]) hx hb dX12_which_102 hl (by decide) rfl (fun ls hl => ?_)
          refine lv_iinc (v := (x9 + 1)) (lv' := [(9, .int ((x9 + 1))), (7, .int v12), (6, .int ((x6 + 1))), (0, .ref (F 0)), (1, .int x1), (2, .int x2), (3, .int x3), (4, .int x4), (8, .int x8)]) hx hb dX12_which_104 hl (k := 8) rfl rfl (by decide) rfl (fun ls hl => ?_)
          refine lv_goto (tgt := 63) hx hb dX12_which_107 (by decide) ?_
          exact ih S x1 x2 x3 x4 ((x6 + 1)) v12 x8 ((x9 + 1)) h _ _ _ hw hS (lv_sub hl [3, 4, 5, 6, 7, 2, 1, 8, 0] rfl)
def M_X12_which_B51 : Nat → zSt → Int32 → Int32 → Int32 → Int32 → Int32 → Int32 → Int32 → Option (Int32 × zSt)
  | 0, _, _, _, _, _, _, _, _ => none
  | n + 1, S, x1, x2, x3, x4, x6, x7, x8 =>
  (if (zsc S 0 3) ≤ x8 then (if x4 = (-1) then some (x6, S) else (if x7 = (-1) then Option.bind (M_X12_no S (-5)) (fun w7 => some (w7.1, w7.2)) else some (x7, S))) else M_X12_which_B63 (fun S_ x1_ x2_ x3_ x4_ x6_ x7_ x8_ => M_X12_which_B51 n S_ x1_ x2_ x3_ x4_ x6_ x7_ x8_) zF S x1 x2 x3 x4 x6 x7 x8 0)
set_option maxHeartbeats 4000000 in
set_option maxRecDepth 100000 in
theorem t_X12_which_B51 {p : Program} {l : Launch} {e : Env} {s : State} {m : MethodId} {args : Array Value} {below : List Frame} {meth : Method} {c : Code} {D : va_G} {Y : Nat → ClassId} {F : Nat → Nat} {A : Nat → Prop} {G : zG} (C0 : zCx p s m args meth c D Y F A RX12 cX12_which 10 (some .int) wsX12_which) (res : Int32 × zSt) : ∀ (n : Nat), ∀ (S : zSt) (x1 : Int32) (x2 : Int32) (x3 : Int32) (x4 : Int32) (x6 : Int32) (x7 : Int32) (x8 : Int32), M_X12_which_B51 n S x1 x2 x3 x4 x6 x7 x8 = some res → ∀ (H : Heap) (locs : List Loc) (ls : Array Slot), zH D Y F A G S H → va_S A s.heap H locs → lv_has ls 10 [(0, .ref (F 0)), (1, .int x1), (2, .int x2), (3, .int x3), (4, .int x4), (6, .int x6), (7, .int x7), (8, .int x8)] → W p l e (zRm 4 90) s m args below meth c H locs 0 0 (MQ below (zQi D Y F A G res) args s 0 0 A) (F0 m 51 ls []) := by
  obtain ⟨hx, hb, hml, hr, hown, hts, hK, hA, hlk, hN⟩ := id C0
  intro n
  induction n with
  | zero =>
    intro S x1 x2 x3 x4 x6 x7 x8 h
    unfold M_X12_which_B51 at h
    cases h
  | succ n ih =>
    intro S x1 x2 x3 x4 x6 x7 x8 h H locs ls hw hS hl
    rw [M_X12_which_B51] at h
    refine lv_iload hx hb dX12_which_51 (lv_at hl 7 rfl) ?_
    refine lv_aload_n hx hb dX12_which_53 rfl (lv_at hl 0 rfl) ?_
    refine z_get C0 in_X12_which_X12 (C := RX12) (T := TX12) (N := 27) hw (k := 0) (ci := 12) (v := .int ((zsc S 0 3))) rfl rfl rfl rfl 3 (by decide) rfl 1 rfl dX12_which_54 ?_
    refine lv_icmp_ge (tgt := 116) hx hb dX12_which_57 (by decide) (fun c4 => ?_) (fun c4 => ?_)
    · replace h := z_ifp c4 h
      refine lv_iload hx hb dX12_which_116 (lv_at hl 4 rfl) ?_
      refine lv_iconst (v := (-1)) hx hb dX12_which_118 (by decide) ?_
      refine lv_icmp_ne (tgt := 125) hx hb dX12_which_119 (by decide) (fun c5 => ?_) (fun c5 => ?_)
      · replace h := z_ifn c5 h
        refine lv_iload hx hb dX12_which_125 (lv_at hl 6 rfl) ?_
        refine lv_iconst (v := (-1)) hx hb dX12_which_127 (by decide) ?_
        refine lv_icmp_ne (tgt := 140) hx hb dX12_which_128 (by decide) (fun c6 => ?_) (fun c6 => ?_)
        · replace h := z_ifn c6 h
          refine lv_iload hx hb dX12_which_140 (lv_at hl 6 rfl) ?_
          exact z_reti C0 hw hS (Option.some.inj h) dX12_which_142
        · replace h := z_ifp c6 h
          refine lv_aload_n hx hb dX12_which_131 rfl (lv_at hl 0 rfl) ?_
          refine lv_bipush (v := (-5)) hx hb dX12_which_132 (by decide) ?_
          obtain ⟨w7, ew7, h⟩ := z_bd h
          refine z_callVi0 C0 hw hS (k := 0) (As := [.int (-5)]) (rest := []) rfl rfl rfl rfl (c_X12_no l D Y F G S _ (-5) w7 ew7) (cwV 1 hts gX12_which_X12_no rfl rfl rfl (by decide +kernel) ⟨Nat.le_of_ble_eq_true rfl, Nat.le_of_ble_eq_true rfl⟩) rfl hl.1 rfl (Nat.le_of_ble_eq_true rfl) dX12_which_134 ⟨Nat.zero_le _, Nat.zero_le _⟩ (fun H locs hw hS => ?_)
          refine lv_goto (tgt := 142) hx hb dX12_which_137 (by decide) ?_
          exact z_reti C0 hw hS (Option.some.inj h) dX12_which_142
      · replace h := z_ifp c5 h
        refine lv_iload hx hb dX12_which_122 (lv_at hl 5 rfl) ?_
        exact z_reti C0 hw hS (Option.some.inj h) dX12_which_124
    · replace h := z_ifn c4 h
      refine lv_iconst (v := 0) hx hb dX12_which_60 (by decide) ?_
      refine lv_istore (lv' := [(9, .int 0), (0, .ref (F 0)), (1, .int x1), (2, .int x2), (3, .int x3), (4, .int x4), (6, .int x6), (7, .int x7), (8, .int x8)]) hx hb dX12_which_61 hl (by decide) rfl (fun ls hl => ?_)
      exact t_X12_which_B63 C0 res (fun S_ x1_ x2_ x3_ x4_ x6_ x7_ x8_ => M_X12_which_B51 n S_ x1_ x2_ x3_ x4_ x6_ x7_ x8_) ih zF S x1 x2 x3 x4 x6 x7 x8 0 h _ _ _ hw hS (lv_sub hl [1, 2, 3, 4, 5, 6, 7, 8, 0] rfl)
def M_X12_which_B30 (S : zSt) (x1 : Int32) (x2 : Int32) (x3 : Int32) (x4 : Int32) (x5 : Int32) : Option (Int32 × zSt) :=
  (if 0 ≤ x5 then M_X12_which_B51 zF S x1 x2 x3 x4 0 (-1) 0 else Option.bind (M_X12_no S x5) (fun w13 => some (w13.1, w13.2)))
set_option maxHeartbeats 4000000 in
set_option maxRecDepth 100000 in
theorem t_X12_which_B30 {p : Program} {l : Launch} {e : Env} {s : State} {m : MethodId} {args : Array Value} {below : List Frame} {meth : Method} {c : Code} {D : va_G} {Y : Nat → ClassId} {F : Nat → Nat} {A : Nat → Prop} {G : zG} (C0 : zCx p s m args meth c D Y F A RX12 cX12_which 10 (some .int) wsX12_which) (res : Int32 × zSt) : ∀ (S : zSt) (x1 : Int32) (x2 : Int32) (x3 : Int32) (x4 : Int32) (x5 : Int32), M_X12_which_B30 S x1 x2 x3 x4 x5 = some res → ∀ (H : Heap) (locs : List Loc) (ls : Array Slot), zH D Y F A G S H → va_S A s.heap H locs → lv_has ls 10 [(0, .ref (F 0)), (1, .int x1), (2, .int x2), (3, .int x3), (4, .int x4), (5, .int x5)] → W p l e (zRm 4 90) s m args below meth c H locs 0 0 (MQ below (zQi D Y F A G res) args s 0 0 A) (F0 m 30 ls []) := by
  obtain ⟨hx, hb, hml, hr, hown, hts, hK, hA, hlk, hN⟩ := id C0
  intro S x1 x2 x3 x4 x5 h H locs ls hw hS hl
  unfold M_X12_which_B30 at h
  refine lv_iload hx hb dX12_which_30 (lv_at hl 5 rfl) ?_
  refine lv_if_ge (tgt := 42) hx hb dX12_which_32 (by decide) (fun c3 => ?_) (fun c3 => ?_)
  · replace h := z_ifp c3 h
    refine lv_iconst (v := 0) hx hb dX12_which_42 (by decide) ?_
    refine lv_istore (lv' := [(6, .int 0), (0, .ref (F 0)), (1, .int x1), (2, .int x2), (3, .int x3), (4, .int x4), (5, .int x5)]) hx hb dX12_which_43 hl (by decide) rfl (fun ls hl => ?_)
    refine lv_iconst (v := (-1)) hx hb dX12_which_45 (by decide) ?_
    refine lv_istore (lv' := [(7, .int (-1)), (6, .int 0), (0, .ref (F 0)), (1, .int x1), (2, .int x2), (3, .int x3), (4, .int x4), (5, .int x5)]) hx hb dX12_which_46 hl (by decide) rfl (fun ls hl => ?_)
    refine lv_iconst (v := 0) hx hb dX12_which_48 (by decide) ?_
    refine lv_istore (lv' := [(8, .int 0), (7, .int (-1)), (6, .int 0), (0, .ref (F 0)), (1, .int x1), (2, .int x2), (3, .int x3), (4, .int x4), (5, .int x5)]) hx hb dX12_which_49 hl (by decide) rfl (fun ls hl => ?_)
    exact t_X12_which_B51 C0 res zF S x1 x2 x3 x4 0 (-1) 0 h _ _ _ hw hS (lv_sub hl [3, 4, 5, 6, 7, 2, 1, 0] rfl)
  · replace h := z_ifn c3 h
    refine lv_aload_n hx hb dX12_which_35 rfl (lv_at hl 0 rfl) ?_
    refine lv_iload hx hb dX12_which_36 (lv_at hl 5 rfl) ?_
    obtain ⟨w13, ew13, h⟩ := z_bd h
    refine z_callVi0 C0 hw hS (k := 0) (As := [.int x5]) (rest := []) rfl rfl rfl rfl (c_X12_no l D Y F G S _ x5 w13 ew13) (cwV 1 hts gX12_which_X12_no rfl rfl rfl (by decide +kernel) ⟨Nat.le_of_ble_eq_true rfl, Nat.le_of_ble_eq_true rfl⟩) rfl hl.1 rfl (Nat.le_of_ble_eq_true rfl) dX12_which_38 ⟨Nat.zero_le _, Nat.zero_le _⟩ (fun H locs hw hS => ?_)
    exact z_reti C0 hw hS (Option.some.inj h) dX12_which_41
def M_X12_which (S : zSt) (x1 : Int32) (x2 : Int32) (x3 : Int32) (x4 : Int32) : Option (Int32 × zSt) :=
  Option.bind (M_X12_noTold S x1 x2 1 8) (fun w1 => (if w1 = 0 then Option.bind (M_X12_within S x3 0 20) (fun w14 => (if w14 = 0 then M_X12_which_B30 S x1 x2 x3 x4 (-6) else M_X12_which_B30 S x1 x2 x3 x4 w1)) else M_X12_which_B30 S x1 x2 x3 x4 w1))
set_option maxHeartbeats 4000000 in
set_option maxRecDepth 100000 in
theorem c_X12_which (l : Launch) (D : va_G) (Y : Nat → ClassId) (F : Nat → Nat) (G : zG) (S : zSt) (sz : Nat) (x1 : Int32) (x2 : Int32) (x3 : Int32) (x4 : Int32) (res : Int32 × zSt) (h : M_X12_which S x1 x2 x3 x4 = some res) : Met l yX12_which wsX12_which (zRm 4 90) (zPc D Y F G S sz [.ref (F 0), .int x1, .int x2, .int x3, .int x4]) (zQi D Y F (zAo F G sz) G res) 0 0 (zAo F G sz) := by
  unfold M_X12_which at h
  refine zMet (cc := cX12_which) (maxL := 10) (ret := (some .int)) (own := RX12) (by decide +kernel) rfl rfl (Nat.le_of_ble_eq_true rfl) ?_
  intro p e s m args below meth c C0 hin hw hS ls hl
  have hl : lv_has ls 10 [(0, .ref (F 0)), (1, .int x1), (2, .int x2), (3, .int x3), (4, .int x4)] := hl
  generalize zAo F G sz = A at C0 hw hS ⊢
  obtain ⟨hx, hb, hml, hr, hown, hts, hK, hA, hlk, hN⟩ := id C0
  refine lv_aload_n hx hb dX12_which_0 rfl (lv_at hl 0 rfl) ?_
  refine lv_iload_n hx hb dX12_which_1 rfl (lv_at hl 1 rfl) ?_
  refine lv_iload_n hx hb dX12_which_2 rfl (lv_at hl 2 rfl) ?_
  refine lv_iconst (v := 1) hx hb dX12_which_3 (by decide) ?_
  refine lv_bipush (v := 8) hx hb dX12_which_4 (by decide) ?_
  obtain ⟨w1, ew1, h⟩ := z_bd h
  refine z_callVip C0 hw hS (k := 0) (As := [.int x1, .int x2, .int 1, .int 8]) (rest := []) rfl rfl rfl rfl (c_X12_noTold l D Y F G S _ x1 x2 1 8 w1 ew1) (cwV 4 hts gX12_which_X12_noTold rfl rfl rfl (by decide +kernel) ⟨Nat.le_of_ble_eq_true rfl, Nat.le_of_ble_eq_true rfl⟩) rfl hl.1 rfl (Nat.le_of_ble_eq_true rfl) dX12_which_6 ⟨Nat.zero_le _, Nat.zero_le _⟩ (fun H locs hw hS => ?_)
  refine lv_istore (lv' := [(5, .int w1), (0, .ref (F 0)), (1, .int x1), (2, .int x2), (3, .int x3), (4, .int x4)]) hx hb dX12_which_9 hl (by decide) rfl (fun ls hl => ?_)
  refine lv_iload hx hb dX12_which_11 (lv_at hl 0 rfl) ?_
  refine lv_if_ne (tgt := 30) hx hb dX12_which_13 (by decide) (fun c2 => ?_) (fun c2 => ?_)
  · replace h := z_ifn c2 h
    exact t_X12_which_B30 C0 res S x1 x2 x3 x4 w1 h _ _ _ hw hS (lv_sub hl [1, 2, 3, 4, 5, 0] rfl)
  · replace h := z_ifp c2 h
    refine lv_iload_n hx hb dX12_which_16 rfl (lv_at hl 4 rfl) ?_
    refine lv_iconst (v := 0) hx hb dX12_which_17 (by decide) ?_
    refine lv_bipush (v := 20) hx hb dX12_which_18 (by decide) ?_
    obtain ⟨w14, ew14, h⟩ := z_bd h
    refine z_callSip C0 hw hS (As := [.int x3, .int 0, .int 20]) (rest := []) (c_X12_within l D Y F G S _ x3 0 20 w14 ew14) (va_cwS 3 hts gX12_which_X12_within rfl rfl rfl (by decide +kernel) ⟨Nat.le_of_ble_eq_true rfl, Nat.le_of_ble_eq_true rfl⟩) rfl hl.1 rfl (Nat.le_of_ble_eq_true rfl) dX12_which_20 ⟨Nat.zero_le _, Nat.zero_le _⟩ (fun H locs hw hS => ?_)
    refine lv_if_ne (tgt := 30) hx hb dX12_which_23 (by decide) (fun c15 => ?_) (fun c15 => ?_)
    · replace h := z_ifn c15 h
      exact t_X12_which_B30 C0 res S x1 x2 x3 x4 w1 h _ _ _ hw hS (lv_sub hl [1, 2, 3, 4, 5, 0] rfl)
    · replace h := z_ifp c15 h
      refine lv_bipush (v := (-6)) hx hb dX12_which_26 (by decide) ?_
      refine lv_istore (lv' := [(5, .int (-6)), (0, .ref (F 0)), (1, .int x1), (2, .int x2), (3, .int x3), (4, .int x4)]) hx hb dX12_which_28 hl (by decide) rfl (fun ls hl => ?_)
      exact t_X12_which_B30 C0 res S x1 x2 x3 x4 (-6) h _ _ _ hw hS (lv_sub hl [1, 2, 3, 4, 5, 0] rfl)
def M_X12_worst_B21 (S : zSt) (K9 : Int32 → Int32 → Int32 → Int32 → Int32 → Int32 → Int32 → Option (Int32)) : Nat → Int32 → Int32 → Int32 → Int32 → Int32 → Int32 → Int32 → Int32 → Option (Int32)
  | 0, _, _, _, _, _, _, _, _ => none
  | n + 1, x1, x2, x3, x4, x5, x6, x7, x8 =>
  (if 6 ≤ x8 then K9 x1 x2 x3 x4 x5 x6 ((x7 + 1)) else Option.bind (M_X12_fits S x1 x2 x3 x7 x8) (fun w3 => (if w3 = 0 then M_X12_worst_B21 S K9 n x1 x2 x3 x4 x5 x6 x7 ((x8 + 1)) else Option.bind (M_X12_hasDeed S x7 x8 x4) (fun w5 => (if w5 = 0 then M_X12_worst_B21 S K9 n x1 x2 x3 x4 x5 ((x6 + 1)) x7 ((x8 + 1)) else M_X12_worst_B21 S K9 n x1 x2 x3 x4 ((x5 + 1)) x6 x7 ((x8 + 1)))))))
set_option maxHeartbeats 4000000 in
set_option maxRecDepth 100000 in
theorem t_X12_worst_B21 {p : Program} {l : Launch} {e : Env} {s : State} {m : MethodId} {args : Array Value} {below : List Frame} {meth : Method} {c : Code} {D : va_G} {Y : Nat → ClassId} {F : Nat → Nat} {A : Nat → Prop} {G : zG} (C0 : zCx p s m args meth c D Y F A RX12 cX12_worst 9 (some .int) wsX12_worst) (S : zSt) (res : Int32) (K9 : Int32 → Int32 → Int32 → Int32 → Int32 → Int32 → Int32 → Option (Int32)) (hK9 : ∀ (x1 : Int32) (x2 : Int32) (x3 : Int32) (x4 : Int32) (x5 : Int32) (x6 : Int32) (x7 : Int32), K9 x1 x2 x3 x4 x5 x6 x7 = some res → ∀ (H : Heap) (locs : List Loc) (ls : Array Slot), zH D Y F A G S H → va_S A s.heap H locs → lv_has ls 9 [(0, .ref (F 0)), (1, .int x1), (2, .int x2), (3, .int x3), (4, .int x4), (5, .int x5), (6, .int x6), (7, .int x7)] → W p l e (zRm 4 90) s m args below meth c H locs 0 0 (MQ below (zQi D Y F A G (res, S)) args s 0 0 A) (F0 m 9 ls [])) : ∀ (n : Nat), ∀ (x1 : Int32) (x2 : Int32) (x3 : Int32) (x4 : Int32) (x5 : Int32) (x6 : Int32) (x7 : Int32) (x8 : Int32), M_X12_worst_B21 S K9 n x1 x2 x3 x4 x5 x6 x7 x8 = some res → ∀ (H : Heap) (locs : List Loc) (ls : Array Slot), zH D Y F A G S H → va_S A s.heap H locs → lv_has ls 9 [(0, .ref (F 0)), (1, .int x1), (2, .int x2), (3, .int x3), (4, .int x4), (5, .int x5), (6, .int x6), (7, .int x7), (8, .int x8)] → W p l e (zRm 4 90) s m args below meth c H locs 0 0 (MQ below (zQi D Y F A G (res, S)) args s 0 0 A) (F0 m 21 ls []) := by
  obtain ⟨hx, hb, hml, hr, hown, hts, hK, hA, hlk, hN⟩ := id C0
  intro n
  induction n with
  | zero =>
    intro x1 x2 x3 x4 x5 x6 x7 x8 h
    unfold M_X12_worst_B21 at h
    cases h
  | succ n ih =>
    intro x1 x2 x3 x4 x5 x6 x7 x8 h H locs ls hw hS hl
    rw [M_X12_worst_B21] at h
    refine lv_iload hx hb dX12_worst_21 (lv_at hl 8 rfl) ?_
    refine lv_bipush (v := 6) hx hb dX12_worst_23 (by decide) ?_
    refine lv_icmp_ge (tgt := 73) hx hb dX12_worst_25 (by decide) (fun c2 => ?_) (fun c2 => ?_)
    · replace h := z_ifp c2 h
      refine lv_iinc (v := (x7 + 1)) (lv' := [(7, .int ((x7 + 1))), (0, .ref (F 0)), (1, .int x1), (2, .int x2), (3, .int x3), (4, .int x4), (5, .int x5), (6, .int x6), (8, .int x8)]) hx hb dX12_worst_73 hl (k := 7) rfl rfl (by decide) rfl (fun ls hl => ?_)
      refine lv_goto (tgt := 9) hx hb dX12_worst_76 (by decide) ?_
      exact hK9 x1 x2 x3 x4 x5 x6 ((x7 + 1)) h _ _ _ hw hS (lv_sub hl [1, 2, 3, 4, 5, 6, 7, 0] rfl)
    · replace h := z_ifn c2 h
      refine lv_aload_n hx hb dX12_worst_28 rfl (lv_at hl 0 rfl) ?_
      refine lv_iload_n hx hb dX12_worst_29 rfl (lv_at hl 1 rfl) ?_
      refine lv_iload_n hx hb dX12_worst_30 rfl (lv_at hl 2 rfl) ?_
      refine lv_iload_n hx hb dX12_worst_31 rfl (lv_at hl 3 rfl) ?_
      refine lv_iload hx hb dX12_worst_32 (lv_at hl 7 rfl) ?_
      refine lv_iload hx hb dX12_worst_34 (lv_at hl 8 rfl) ?_
      obtain ⟨w3, ew3, h⟩ := z_bd h
      refine z_callVip C0 hw hS (k := 0) (As := [.int x1, .int x2, .int x3, .int x7, .int x8]) (rest := []) rfl rfl rfl rfl (c_X12_fits l D Y F G S _ x1 x2 x3 x7 x8 w3 ew3) (cwV 5 hts gX12_worst_X12_fits rfl rfl rfl (by decide +kernel) ⟨Nat.le_of_ble_eq_true rfl, Nat.le_of_ble_eq_true rfl⟩) rfl hl.1 rfl (Nat.le_of_ble_eq_true rfl) dX12_worst_36 ⟨Nat.zero_le _, Nat.zero_le _⟩ (fun H locs hw hS => ?_)
      refine lv_if_ne (tgt := 45) hx hb dX12_worst_39 (by decide) (fun c4 => ?_) (fun c4 => ?_)
      · replace h := z_ifn c4 h
        refine lv_aload_n hx hb dX12_worst_45 rfl (lv_at hl 0 rfl) ?_
        refine lv_iload hx hb dX12_worst_46 (lv_at hl 7 rfl) ?_
        refine lv_iload hx hb dX12_worst_48 (lv_at hl 8 rfl) ?_
        refine lv_iload hx hb dX12_worst_50 (lv_at hl 4 rfl) ?_
        obtain ⟨w5, ew5, h⟩ := z_bd h
        refine z_callVip C0 hw hS (k := 0) (As := [.int x7, .int x8, .int x4]) (rest := []) rfl rfl rfl rfl (c_X12_hasDeed l D Y F G S _ x7 x8 x4 w5 ew5) (cwV 3 hts gX12_worst_X12_hasDeed rfl rfl rfl (by decide +kernel) ⟨Nat.le_of_ble_eq_true rfl, Nat.le_of_ble_eq_true rfl⟩) rfl hl.1 rfl (Nat.le_of_ble_eq_true rfl) dX12_worst_52 ⟨Nat.zero_le _, Nat.zero_le _⟩ (fun H locs hw hS => ?_)
        refine lv_if_eq (tgt := 64) hx hb dX12_worst_55 (by decide) (fun c6 => ?_) (fun c6 => ?_)
        · replace h := z_ifp c6 h
          refine lv_iinc (v := (x6 + 1)) (lv' := [(6, .int ((x6 + 1))), (0, .ref (F 0)), (1, .int x1), (2, .int x2), (3, .int x3), (4, .int x4), (5, .int x5), (7, .int x7), (8, .int x8)]) hx hb dX12_worst_64 hl (k := 6) rfl rfl (by decide) rfl (fun ls hl => ?_)
          refine lv_iinc (v := (x8 + 1)) (lv' := [(8, .int ((x8 + 1))), (6, .int ((x6 + 1))), (0, .ref (F 0)), (1, .int x1), (2, .int x2), (3, .int x3), (4, .int x4), (5, .int x5), (7, .int x7)]) hx hb dX12_worst_67 hl (k := 8) rfl rfl (by decide) rfl (fun ls hl => ?_)
          refine lv_goto (tgt := 21) hx hb dX12_worst_70 (by decide) ?_
          exact ih x1 x2 x3 x4 x5 ((x6 + 1)) x7 ((x8 + 1)) h _ _ _ hw hS (lv_sub hl [2, 3, 4, 5, 6, 7, 1, 8, 0] rfl)
        · replace h := z_ifn c6 h
          refine lv_iinc (v := (x5 + 1)) (lv' := [(5, .int ((x5 + 1))), (0, .ref (F 0)), (1, .int x1), (2, .int x2), (3, .int x3), (4, .int x4), (6, .int x6), (7, .int x7), (8, .int x8)]) hx hb dX12_worst_58 hl (k := 5) rfl rfl (by decide) rfl (fun ls hl => ?_)
          refine lv_goto (tgt := 67) hx hb dX12_worst_61 (by decide) ?_
          refine lv_iinc (v := (x8 + 1)) (lv' := [(8, .int ((x8 + 1))), (5, .int ((x5 + 1))), (0, .ref (F 0)), (1, .int x1), (2, .int x2), (3, .int x3), (4, .int x4), (6, .int x6), (7, .int x7)]) hx hb dX12_worst_67 hl (k := 8) rfl rfl (by decide) rfl (fun ls hl => ?_)
          refine lv_goto (tgt := 21) hx hb dX12_worst_70 (by decide) ?_
          exact ih x1 x2 x3 x4 ((x5 + 1)) x6 x7 ((x8 + 1)) h _ _ _ hw hS (lv_sub hl [2, 3, 4, 5, 6, 1, 7, 8, 0] rfl)
      · replace h := z_ifp c4 h
        refine lv_goto (tgt := 67) hx hb dX12_worst_42 (by decide) ?_
        refine lv_iinc (v := (x8 + 1)) (lv' := [(8, .int ((x8 + 1))), (0, .ref (F 0)), (1, .int x1), (2, .int x2), (3, .int x3), (4, .int x4), (5, .int x5), (6, .int x6), (7, .int x7)]) hx hb dX12_worst_67 hl (k := 8) rfl rfl (by decide) rfl (fun ls hl => ?_)
        refine lv_goto (tgt := 21) hx hb dX12_worst_70 (by decide) ?_
        exact ih x1 x2 x3 x4 x5 x6 x7 ((x8 + 1)) h _ _ _ hw hS (lv_sub hl [1, 2, 3, 4, 5, 6, 7, 8, 0] rfl)
def M_X12_worst_B9 (S : zSt) : Nat → Int32 → Int32 → Int32 → Int32 → Int32 → Int32 → Int32 → Option (Int32)
  | 0, _, _, _, _, _, _, _ => none
  | n + 1, x1, x2, x3, x4, x5, x6, x7 =>
  (if (zsc S 0 3) ≤ x7 then some ((if x5 < x6 then x6 else x5)) else M_X12_worst_B21 S (fun x1_ x2_ x3_ x4_ x5_ x6_ x7_ => M_X12_worst_B9 S n x1_ x2_ x3_ x4_ x5_ x6_ x7_) zF x1 x2 x3 x4 x5 x6 x7 0)
set_option maxHeartbeats 4000000 in
set_option maxRecDepth 100000 in
theorem t_X12_worst_B9 {p : Program} {l : Launch} {e : Env} {s : State} {m : MethodId} {args : Array Value} {below : List Frame} {meth : Method} {c : Code} {D : va_G} {Y : Nat → ClassId} {F : Nat → Nat} {A : Nat → Prop} {G : zG} (C0 : zCx p s m args meth c D Y F A RX12 cX12_worst 9 (some .int) wsX12_worst) (S : zSt) (res : Int32) : ∀ (n : Nat), ∀ (x1 : Int32) (x2 : Int32) (x3 : Int32) (x4 : Int32) (x5 : Int32) (x6 : Int32) (x7 : Int32), M_X12_worst_B9 S n x1 x2 x3 x4 x5 x6 x7 = some res → ∀ (H : Heap) (locs : List Loc) (ls : Array Slot), zH D Y F A G S H → va_S A s.heap H locs → lv_has ls 9 [(0, .ref (F 0)), (1, .int x1), (2, .int x2), (3, .int x3), (4, .int x4), (5, .int x5), (6, .int x6), (7, .int x7)] → W p l e (zRm 4 90) s m args below meth c H locs 0 0 (MQ below (zQi D Y F A G (res, S)) args s 0 0 A) (F0 m 9 ls []) := by
  obtain ⟨hx, hb, hml, hr, hown, hts, hK, hA, hlk, hN⟩ := id C0
  intro n
  induction n with
  | zero =>
    intro x1 x2 x3 x4 x5 x6 x7 h
    unfold M_X12_worst_B9 at h
    cases h
  | succ n ih =>
    intro x1 x2 x3 x4 x5 x6 x7 h H locs ls hw hS hl
    rw [M_X12_worst_B9] at h
    refine lv_iload hx hb dX12_worst_9 (lv_at hl 7 rfl) ?_
    refine lv_aload_n hx hb dX12_worst_11 rfl (lv_at hl 0 rfl) ?_
    refine z_get C0 in_X12_worst_X12 (C := RX12) (T := TX12) (N := 27) hw (k := 0) (ci := 12) (v := .int ((zsc S 0 3))) rfl rfl rfl rfl 3 (by decide) rfl 1 rfl dX12_worst_12 ?_
    refine lv_icmp_ge (tgt := 79) hx hb dX12_worst_15 (by decide) (fun c1 => ?_) (fun c1 => ?_)
    · replace h := z_ifp c1 h
      refine lv_iload hx hb dX12_worst_79 (lv_at hl 5 rfl) ?_
      refine lv_iload hx hb dX12_worst_81 (lv_at hl 6 rfl) ?_
      refine va_mmax hx hb (hml.trans hl.1.symm) hown (hts _ (List.mem_of_getElem? (i := 2) rfl)) (hts _ (List.mem_of_getElem? (i := 3) rfl)) (hts _ (List.mem_of_getElem? (i := 4) rfl)) (hts _ (List.mem_of_getElem? (i := 5) rfl)) (Nat.le_of_ble_eq_true rfl) (Nat.le_of_ble_eq_true rfl) (Nat.zero_le _) (Nat.zero_le _) dX12_worst_83 ?_
      exact z_reti C0 hw hS (congrArg (fun z => (z, S)) (Option.some.inj h)) dX12_worst_86
    · replace h := z_ifn c1 h
      refine lv_iconst (v := 0) hx hb dX12_worst_18 (by decide) ?_
      refine lv_istore (lv' := [(8, .int 0), (0, .ref (F 0)), (1, .int x1), (2, .int x2), (3, .int x3), (4, .int x4), (5, .int x5), (6, .int x6), (7, .int x7)]) hx hb dX12_worst_19 hl (by decide) rfl (fun ls hl => ?_)
      exact t_X12_worst_B21 C0 S res (fun x1_ x2_ x3_ x4_ x5_ x6_ x7_ => M_X12_worst_B9 S n x1_ x2_ x3_ x4_ x5_ x6_ x7_) ih zF x1 x2 x3 x4 x5 x6 x7 0 h _ _ _ hw hS (lv_sub hl [1, 2, 3, 4, 5, 6, 7, 8, 0] rfl)
def M_X12_worst (S : zSt) (x1 : Int32) (x2 : Int32) (x3 : Int32) (x4 : Int32) : Option (Int32) :=
  M_X12_worst_B9 S zF x1 x2 x3 x4 0 0 0
set_option maxHeartbeats 4000000 in
set_option maxRecDepth 100000 in
theorem c_X12_worst (l : Launch) (D : va_G) (Y : Nat → ClassId) (F : Nat → Nat) (G : zG) (S : zSt) (sz : Nat) (x1 : Int32) (x2 : Int32) (x3 : Int32) (x4 : Int32) (res : Int32) (h : M_X12_worst S x1 x2 x3 x4 = some res) : Met l yX12_worst wsX12_worst (zRm 4 90) (zPc D Y F G S sz [.ref (F 0), .int x1, .int x2, .int x3, .int x4]) (zQi D Y F (zAo F G sz) G (res, S)) 0 0 (zAo F G sz) := by
  unfold M_X12_worst at h
  refine zMet (cc := cX12_worst) (maxL := 9) (ret := (some .int)) (own := RX12) (by decide +kernel) rfl rfl (Nat.le_of_ble_eq_true rfl) ?_
  intro p e s m args below meth c C0 hin hw hS ls hl
  have hl : lv_has ls 9 [(0, .ref (F 0)), (1, .int x1), (2, .int x2), (3, .int x3), (4, .int x4)] := hl
  generalize zAo F G sz = A at C0 hw hS ⊢
  obtain ⟨hx, hb, hml, hr, hown, hts, hK, hA, hlk, hN⟩ := id C0
  refine lv_iconst (v := 0) hx hb dX12_worst_0 (by decide) ?_
  refine lv_istore (lv' := [(5, .int 0), (0, .ref (F 0)), (1, .int x1), (2, .int x2), (3, .int x3), (4, .int x4)]) hx hb dX12_worst_1 hl (by decide) rfl (fun ls hl => ?_)
  refine lv_iconst (v := 0) hx hb dX12_worst_3 (by decide) ?_
  refine lv_istore (lv' := [(6, .int 0), (5, .int 0), (0, .ref (F 0)), (1, .int x1), (2, .int x2), (3, .int x3), (4, .int x4)]) hx hb dX12_worst_4 hl (by decide) rfl (fun ls hl => ?_)
  refine lv_iconst (v := 0) hx hb dX12_worst_6 (by decide) ?_
  refine lv_istore (lv' := [(7, .int 0), (6, .int 0), (5, .int 0), (0, .ref (F 0)), (1, .int x1), (2, .int x2), (3, .int x3), (4, .int x4)]) hx hb dX12_worst_7 hl (by decide) rfl (fun ls hl => ?_)
  exact t_X12_worst_B9 C0 S res zF x1 x2 x3 x4 0 0 0 h _ _ _ hw hS (lv_sub hl [3, 4, 5, 6, 7, 2, 1, 0] rfl)
def M_X12_fitting_B18 (S : zSt) (K6 : Int32 → Int32 → Int32 → Int32 → Int32 → Option (Int32)) : Nat → Int32 → Int32 → Int32 → Int32 → Int32 → Int32 → Option (Int32)
  | 0, _, _, _, _, _, _ => none
  | n + 1, x1, x2, x3, x4, x5, x6 =>
  (if 6 ≤ x6 then K6 x1 x2 x3 x4 ((x5 + 1)) else Option.bind (M_X12_fits S x1 x2 x3 x5 x6) (fun w3 => (if w3 = 0 then M_X12_fitting_B18 S K6 n x1 x2 x3 x4 x5 ((x6 + 1)) else M_X12_fitting_B18 S K6 n x1 x2 x3 ((x4 + 1)) x5 ((x6 + 1)))))
set_option maxHeartbeats 4000000 in
set_option maxRecDepth 100000 in
theorem t_X12_fitting_B18 {p : Program} {l : Launch} {e : Env} {s : State} {m : MethodId} {args : Array Value} {below : List Frame} {meth : Method} {c : Code} {D : va_G} {Y : Nat → ClassId} {F : Nat → Nat} {A : Nat → Prop} {G : zG} (C0 : zCx p s m args meth c D Y F A RX12 cX12_fitting 7 (some .int) wsX12_fitting) (S : zSt) (res : Int32) (K6 : Int32 → Int32 → Int32 → Int32 → Int32 → Option (Int32)) (hK6 : ∀ (x1 : Int32) (x2 : Int32) (x3 : Int32) (x4 : Int32) (x5 : Int32), K6 x1 x2 x3 x4 x5 = some res → ∀ (H : Heap) (locs : List Loc) (ls : Array Slot), zH D Y F A G S H → va_S A s.heap H locs → lv_has ls 7 [(0, .ref (F 0)), (1, .int x1), (2, .int x2), (3, .int x3), (4, .int x4), (5, .int x5)] → W p l e (zRm 4 90) s m args below meth c H locs 0 0 (MQ below (zQi D Y F A G (res, S)) args s 0 0 A) (F0 m 6 ls [])) : ∀ (n : Nat), ∀ (x1 : Int32) (x2 : Int32) (x3 : Int32) (x4 : Int32) (x5 : Int32) (x6 : Int32), M_X12_fitting_B18 S K6 n x1 x2 x3 x4 x5 x6 = some res → ∀ (H : Heap) (locs : List Loc) (ls : Array Slot), zH D Y F A G S H → va_S A s.heap H locs → lv_has ls 7 [(0, .ref (F 0)), (1, .int x1), (2, .int x2), (3, .int x3), (4, .int x4), (5, .int x5), (6, .int x6)] → W p l e (zRm 4 90) s m args below meth c H locs 0 0 (MQ below (zQi D Y F A G (res, S)) args s 0 0 A) (F0 m 18 ls []) := by
  obtain ⟨hx, hb, hml, hr, hown, hts, hK, hA, hlk, hN⟩ := id C0
  intro n
  induction n with
  | zero =>
    intro x1 x2 x3 x4 x5 x6 h
    unfold M_X12_fitting_B18 at h
    cases h
  | succ n ih =>
    intro x1 x2 x3 x4 x5 x6 h H locs ls hw hS hl
    rw [M_X12_fitting_B18] at h
    refine lv_iload hx hb dX12_fitting_18 (lv_at hl 6 rfl) ?_
    refine lv_bipush (v := 6) hx hb dX12_fitting_20 (by decide) ?_
    refine lv_icmp_ge (tgt := 48) hx hb dX12_fitting_22 (by decide) (fun c2 => ?_) (fun c2 => ?_)
    · replace h := z_ifp c2 h
      refine lv_iinc (v := (x5 + 1)) (lv' := [(5, .int ((x5 + 1))), (0, .ref (F 0)), (1, .int x1), (2, .int x2), (3, .int x3), (4, .int x4), (6, .int x6)]) hx hb dX12_fitting_48 hl (k := 5) rfl rfl (by decide) rfl (fun ls hl => ?_)
      refine lv_goto (tgt := 6) hx hb dX12_fitting_51 (by decide) ?_
      exact hK6 x1 x2 x3 x4 ((x5 + 1)) h _ _ _ hw hS (lv_sub hl [1, 2, 3, 4, 5, 0] rfl)
    · replace h := z_ifn c2 h
      refine lv_aload_n hx hb dX12_fitting_25 rfl (lv_at hl 0 rfl) ?_
      refine lv_iload_n hx hb dX12_fitting_26 rfl (lv_at hl 1 rfl) ?_
      refine lv_iload_n hx hb dX12_fitting_27 rfl (lv_at hl 2 rfl) ?_
      refine lv_iload_n hx hb dX12_fitting_28 rfl (lv_at hl 3 rfl) ?_
      refine lv_iload hx hb dX12_fitting_29 (lv_at hl 5 rfl) ?_
      refine lv_iload hx hb dX12_fitting_31 (lv_at hl 6 rfl) ?_
      obtain ⟨w3, ew3, h⟩ := z_bd h
      refine z_callVip C0 hw hS (k := 0) (As := [.int x1, .int x2, .int x3, .int x5, .int x6]) (rest := []) rfl rfl rfl rfl (c_X12_fits l D Y F G S _ x1 x2 x3 x5 x6 w3 ew3) (cwV 5 hts gX12_fitting_X12_fits rfl rfl rfl (by decide +kernel) ⟨Nat.le_of_ble_eq_true rfl, Nat.le_of_ble_eq_true rfl⟩) rfl hl.1 rfl (Nat.le_of_ble_eq_true rfl) dX12_fitting_33 ⟨Nat.zero_le _, Nat.zero_le _⟩ (fun H locs hw hS => ?_)
      refine lv_if_eq (tgt := 42) hx hb dX12_fitting_36 (by decide) (fun c4 => ?_) (fun c4 => ?_)
      · replace h := z_ifp c4 h
        refine lv_iinc (v := (x6 + 1)) (lv' := [(6, .int ((x6 + 1))), (0, .ref (F 0)), (1, .int x1), (2, .int x2), (3, .int x3), (4, .int x4), (5, .int x5)]) hx hb dX12_fitting_42 hl (k := 6) rfl rfl (by decide) rfl (fun ls hl => ?_)
        refine lv_goto (tgt := 18) hx hb dX12_fitting_45 (by decide) ?_
        exact ih x1 x2 x3 x4 x5 ((x6 + 1)) h _ _ _ hw hS (lv_sub hl [1, 2, 3, 4, 5, 6, 0] rfl)
      · replace h := z_ifn c4 h
        refine lv_iinc (v := (x4 + 1)) (lv' := [(4, .int ((x4 + 1))), (0, .ref (F 0)), (1, .int x1), (2, .int x2), (3, .int x3), (5, .int x5), (6, .int x6)]) hx hb dX12_fitting_39 hl (k := 4) rfl rfl (by decide) rfl (fun ls hl => ?_)
        refine lv_iinc (v := (x6 + 1)) (lv' := [(6, .int ((x6 + 1))), (4, .int ((x4 + 1))), (0, .ref (F 0)), (1, .int x1), (2, .int x2), (3, .int x3), (5, .int x5)]) hx hb dX12_fitting_42 hl (k := 6) rfl rfl (by decide) rfl (fun ls hl => ?_)
        refine lv_goto (tgt := 18) hx hb dX12_fitting_45 (by decide) ?_
        exact ih x1 x2 x3 ((x4 + 1)) x5 ((x6 + 1)) h _ _ _ hw hS (lv_sub hl [2, 3, 4, 5, 1, 6, 0] rfl)
def M_X12_fitting_B6 (S : zSt) : Nat → Int32 → Int32 → Int32 → Int32 → Int32 → Option (Int32)
  | 0, _, _, _, _, _ => none
  | n + 1, x1, x2, x3, x4, x5 =>
  (if (zsc S 0 3) ≤ x5 then some x4 else M_X12_fitting_B18 S (fun x1_ x2_ x3_ x4_ x5_ => M_X12_fitting_B6 S n x1_ x2_ x3_ x4_ x5_) zF x1 x2 x3 x4 x5 0)
set_option maxHeartbeats 4000000 in
set_option maxRecDepth 100000 in
theorem t_X12_fitting_B6 {p : Program} {l : Launch} {e : Env} {s : State} {m : MethodId} {args : Array Value} {below : List Frame} {meth : Method} {c : Code} {D : va_G} {Y : Nat → ClassId} {F : Nat → Nat} {A : Nat → Prop} {G : zG} (C0 : zCx p s m args meth c D Y F A RX12 cX12_fitting 7 (some .int) wsX12_fitting) (S : zSt) (res : Int32) : ∀ (n : Nat), ∀ (x1 : Int32) (x2 : Int32) (x3 : Int32) (x4 : Int32) (x5 : Int32), M_X12_fitting_B6 S n x1 x2 x3 x4 x5 = some res → ∀ (H : Heap) (locs : List Loc) (ls : Array Slot), zH D Y F A G S H → va_S A s.heap H locs → lv_has ls 7 [(0, .ref (F 0)), (1, .int x1), (2, .int x2), (3, .int x3), (4, .int x4), (5, .int x5)] → W p l e (zRm 4 90) s m args below meth c H locs 0 0 (MQ below (zQi D Y F A G (res, S)) args s 0 0 A) (F0 m 6 ls []) := by
  obtain ⟨hx, hb, hml, hr, hown, hts, hK, hA, hlk, hN⟩ := id C0
  intro n
  induction n with
  | zero =>
    intro x1 x2 x3 x4 x5 h
    unfold M_X12_fitting_B6 at h
    cases h
  | succ n ih =>
    intro x1 x2 x3 x4 x5 h H locs ls hw hS hl
    rw [M_X12_fitting_B6] at h
    refine lv_iload hx hb dX12_fitting_6 (lv_at hl 5 rfl) ?_
    refine lv_aload_n hx hb dX12_fitting_8 rfl (lv_at hl 0 rfl) ?_
    refine z_get C0 in_X12_fitting_X12 (C := RX12) (T := TX12) (N := 27) hw (k := 0) (ci := 12) (v := .int ((zsc S 0 3))) rfl rfl rfl rfl 3 (by decide) rfl 1 rfl dX12_fitting_9 ?_
    refine lv_icmp_ge (tgt := 54) hx hb dX12_fitting_12 (by decide) (fun c1 => ?_) (fun c1 => ?_)
    · replace h := z_ifp c1 h
      refine lv_iload hx hb dX12_fitting_54 (lv_at hl 4 rfl) ?_
      exact z_reti C0 hw hS (congrArg (fun z => (z, S)) (Option.some.inj h)) dX12_fitting_56
    · replace h := z_ifn c1 h
      refine lv_iconst (v := 0) hx hb dX12_fitting_15 (by decide) ?_
      refine lv_istore (lv' := [(6, .int 0), (0, .ref (F 0)), (1, .int x1), (2, .int x2), (3, .int x3), (4, .int x4), (5, .int x5)]) hx hb dX12_fitting_16 hl (by decide) rfl (fun ls hl => ?_)
      exact t_X12_fitting_B18 C0 S res (fun x1_ x2_ x3_ x4_ x5_ => M_X12_fitting_B6 S n x1_ x2_ x3_ x4_ x5_) ih zF x1 x2 x3 x4 x5 0 h _ _ _ hw hS (lv_sub hl [1, 2, 3, 4, 5, 6, 0] rfl)
def M_X12_fitting (S : zSt) (x1 : Int32) (x2 : Int32) (x3 : Int32) : Option (Int32) :=
  M_X12_fitting_B6 S zF x1 x2 x3 0 0
set_option maxHeartbeats 4000000 in
set_option maxRecDepth 100000 in
theorem c_X12_fitting (l : Launch) (D : va_G) (Y : Nat → ClassId) (F : Nat → Nat) (G : zG) (S : zSt) (sz : Nat) (x1 : Int32) (x2 : Int32) (x3 : Int32) (res : Int32) (h : M_X12_fitting S x1 x2 x3 = some res) : Met l yX12_fitting wsX12_fitting (zRm 4 90) (zPc D Y F G S sz [.ref (F 0), .int x1, .int x2, .int x3]) (zQi D Y F (zAo F G sz) G (res, S)) 0 0 (zAo F G sz) := by
  unfold M_X12_fitting at h
  refine zMet (cc := cX12_fitting) (maxL := 7) (ret := (some .int)) (own := RX12) (by decide +kernel) rfl rfl (Nat.le_of_ble_eq_true rfl) ?_
  intro p e s m args below meth c C0 hin hw hS ls hl
  have hl : lv_has ls 7 [(0, .ref (F 0)), (1, .int x1), (2, .int x2), (3, .int x3)] := hl
  generalize zAo F G sz = A at C0 hw hS ⊢
  obtain ⟨hx, hb, hml, hr, hown, hts, hK, hA, hlk, hN⟩ := id C0
  refine lv_iconst (v := 0) hx hb dX12_fitting_0 (by decide) ?_
  refine lv_istore (lv' := [(4, .int 0), (0, .ref (F 0)), (1, .int x1), (2, .int x2), (3, .int x3)]) hx hb dX12_fitting_1 hl (by decide) rfl (fun ls hl => ?_)
  refine lv_iconst (v := 0) hx hb dX12_fitting_3 (by decide) ?_
  refine lv_istore (lv' := [(5, .int 0), (4, .int 0), (0, .ref (F 0)), (1, .int x1), (2, .int x2), (3, .int x3)]) hx hb dX12_fitting_4 hl (by decide) rfl (fun ls hl => ?_)
  exact t_X12_fitting_B6 C0 S res zF x1 x2 x3 0 0 h _ _ _ hw hS (lv_sub hl [2, 3, 4, 5, 1, 0] rfl)
def M_X12_next_B69 : Nat → zSt → Int32 → Int32 → Int32 → Int32 → Int32 → Option (Int32 × zSt)
  | 0, _, _, _, _, _, _ => none
  | n + 1, S, x1, x2, x3, x5, x6 =>
  (if 8 ≤ x6 then some (x5, S) else Option.bind (M_X12_worst S x1 x2 x3 x6) (fun w8 => Option.bind (M_X12_worst S x1 x2 x3 x5) (fun w9 => (if w9 ≤ w8 then M_X12_next_B69 n S x1 x2 x3 x5 ((x6 + 1)) else M_X12_next_B69 n S x1 x2 x3 x6 ((x6 + 1))))))
set_option maxHeartbeats 4000000 in
set_option maxRecDepth 100000 in
theorem t_X12_next_B69 {p : Program} {l : Launch} {e : Env} {s : State} {m : MethodId} {args : Array Value} {below : List Frame} {meth : Method} {c : Code} {D : va_G} {Y : Nat → ClassId} {F : Nat → Nat} {A : Nat → Prop} {G : zG} (C0 : zCx p s m args meth c D Y F A RX12 cX12_next 7 (some .int) wsX12_next) (res : Int32 × zSt) : ∀ (n : Nat), ∀ (S : zSt) (x1 : Int32) (x2 : Int32) (x3 : Int32) (x5 : Int32) (x6 : Int32), M_X12_next_B69 n S x1 x2 x3 x5 x6 = some res → ∀ (H : Heap) (locs : List Loc) (ls : Array Slot), zH D Y F A G S H → va_S A s.heap H locs → lv_has ls 7 [(0, .ref (F 0)), (1, .int x1), (2, .int x2), (3, .int x3), (5, .int x5), (6, .int x6)] → W p l e (zRm 5 118) s m args below meth c H locs 0 0 (MQ below (zQi D Y F A G res) args s 0 0 A) (F0 m 69 ls []) := by
  obtain ⟨hx, hb, hml, hr, hown, hts, hK, hA, hlk, hN⟩ := id C0
  intro n
  induction n with
  | zero =>
    intro S x1 x2 x3 x5 x6 h
    unfold M_X12_next_B69 at h
    cases h
  | succ n ih =>
    intro S x1 x2 x3 x5 x6 h H locs ls hw hS hl
    rw [M_X12_next_B69] at h
    refine lv_iload hx hb dX12_next_69 (lv_at hl 5 rfl) ?_
    refine lv_bipush (v := 8) hx hb dX12_next_71 (by decide) ?_
    refine lv_icmp_ge (tgt := 107) hx hb dX12_next_73 (by decide) (fun c7 => ?_) (fun c7 => ?_)
    · replace h := z_ifp c7 h
      refine lv_iload hx hb dX12_next_107 (lv_at hl 4 rfl) ?_
      exact z_reti C0 hw hS (Option.some.inj h) dX12_next_109
    · replace h := z_ifn c7 h
      refine lv_aload_n hx hb dX12_next_76 rfl (lv_at hl 0 rfl) ?_
      refine lv_iload_n hx hb dX12_next_77 rfl (lv_at hl 1 rfl) ?_
      refine lv_iload_n hx hb dX12_next_78 rfl (lv_at hl 2 rfl) ?_
      refine lv_iload_n hx hb dX12_next_79 rfl (lv_at hl 3 rfl) ?_
      refine lv_iload hx hb dX12_next_80 (lv_at hl 5 rfl) ?_
      obtain ⟨w8, ew8, h⟩ := z_bd h
      refine z_callVip C0 hw hS (k := 0) (As := [.int x1, .int x2, .int x3, .int x6]) (rest := []) rfl rfl rfl rfl (c_X12_worst l D Y F G S _ x1 x2 x3 x6 w8 ew8) (cwV 4 hts gX12_next_X12_worst rfl rfl rfl (by decide +kernel) ⟨Nat.le_of_ble_eq_true rfl, Nat.le_of_ble_eq_true rfl⟩) rfl hl.1 rfl (Nat.le_of_ble_eq_true rfl) dX12_next_82 ⟨Nat.zero_le _, Nat.zero_le _⟩ (fun H locs hw hS => ?_)
      refine lv_aload_n hx hb dX12_next_85 rfl (lv_at hl 0 rfl) ?_
      refine lv_iload_n hx hb dX12_next_86 rfl (lv_at hl 1 rfl) ?_
      refine lv_iload_n hx hb dX12_next_87 rfl (lv_at hl 2 rfl) ?_
      refine lv_iload_n hx hb dX12_next_88 rfl (lv_at hl 3 rfl) ?_
      refine lv_iload hx hb dX12_next_89 (lv_at hl 4 rfl) ?_
      obtain ⟨w9, ew9, h⟩ := z_bd h
      refine z_callVip C0 hw hS (k := 0) (As := [.int x1, .int x2, .int x3, .int x5]) (rest := [.int w8]) rfl rfl rfl rfl (c_X12_worst l D Y F G S _ x1 x2 x3 x5 w9 ew9) (cwV 4 hts gX12_next_X12_worst rfl rfl rfl (by decide +kernel) ⟨Nat.le_of_ble_eq_true rfl, Nat.le_of_ble_eq_true rfl⟩) rfl hl.1 rfl (Nat.le_of_ble_eq_true rfl) dX12_next_91 ⟨Nat.zero_le _, Nat.zero_le _⟩ (fun H locs hw hS => ?_)
      refine lv_icmp_ge (tgt := 101) hx hb dX12_next_94 (by decide) (fun c10 => ?_) (fun c10 => ?_)
      · replace h := z_ifp c10 h
        refine lv_iinc (v := (x6 + 1)) (lv' := [(6, .int ((x6 + 1))), (0, .ref (F 0)), (1, .int x1), (2, .int x2), (3, .int x3), (5, .int x5)]) hx hb dX12_next_101 hl (k := 5) rfl rfl (by decide) rfl (fun ls hl => ?_)
        refine lv_goto (tgt := 69) hx hb dX12_next_104 (by decide) ?_
        exact ih S x1 x2 x3 x5 ((x6 + 1)) h _ _ _ hw hS (lv_sub hl [1, 2, 3, 4, 5, 0] rfl)
      · replace h := z_ifn c10 h
        refine lv_iload hx hb dX12_next_97 (lv_at hl 5 rfl) ?_
        refine lv_istore (lv' := [(5, .int x6), (0, .ref (F 0)), (1, .int x1), (2, .int x2), (3, .int x3), (6, .int x6)]) hx hb dX12_next_99 hl (by decide) rfl (fun ls hl => ?_)
        refine lv_iinc (v := (x6 + 1)) (lv' := [(6, .int ((x6 + 1))), (5, .int x6), (0, .ref (F 0)), (1, .int x1), (2, .int x2), (3, .int x3)]) hx hb dX12_next_101 hl (k := 5) rfl rfl (by decide) rfl (fun ls hl => ?_)
        refine lv_goto (tgt := 69) hx hb dX12_next_104 (by decide) ?_
        exact ih S x1 x2 x3 x6 ((x6 + 1)) h _ _ _ hw hS (lv_sub hl [2, 3, 4, 5, 1, 0] rfl)
def M_X12_next_B30 (S : zSt) (x1 : Int32) (x2 : Int32) (x3 : Int32) (x4 : Int32) : Option (Int32 × zSt) :=
  (if 0 ≤ x4 then (if x2 = 8 then some ((-1), S) else Option.bind (M_X12_fitting S x1 x2 x3) (fun w5 => (if 2 ≤ w5 then M_X12_next_B69 zF S x1 x2 x3 x2 ((x2 + 1)) else some ((-1), S)))) else Option.bind (M_X12_no10 S x4) (fun w11 => some (w11.1, w11.2)))
set_option maxHeartbeats 4000000 in
set_option maxRecDepth 100000 in
theorem t_X12_next_B30 {p : Program} {l : Launch} {e : Env} {s : State} {m : MethodId} {args : Array Value} {below : List Frame} {meth : Method} {c : Code} {D : va_G} {Y : Nat → ClassId} {F : Nat → Nat} {A : Nat → Prop} {G : zG} (C0 : zCx p s m args meth c D Y F A RX12 cX12_next 7 (some .int) wsX12_next) (res : Int32 × zSt) : ∀ (S : zSt) (x1 : Int32) (x2 : Int32) (x3 : Int32) (x4 : Int32), M_X12_next_B30 S x1 x2 x3 x4 = some res → ∀ (H : Heap) (locs : List Loc) (ls : Array Slot), zH D Y F A G S H → va_S A s.heap H locs → lv_has ls 7 [(0, .ref (F 0)), (1, .int x1), (2, .int x2), (3, .int x3), (4, .int x4)] → W p l e (zRm 5 118) s m args below meth c H locs 0 0 (MQ below (zQi D Y F A G res) args s 0 0 A) (F0 m 30 ls []) := by
  obtain ⟨hx, hb, hml, hr, hown, hts, hK, hA, hlk, hN⟩ := id C0
  intro S x1 x2 x3 x4 h H locs ls hw hS hl
  unfold M_X12_next_B30 at h
  refine lv_iload hx hb dX12_next_30 (lv_at hl 4 rfl) ?_
  refine lv_if_ge (tgt := 42) hx hb dX12_next_32 (by decide) (fun c3 => ?_) (fun c3 => ?_)
  · replace h := z_ifp c3 h
    refine lv_iload_n hx hb dX12_next_42 rfl (lv_at hl 2 rfl) ?_
    refine lv_bipush (v := 8) hx hb dX12_next_43 (by decide) ?_
    refine lv_icmp_eq (tgt := 59) hx hb dX12_next_45 (by decide) (fun c4 => ?_) (fun c4 => ?_)
    · replace h := z_ifp c4 h
      refine lv_iconst (v := (-1)) hx hb dX12_next_59 (by decide) ?_
      exact z_reti C0 hw hS (Option.some.inj h) dX12_next_60
    · replace h := z_ifn c4 h
      refine lv_aload_n hx hb dX12_next_48 rfl (lv_at hl 0 rfl) ?_
      refine lv_iload_n hx hb dX12_next_49 rfl (lv_at hl 1 rfl) ?_
      refine lv_iload_n hx hb dX12_next_50 rfl (lv_at hl 2 rfl) ?_
      refine lv_iload_n hx hb dX12_next_51 rfl (lv_at hl 3 rfl) ?_
      obtain ⟨w5, ew5, h⟩ := z_bd h
      refine z_callVip C0 hw hS (k := 0) (As := [.int x1, .int x2, .int x3]) (rest := []) rfl rfl rfl rfl (c_X12_fitting l D Y F G S _ x1 x2 x3 w5 ew5) (cwV 3 hts gX12_next_X12_fitting rfl rfl rfl (by decide +kernel) ⟨Nat.le_of_ble_eq_true rfl, Nat.le_of_ble_eq_true rfl⟩) rfl hl.1 rfl (Nat.le_of_ble_eq_true rfl) dX12_next_52 ⟨Nat.zero_le _, Nat.zero_le _⟩ (fun H locs hw hS => ?_)
      refine lv_iconst (v := 2) hx hb dX12_next_55 (by decide) ?_
      refine lv_icmp_ge (tgt := 61) hx hb dX12_next_56 (by decide) (fun c6 => ?_) (fun c6 => ?_)
      · replace h := z_ifp c6 h
        refine lv_iload_n hx hb dX12_next_61 rfl (lv_at hl 2 rfl) ?_
        refine lv_istore (lv' := [(5, .int x2), (0, .ref (F 0)), (1, .int x1), (2, .int x2), (3, .int x3), (4, .int x4)]) hx hb dX12_next_62 hl (by decide) rfl (fun ls hl => ?_)
        refine lv_iload_n hx hb dX12_next_64 rfl (lv_at hl 3 rfl) ?_
        refine lv_iconst (v := 1) hx hb dX12_next_65 (by decide) ?_
        refine lv_iadd hx hb dX12_next_66 ?_
        refine lv_istore (lv' := [(6, .int ((x2 + 1))), (5, .int x2), (0, .ref (F 0)), (1, .int x1), (2, .int x2), (3, .int x3), (4, .int x4)]) hx hb dX12_next_67 hl (by decide) rfl (fun ls hl => ?_)
        exact t_X12_next_B69 C0 res zF S x1 x2 x3 x2 ((x2 + 1)) h _ _ _ hw hS (lv_sub hl [2, 3, 4, 5, 1, 0] rfl)
      · replace h := z_ifn c6 h
        refine lv_iconst (v := (-1)) hx hb dX12_next_59 (by decide) ?_
        exact z_reti C0 hw hS (Option.some.inj h) dX12_next_60
  · replace h := z_ifn c3 h
    refine lv_aload_n hx hb dX12_next_35 rfl (lv_at hl 0 rfl) ?_
    refine lv_iload hx hb dX12_next_36 (lv_at hl 4 rfl) ?_
    obtain ⟨w11, ew11, h⟩ := z_bd h
    refine z_callVi0 C0 hw hS (k := 0) (As := [.int x4]) (rest := []) rfl rfl rfl rfl (c_X12_no10 l D Y F G S _ x4 w11 ew11) (cwV 1 hts gX12_next_X12_no10 rfl rfl rfl (by decide +kernel) ⟨Nat.le_of_ble_eq_true rfl, Nat.le_of_ble_eq_true rfl⟩) rfl hl.1 rfl (Nat.le_of_ble_eq_true rfl) dX12_next_38 ⟨Nat.zero_le _, Nat.zero_le _⟩ (fun H locs hw hS => ?_)
    exact z_reti C0 hw hS (Option.some.inj h) dX12_next_41
def M_X12_next (S : zSt) (x1 : Int32) (x2 : Int32) (x3 : Int32) : Option (Int32 × zSt) :=
  Option.bind (M_X12_noTold S x1 x2 1 8) (fun w1 => (if w1 = 0 then Option.bind (M_X12_within S x3 0 20) (fun w12 => (if w12 = 0 then M_X12_next_B30 S x1 x2 x3 (-6) else M_X12_next_B30 S x1 x2 x3 w1)) else M_X12_next_B30 S x1 x2 x3 w1))
set_option maxHeartbeats 4000000 in
set_option maxRecDepth 100000 in
theorem c_X12_next (l : Launch) (D : va_G) (Y : Nat → ClassId) (F : Nat → Nat) (G : zG) (S : zSt) (sz : Nat) (x1 : Int32) (x2 : Int32) (x3 : Int32) (res : Int32 × zSt) (h : M_X12_next S x1 x2 x3 = some res) : Met l yX12_next wsX12_next (zRm 5 118) (zPc D Y F G S sz [.ref (F 0), .int x1, .int x2, .int x3]) (zQi D Y F (zAo F G sz) G res) 0 0 (zAo F G sz) := by
  unfold M_X12_next at h
  refine zMet (cc := cX12_next) (maxL := 7) (ret := (some .int)) (own := RX12) (by decide +kernel) rfl rfl (Nat.le_of_ble_eq_true rfl) ?_
  intro p e s m args below meth c C0 hin hw hS ls hl
  have hl : lv_has ls 7 [(0, .ref (F 0)), (1, .int x1), (2, .int x2), (3, .int x3)] := hl
  generalize zAo F G sz = A at C0 hw hS ⊢
  obtain ⟨hx, hb, hml, hr, hown, hts, hK, hA, hlk, hN⟩ := id C0
  refine lv_aload_n hx hb dX12_next_0 rfl (lv_at hl 0 rfl) ?_
  refine lv_iload_n hx hb dX12_next_1 rfl (lv_at hl 1 rfl) ?_
  refine lv_iload_n hx hb dX12_next_2 rfl (lv_at hl 2 rfl) ?_
  refine lv_iconst (v := 1) hx hb dX12_next_3 (by decide) ?_
  refine lv_bipush (v := 8) hx hb dX12_next_4 (by decide) ?_
  obtain ⟨w1, ew1, h⟩ := z_bd h
  refine z_callVip C0 hw hS (k := 0) (As := [.int x1, .int x2, .int 1, .int 8]) (rest := []) rfl rfl rfl rfl (c_X12_noTold l D Y F G S _ x1 x2 1 8 w1 ew1) (cwV 4 hts gX12_next_X12_noTold rfl rfl rfl (by decide +kernel) ⟨Nat.le_of_ble_eq_true rfl, Nat.le_of_ble_eq_true rfl⟩) rfl hl.1 rfl (Nat.le_of_ble_eq_true rfl) dX12_next_6 ⟨Nat.zero_le _, Nat.zero_le _⟩ (fun H locs hw hS => ?_)
  refine lv_istore (lv' := [(4, .int w1), (0, .ref (F 0)), (1, .int x1), (2, .int x2), (3, .int x3)]) hx hb dX12_next_9 hl (by decide) rfl (fun ls hl => ?_)
  refine lv_iload hx hb dX12_next_11 (lv_at hl 0 rfl) ?_
  refine lv_if_ne (tgt := 30) hx hb dX12_next_13 (by decide) (fun c2 => ?_) (fun c2 => ?_)
  · replace h := z_ifn c2 h
    exact t_X12_next_B30 C0 res S x1 x2 x3 w1 h _ _ _ hw hS (lv_sub hl [1, 2, 3, 4, 0] rfl)
  · replace h := z_ifp c2 h
    refine lv_iload_n hx hb dX12_next_16 rfl (lv_at hl 4 rfl) ?_
    refine lv_iconst (v := 0) hx hb dX12_next_17 (by decide) ?_
    refine lv_bipush (v := 20) hx hb dX12_next_18 (by decide) ?_
    obtain ⟨w12, ew12, h⟩ := z_bd h
    refine z_callSip C0 hw hS (As := [.int x3, .int 0, .int 20]) (rest := []) (c_X12_within l D Y F G S _ x3 0 20 w12 ew12) (va_cwS 3 hts gX12_next_X12_within rfl rfl rfl (by decide +kernel) ⟨Nat.le_of_ble_eq_true rfl, Nat.le_of_ble_eq_true rfl⟩) rfl hl.1 rfl (Nat.le_of_ble_eq_true rfl) dX12_next_20 ⟨Nat.zero_le _, Nat.zero_le _⟩ (fun H locs hw hS => ?_)
    refine lv_if_ne (tgt := 30) hx hb dX12_next_23 (by decide) (fun c13 => ?_) (fun c13 => ?_)
    · replace h := z_ifn c13 h
      exact t_X12_next_B30 C0 res S x1 x2 x3 w1 h _ _ _ hw hS (lv_sub hl [1, 2, 3, 4, 0] rfl)
    · replace h := z_ifp c13 h
      refine lv_bipush (v := (-6)) hx hb dX12_next_26 (by decide) ?_
      refine lv_istore (lv' := [(4, .int (-6)), (0, .ref (F 0)), (1, .int x1), (2, .int x2), (3, .int x3)]) hx hb dX12_next_28 hl (by decide) rfl (fun ls hl => ?_)
      exact t_X12_next_B30 C0 res S x1 x2 x3 (-6) h _ _ _ hw hS (lv_sub hl [1, 2, 3, 4, 0] rfl)
def M_X12_isOne (S : zSt) (x1 : Int32) : Option (Int32) :=
  (if x1 < 0 then some 0 else Option.bind (M_X12_isPerson S ((x1 / 10))) (fun w2 => (if w2 = 0 then some 0 else Option.bind (M_X12_isCopy S ((x1 - x1 / 10 * 10))) (fun w4 => (if w4 = 0 then some 0 else some 1)))))
set_option maxHeartbeats 4000000 in
set_option maxRecDepth 100000 in
theorem c_X12_isOne (l : Launch) (D : va_G) (Y : Nat → ClassId) (F : Nat → Nat) (G : zG) (S : zSt) (sz : Nat) (x1 : Int32) (res : Int32) (h : M_X12_isOne S x1 = some res) : Met l yX12_isOne wsX12_isOne (zRm 2 43) (zPc D Y F G S sz [.ref (F 0), .int x1]) (zQi D Y F (zAo F G sz) G (res, S)) 0 0 (zAo F G sz) := by
  unfold M_X12_isOne at h
  refine zMet (cc := cX12_isOne) (maxL := 2) (ret := (some .boolean)) (own := RX12) (by decide +kernel) rfl rfl (Nat.le_of_ble_eq_true rfl) ?_
  intro p e s m args below meth c C0 hin hw hS ls hl
  have hl : lv_has ls 2 [(0, .ref (F 0)), (1, .int x1)] := hl
  generalize zAo F G sz = A at C0 hw hS ⊢
  obtain ⟨hx, hb, hml, hr, hown, hts, hK, hA, hlk, hN⟩ := id C0
  refine lv_iload_n hx hb dX12_isOne_0 rfl (lv_at hl 1 rfl) ?_
  refine lv_if_lt (tgt := 29) hx hb dX12_isOne_1 (by decide) (fun c1 => ?_) (fun c1 => ?_)
  · replace h := z_ifp c1 h
    refine lv_iconst (v := 0) hx hb dX12_isOne_29 (by decide) ?_
    exact z_retz C0 hw hS rfl (congrArg (fun z => (z, S)) (Option.some.inj h)) dX12_isOne_30
  · replace h := z_ifn c1 h
    refine lv_aload_n hx hb dX12_isOne_4 rfl (lv_at hl 0 rfl) ?_
    refine lv_iload_n hx hb dX12_isOne_5 rfl (lv_at hl 1 rfl) ?_
    refine lv_bipush (v := 10) hx hb dX12_isOne_6 (by decide) ?_
    refine lv_idiv hx hb dX12_isOne_8 (by decide) ?_
    obtain ⟨w2, ew2, h⟩ := z_bd h
    refine z_callVip C0 hw hS (k := 0) (As := [.int ((x1 / 10))]) (rest := []) rfl rfl rfl rfl (c_X12_isPerson l D Y F G S _ ((x1 / 10)) w2 ew2) (cwV 1 hts gX12_isOne_X12_isPerson rfl rfl rfl (by decide +kernel) ⟨Nat.le_of_ble_eq_true rfl, Nat.le_of_ble_eq_true rfl⟩) rfl hl.1 rfl (Nat.le_of_ble_eq_true rfl) dX12_isOne_9 ⟨Nat.zero_le _, Nat.zero_le _⟩ (fun H locs hw hS => ?_)
    refine lv_if_eq (tgt := 29) hx hb dX12_isOne_12 (by decide) (fun c3 => ?_) (fun c3 => ?_)
    · replace h := z_ifp c3 h
      refine lv_iconst (v := 0) hx hb dX12_isOne_29 (by decide) ?_
      exact z_retz C0 hw hS rfl (congrArg (fun z => (z, S)) (Option.some.inj h)) dX12_isOne_30
    · replace h := z_ifn c3 h
      refine lv_iload_n hx hb dX12_isOne_15 rfl (lv_at hl 1 rfl) ?_
      refine lv_bipush (v := 10) hx hb dX12_isOne_16 (by decide) ?_
      refine lv_irem hx hb dX12_isOne_18 (by decide) ?_
      obtain ⟨w4, ew4, h⟩ := z_bd h
      refine z_callSip C0 hw hS (As := [.int ((x1 - x1 / 10 * 10))]) (rest := []) (c_X12_isCopy l D Y F G S _ ((x1 - x1 / 10 * 10)) w4 ew4) (va_cwS 1 hts gX12_isOne_X12_isCopy rfl rfl rfl (by decide +kernel) ⟨Nat.le_of_ble_eq_true rfl, Nat.le_of_ble_eq_true rfl⟩) rfl hl.1 rfl (Nat.le_of_ble_eq_true rfl) dX12_isOne_19 ⟨Nat.zero_le _, Nat.zero_le _⟩ (fun H locs hw hS => ?_)
      refine lv_if_eq (tgt := 29) hx hb dX12_isOne_22 (by decide) (fun c5 => ?_) (fun c5 => ?_)
      · replace h := z_ifp c5 h
        refine lv_iconst (v := 0) hx hb dX12_isOne_29 (by decide) ?_
        exact z_retz C0 hw hS rfl (congrArg (fun z => (z, S)) (Option.some.inj h)) dX12_isOne_30
      · replace h := z_ifn c5 h
        refine lv_iconst (v := 1) hx hb dX12_isOne_25 (by decide) ?_
        refine lv_goto (tgt := 30) hx hb dX12_isOne_26 (by decide) ?_
        exact z_retz C0 hw hS rfl (congrArg (fun z => (z, S)) (Option.some.inj h)) dX12_isOne_30
def M_X12_unlikes (S : zSt) (x1 : Int32) (x2 : Int32) (x3 : Int32) (x4 : Int32) : Option (Int32) :=
  Option.bind (M_X12_hasAll S x1 x2) (fun w1 => Option.bind (M_X12_hasAll S x3 x4) (fun w2 => Option.bind (M_J6_bitCount_0f7a4 S ((w1 ^^^ w2))) (fun w3 => some w3)))
set_option maxHeartbeats 4000000 in
set_option maxRecDepth 100000 in
theorem c_X12_unlikes (l : Launch) (D : va_G) (Y : Nat → ClassId) (F : Nat → Nat) (G : zG) (S : zSt) (sz : Nat) (x1 : Int32) (x2 : Int32) (x3 : Int32) (x4 : Int32) (res : Int32) (h : M_X12_unlikes S x1 x2 x3 x4 = some res) : Met l yX12_unlikes wsX12_unlikes (zRm 3 70) (zPc D Y F G S sz [.ref (F 0), .int x1, .int x2, .int x3, .int x4]) (zQi D Y F (zAo F G sz) G (res, S)) 0 0 (zAo F G sz) := by
  unfold M_X12_unlikes at h
  refine zMet (cc := cX12_unlikes) (maxL := 5) (ret := (some .int)) (own := RX12) (by decide +kernel) rfl rfl (Nat.le_of_ble_eq_true rfl) ?_
  intro p e s m args below meth c C0 hin hw hS ls hl
  have hl : lv_has ls 5 [(0, .ref (F 0)), (1, .int x1), (2, .int x2), (3, .int x3), (4, .int x4)] := hl
  generalize zAo F G sz = A at C0 hw hS ⊢
  obtain ⟨hx, hb, hml, hr, hown, hts, hK, hA, hlk, hN⟩ := id C0
  refine lv_aload_n hx hb dX12_unlikes_0 rfl (lv_at hl 0 rfl) ?_
  refine lv_iload_n hx hb dX12_unlikes_1 rfl (lv_at hl 1 rfl) ?_
  refine lv_iload_n hx hb dX12_unlikes_2 rfl (lv_at hl 2 rfl) ?_
  obtain ⟨w1, ew1, h⟩ := z_bd h
  refine z_callVip C0 hw hS (k := 0) (As := [.int x1, .int x2]) (rest := []) rfl rfl rfl rfl (c_X12_hasAll l D Y F G S _ x1 x2 w1 ew1) (cwV 2 hts gX12_unlikes_X12_hasAll rfl rfl rfl (by decide +kernel) ⟨Nat.le_of_ble_eq_true rfl, Nat.le_of_ble_eq_true rfl⟩) rfl hl.1 rfl (Nat.le_of_ble_eq_true rfl) dX12_unlikes_3 ⟨Nat.zero_le _, Nat.zero_le _⟩ (fun H locs hw hS => ?_)
  refine lv_aload_n hx hb dX12_unlikes_6 rfl (lv_at hl 0 rfl) ?_
  refine lv_iload_n hx hb dX12_unlikes_7 rfl (lv_at hl 3 rfl) ?_
  refine lv_iload hx hb dX12_unlikes_8 (lv_at hl 4 rfl) ?_
  obtain ⟨w2, ew2, h⟩ := z_bd h
  refine z_callVip C0 hw hS (k := 0) (As := [.int x3, .int x4]) (rest := [.int w1]) rfl rfl rfl rfl (c_X12_hasAll l D Y F G S _ x3 x4 w2 ew2) (cwV 2 hts gX12_unlikes_X12_hasAll rfl rfl rfl (by decide +kernel) ⟨Nat.le_of_ble_eq_true rfl, Nat.le_of_ble_eq_true rfl⟩) rfl hl.1 rfl (Nat.le_of_ble_eq_true rfl) dX12_unlikes_10 ⟨Nat.zero_le _, Nat.zero_le _⟩ (fun H locs hw hS => ?_)
  refine lv_ixor hx hb dX12_unlikes_13 ?_
  obtain ⟨w3, ew3, h⟩ := z_bd h
  refine z_callSip C0 hw hS (As := [.int ((w1 ^^^ w2))]) (rest := []) (c_J6_bitCount_0f7a4 l D Y F G S _ ((w1 ^^^ w2)) w3 ew3) (va_cwS 1 hts gX12_unlikes_J6_bitCount_0f7a4 rfl rfl rfl (by decide +kernel) ⟨Nat.le_of_ble_eq_true rfl, Nat.le_of_ble_eq_true rfl⟩) rfl hl.1 rfl (Nat.le_of_ble_eq_true rfl) dX12_unlikes_14 ⟨Nat.zero_le _, Nat.zero_le _⟩ (fun H locs hw hS => ?_)
  exact z_reti C0 hw hS (congrArg (fun z => (z, S)) (Option.some.inj h)) dX12_unlikes_17
def M_X12_unlike_B39 (S : zSt) : Option (Int32 × zSt) :=
  Option.bind (M_X12_no S (-6)) (fun w3 => some (w3.1, w3.2))
set_option maxHeartbeats 4000000 in
set_option maxRecDepth 100000 in
theorem t_X12_unlike_B39 {p : Program} {l : Launch} {e : Env} {s : State} {m : MethodId} {args : Array Value} {below : List Frame} {meth : Method} {c : Code} {D : va_G} {Y : Nat → ClassId} {F : Nat → Nat} {A : Nat → Prop} {G : zG} (C0 : zCx p s m args meth c D Y F A RX12 cX12_unlike 3 (some .int) wsX12_unlike) (res : Int32 × zSt) : ∀ (S : zSt), M_X12_unlike_B39 S = some res → ∀ (H : Heap) (locs : List Loc) (ls : Array Slot), zH D Y F A G S H → va_S A s.heap H locs → lv_has ls 3 [(0, .ref (F 0))] → W p l e (zRm 4 94) s m args below meth c H locs 0 0 (MQ below (zQi D Y F A G res) args s 0 0 A) (F0 m 39 ls []) := by
  obtain ⟨hx, hb, hml, hr, hown, hts, hK, hA, hlk, hN⟩ := id C0
  intro S h H locs ls hw hS hl
  unfold M_X12_unlike_B39 at h
  refine lv_aload_n hx hb dX12_unlike_39 rfl (lv_at hl 0 rfl) ?_
  refine lv_bipush (v := (-6)) hx hb dX12_unlike_40 (by decide) ?_
  obtain ⟨w3, ew3, h⟩ := z_bd h
  refine z_callVi0 C0 hw hS (k := 0) (As := [.int (-6)]) (rest := []) rfl rfl rfl rfl (c_X12_no l D Y F G S _ (-6) w3 ew3) (cwV 1 hts gX12_unlike_X12_no rfl rfl rfl (by decide +kernel) ⟨Nat.le_of_ble_eq_true rfl, Nat.le_of_ble_eq_true rfl⟩) rfl hl.1 rfl (Nat.le_of_ble_eq_true rfl) dX12_unlike_42 ⟨Nat.zero_le _, Nat.zero_le _⟩ (fun H locs hw hS => ?_)
  exact z_reti C0 hw hS (Option.some.inj h) dX12_unlike_45
def M_X12_unlike (S : zSt) (x1 : Int32) (x2 : Int32) : Option (Int32 × zSt) :=
  Option.bind (M_X12_isOne S x1) (fun w1 => (if w1 = 0 then M_X12_unlike_B39 S else Option.bind (M_X12_isOne S x2) (fun w4 => (if w4 = 0 then M_X12_unlike_B39 S else Option.bind (M_X12_unlikes S ((x1 / 10)) ((x1 - x1 / 10 * 10)) ((x2 / 10)) ((x2 - x2 / 10 * 10))) (fun w6 => some (w6, S))))))
set_option maxHeartbeats 4000000 in
set_option maxRecDepth 100000 in
theorem c_X12_unlike (l : Launch) (D : va_G) (Y : Nat → ClassId) (F : Nat → Nat) (G : zG) (S : zSt) (sz : Nat) (x1 : Int32) (x2 : Int32) (res : Int32 × zSt) (h : M_X12_unlike S x1 x2 = some res) : Met l yX12_unlike wsX12_unlike (zRm 4 94) (zPc D Y F G S sz [.ref (F 0), .int x1, .int x2]) (zQi D Y F (zAo F G sz) G res) 0 0 (zAo F G sz) := by
  unfold M_X12_unlike at h
  refine zMet (cc := cX12_unlike) (maxL := 3) (ret := (some .int)) (own := RX12) (by decide +kernel) rfl rfl (Nat.le_of_ble_eq_true rfl) ?_
  intro p e s m args below meth c C0 hin hw hS ls hl
  have hl : lv_has ls 3 [(0, .ref (F 0)), (1, .int x1), (2, .int x2)] := hl
  generalize zAo F G sz = A at C0 hw hS ⊢
  obtain ⟨hx, hb, hml, hr, hown, hts, hK, hA, hlk, hN⟩ := id C0
  refine lv_aload_n hx hb dX12_unlike_0 rfl (lv_at hl 0 rfl) ?_
  refine lv_iload_n hx hb dX12_unlike_1 rfl (lv_at hl 1 rfl) ?_
  obtain ⟨w1, ew1, h⟩ := z_bd h
  refine z_callVip C0 hw hS (k := 0) (As := [.int x1]) (rest := []) rfl rfl rfl rfl (c_X12_isOne l D Y F G S _ x1 w1 ew1) (cwV 1 hts gX12_unlike_X12_isOne rfl rfl rfl (by decide +kernel) ⟨Nat.le_of_ble_eq_true rfl, Nat.le_of_ble_eq_true rfl⟩) rfl hl.1 rfl (Nat.le_of_ble_eq_true rfl) dX12_unlike_2 ⟨Nat.zero_le _, Nat.zero_le _⟩ (fun H locs hw hS => ?_)
  refine lv_if_eq (tgt := 39) hx hb dX12_unlike_5 (by decide) (fun c2 => ?_) (fun c2 => ?_)
  · replace h := z_ifp c2 h
    exact t_X12_unlike_B39 C0 res S h _ _ _ hw hS (lv_sub hl [0] rfl)
  · replace h := z_ifn c2 h
    refine lv_aload_n hx hb dX12_unlike_8 rfl (lv_at hl 0 rfl) ?_
    refine lv_iload_n hx hb dX12_unlike_9 rfl (lv_at hl 2 rfl) ?_
    obtain ⟨w4, ew4, h⟩ := z_bd h
    refine z_callVip C0 hw hS (k := 0) (As := [.int x2]) (rest := []) rfl rfl rfl rfl (c_X12_isOne l D Y F G S _ x2 w4 ew4) (cwV 1 hts gX12_unlike_X12_isOne rfl rfl rfl (by decide +kernel) ⟨Nat.le_of_ble_eq_true rfl, Nat.le_of_ble_eq_true rfl⟩) rfl hl.1 rfl (Nat.le_of_ble_eq_true rfl) dX12_unlike_10 ⟨Nat.zero_le _, Nat.zero_le _⟩ (fun H locs hw hS => ?_)
    refine lv_if_eq (tgt := 39) hx hb dX12_unlike_13 (by decide) (fun c5 => ?_) (fun c5 => ?_)
    · replace h := z_ifp c5 h
      exact t_X12_unlike_B39 C0 res S h _ _ _ hw hS (lv_sub hl [0] rfl)
    · replace h := z_ifn c5 h
      refine lv_aload_n hx hb dX12_unlike_16 rfl (lv_at hl 0 rfl) ?_
      refine lv_iload_n hx hb dX12_unlike_17 rfl (lv_at hl 1 rfl) ?_
      refine lv_bipush (v := 10) hx hb dX12_unlike_18 (by decide) ?_
      refine lv_idiv hx hb dX12_unlike_20 (by decide) ?_
      refine lv_iload_n hx hb dX12_unlike_21 rfl (lv_at hl 1 rfl) ?_
      refine lv_bipush (v := 10) hx hb dX12_unlike_22 (by decide) ?_
      refine lv_irem hx hb dX12_unlike_24 (by decide) ?_
      refine lv_iload_n hx hb dX12_unlike_25 rfl (lv_at hl 2 rfl) ?_
      refine lv_bipush (v := 10) hx hb dX12_unlike_26 (by decide) ?_
      refine lv_idiv hx hb dX12_unlike_28 (by decide) ?_
      refine lv_iload_n hx hb dX12_unlike_29 rfl (lv_at hl 2 rfl) ?_
      refine lv_bipush (v := 10) hx hb dX12_unlike_30 (by decide) ?_
      refine lv_irem hx hb dX12_unlike_32 (by decide) ?_
      obtain ⟨w6, ew6, h⟩ := z_bd h
      refine z_callVip C0 hw hS (k := 0) (As := [.int ((x1 / 10)), .int ((x1 - x1 / 10 * 10)), .int ((x2 / 10)), .int ((x2 - x2 / 10 * 10))]) (rest := []) rfl rfl rfl rfl (c_X12_unlikes l D Y F G S _ ((x1 / 10)) ((x1 - x1 / 10 * 10)) ((x2 / 10)) ((x2 - x2 / 10 * 10)) w6 ew6) (cwV 4 hts gX12_unlike_X12_unlikes rfl rfl rfl (by decide +kernel) ⟨Nat.le_of_ble_eq_true rfl, Nat.le_of_ble_eq_true rfl⟩) rfl hl.1 rfl (Nat.le_of_ble_eq_true rfl) dX12_unlike_33 ⟨Nat.zero_le _, Nat.zero_le _⟩ (fun H locs hw hS => ?_)
      refine lv_goto (tgt := 45) hx hb dX12_unlike_36 (by decide) ?_
      exact z_reti C0 hw hS (Option.some.inj h) dX12_unlike_45
def M_X12_odd_B62 (K44 : zSt → Int32 → Int32 → Int32 → Int32 → Option (Int32 × zSt)) : Nat → zSt → Int32 → Int32 → Int32 → Int32 → Int32 → Int32 → Option (Int32 × zSt)
  | 0, _, _, _, _, _, _, _ => none
  | n + 1, S, x1, x2, x3, x4, x5, x6 =>
  (if 6 ≤ x6 then (if x3 < x5 then K44 S x1 x4 x5 ((x4 + 1)) else K44 S x1 x2 x3 ((x4 + 1))) else Option.bind (M_X12_unlikes S x1 x4 x1 x6) (fun w12 => M_X12_odd_B62 K44 n S x1 x2 x3 x4 ((x5 + w12)) ((x6 + 1))))
set_option maxHeartbeats 4000000 in
set_option maxRecDepth 100000 in
theorem t_X12_odd_B62 {p : Program} {l : Launch} {e : Env} {s : State} {m : MethodId} {args : Array Value} {below : List Frame} {meth : Method} {c : Code} {D : va_G} {Y : Nat → ClassId} {F : Nat → Nat} {A : Nat → Prop} {G : zG} (C0 : zCx p s m args meth c D Y F A RX12 cX12_odd 7 (some .int) wsX12_odd) (res : Int32 × zSt) (K44 : zSt → Int32 → Int32 → Int32 → Int32 → Option (Int32 × zSt)) (hK44 : ∀ (S : zSt) (x1 : Int32) (x2 : Int32) (x3 : Int32) (x4 : Int32), K44 S x1 x2 x3 x4 = some res → ∀ (H : Heap) (locs : List Loc) (ls : Array Slot), zH D Y F A G S H → va_S A s.heap H locs → lv_has ls 7 [(0, .ref (F 0)), (1, .int x1), (2, .int x2), (3, .int x3), (4, .int x4)] → W p l e (zRm 4 94) s m args below meth c H locs 0 0 (MQ below (zQi D Y F A G res) args s 0 0 A) (F0 m 44 ls [])) : ∀ (n : Nat), ∀ (S : zSt) (x1 : Int32) (x2 : Int32) (x3 : Int32) (x4 : Int32) (x5 : Int32) (x6 : Int32), M_X12_odd_B62 K44 n S x1 x2 x3 x4 x5 x6 = some res → ∀ (H : Heap) (locs : List Loc) (ls : Array Slot), zH D Y F A G S H → va_S A s.heap H locs → lv_has ls 7 [(0, .ref (F 0)), (1, .int x1), (2, .int x2), (3, .int x3), (4, .int x4), (5, .int x5), (6, .int x6)] → W p l e (zRm 4 94) s m args below meth c H locs 0 0 (MQ below (zQi D Y F A G res) args s 0 0 A) (F0 m 62 ls []) := by
  obtain ⟨hx, hb, hml, hr, hown, hts, hK, hA, hlk, hN⟩ := id C0
  intro n
  induction n with
  | zero =>
    intro S x1 x2 x3 x4 x5 x6 h
    unfold M_X12_odd_B62 at h
    cases h
  | succ n ih =>
    intro S x1 x2 x3 x4 x5 x6 h H locs ls hw hS hl
    rw [M_X12_odd_B62] at h
    refine lv_iload hx hb dX12_odd_62 (lv_at hl 6 rfl) ?_
    refine lv_bipush (v := 6) hx hb dX12_odd_64 (by decide) ?_
    refine lv_icmp_ge (tgt := 90) hx hb dX12_odd_66 (by decide) (fun c10 => ?_) (fun c10 => ?_)
    · replace h := z_ifp c10 h
      refine lv_iload hx hb dX12_odd_90 (lv_at hl 5 rfl) ?_
      refine lv_iload_n hx hb dX12_odd_92 rfl (lv_at hl 3 rfl) ?_
      refine lv_icmp_gt (tgt := 99) hx hb dX12_odd_93 (by decide) (fun c11 => ?_) (fun c11 => ?_)
      · replace h := z_ifp c11 h
        refine lv_iload hx hb dX12_odd_99 (lv_at hl 5 rfl) ?_
        refine lv_istore_n (lv' := [(3, .int x5), (0, .ref (F 0)), (1, .int x1), (2, .int x2), (4, .int x4), (5, .int x5), (6, .int x6)]) hx hb dX12_odd_101 rfl hl (by decide) rfl (fun ls hl => ?_)
        refine lv_iload hx hb dX12_odd_102 (lv_at hl 4 rfl) ?_
        refine lv_istore_n (lv' := [(2, .int x4), (3, .int x5), (0, .ref (F 0)), (1, .int x1), (4, .int x4), (5, .int x5), (6, .int x6)]) hx hb dX12_odd_104 rfl hl (by decide) rfl (fun ls hl => ?_)
        refine lv_iinc (v := (x4 + 1)) (lv' := [(4, .int ((x4 + 1))), (2, .int x4), (3, .int x5), (0, .ref (F 0)), (1, .int x1), (5, .int x5), (6, .int x6)]) hx hb dX12_odd_105 hl (k := 4) rfl rfl (by decide) rfl (fun ls hl => ?_)
        refine lv_goto (tgt := 44) hx hb dX12_odd_108 (by decide) ?_
        exact hK44 S x1 x4 x5 ((x4 + 1)) h _ _ _ hw hS (lv_sub hl [3, 4, 1, 2, 0] rfl)
      · replace h := z_ifn c11 h
        refine lv_goto (tgt := 105) hx hb dX12_odd_96 (by decide) ?_
        refine lv_iinc (v := (x4 + 1)) (lv' := [(4, .int ((x4 + 1))), (0, .ref (F 0)), (1, .int x1), (2, .int x2), (3, .int x3), (5, .int x5), (6, .int x6)]) hx hb dX12_odd_105 hl (k := 4) rfl rfl (by decide) rfl (fun ls hl => ?_)
        refine lv_goto (tgt := 44) hx hb dX12_odd_108 (by decide) ?_
        exact hK44 S x1 x2 x3 ((x4 + 1)) h _ _ _ hw hS (lv_sub hl [1, 2, 3, 4, 0] rfl)
    · replace h := z_ifn c10 h
      refine lv_iload hx hb dX12_odd_69 (lv_at hl 5 rfl) ?_
      refine lv_aload_n hx hb dX12_odd_71 rfl (lv_at hl 0 rfl) ?_
      refine lv_iload_n hx hb dX12_odd_72 rfl (lv_at hl 1 rfl) ?_
      refine lv_iload hx hb dX12_odd_73 (lv_at hl 4 rfl) ?_
      refine lv_iload_n hx hb dX12_odd_75 rfl (lv_at hl 1 rfl) ?_
      refine lv_iload hx hb dX12_odd_76 (lv_at hl 6 rfl) ?_
      obtain ⟨w12, ew12, h⟩ := z_bd h
      refine z_callVip C0 hw hS (k := 0) (As := [.int x1, .int x4, .int x1, .int x6]) (rest := [.int x5]) rfl rfl rfl rfl (c_X12_unlikes l D Y F G S _ x1 x4 x1 x6 w12 ew12) (cwV 4 hts gX12_odd_X12_unlikes rfl rfl rfl (by decide +kernel) ⟨Nat.le_of_ble_eq_true rfl, Nat.le_of_ble_eq_true rfl⟩) rfl hl.1 rfl (Nat.le_of_ble_eq_true rfl) dX12_odd_78 ⟨Nat.zero_le _, Nat.zero_le _⟩ (fun H locs hw hS => ?_)
      refine lv_iadd hx hb dX12_odd_81 ?_
      refine lv_istore (lv' := [(5, .int ((x5 + w12))), (0, .ref (F 0)), (1, .int x1), (2, .int x2), (3, .int x3), (4, .int x4), (6, .int x6)]) hx hb dX12_odd_82 hl (by decide) rfl (fun ls hl => ?_)
      refine lv_iinc (v := (x6 + 1)) (lv' := [(6, .int ((x6 + 1))), (5, .int ((x5 + w12))), (0, .ref (F 0)), (1, .int x1), (2, .int x2), (3, .int x3), (4, .int x4)]) hx hb dX12_odd_84 hl (k := 6) rfl rfl (by decide) rfl (fun ls hl => ?_)
      refine lv_goto (tgt := 62) hx hb dX12_odd_87 (by decide) ?_
      exact ih S x1 x2 x3 x4 ((x5 + w12)) ((x6 + 1)) h _ _ _ hw hS (lv_sub hl [2, 3, 4, 5, 6, 1, 0] rfl)
def M_X12_odd_B44 : Nat → zSt → Int32 → Int32 → Int32 → Int32 → Option (Int32 × zSt)
  | 0, _, _, _, _, _ => none
  | n + 1, S, x1, x2, x3, x4 =>
  (if 6 ≤ x4 then some (x2, S) else zg (zin x1 6) (Option.bind (some ((zar S 7 (Int32.toNatClampNeg x1)))) (fun v9 => M_X12_odd_B62 (fun S_ x1_ x2_ x3_ x4_ => M_X12_odd_B44 n S_ x1_ x2_ x3_ x4_) zF S x1 x2 x3 x4 0 v9)))
set_option maxHeartbeats 4000000 in
set_option maxRecDepth 100000 in
theorem t_X12_odd_B44 {p : Program} {l : Launch} {e : Env} {s : State} {m : MethodId} {args : Array Value} {below : List Frame} {meth : Method} {c : Code} {D : va_G} {Y : Nat → ClassId} {F : Nat → Nat} {A : Nat → Prop} {G : zG} (C0 : zCx p s m args meth c D Y F A RX12 cX12_odd 7 (some .int) wsX12_odd) (res : Int32 × zSt) : ∀ (n : Nat), ∀ (S : zSt) (x1 : Int32) (x2 : Int32) (x3 : Int32) (x4 : Int32), M_X12_odd_B44 n S x1 x2 x3 x4 = some res → ∀ (H : Heap) (locs : List Loc) (ls : Array Slot), zH D Y F A G S H → va_S A s.heap H locs → lv_has ls 7 [(0, .ref (F 0)), (1, .int x1), (2, .int x2), (3, .int x3), (4, .int x4)] → W p l e (zRm 4 94) s m args below meth c H locs 0 0 (MQ below (zQi D Y F A G res) args s 0 0 A) (F0 m 44 ls []) := by
  obtain ⟨hx, hb, hml, hr, hown, hts, hK, hA, hlk, hN⟩ := id C0
  intro n
  induction n with
  | zero =>
    intro S x1 x2 x3 x4 h
    unfold M_X12_odd_B44 at h
    cases h
  | succ n ih =>
    intro S x1 x2 x3 x4 h H locs ls hw hS hl
    rw [M_X12_odd_B44] at h
    refine lv_iload hx hb dX12_odd_44 (lv_at hl 4 rfl) ?_
    refine lv_bipush (v := 6) hx hb dX12_odd_46 (by decide) ?_
    refine lv_icmp_ge (tgt := 111) hx hb dX12_odd_48 (by decide) (fun c7 => ?_) (fun c7 => ?_)
    · replace h := z_ifp c7 h
      refine lv_iload_n hx hb dX12_odd_111 rfl (lv_at hl 2 rfl) ?_
      exact z_reti C0 hw hS (Option.some.inj h) dX12_odd_112
    · replace h := z_ifn c7 h
      refine lv_iconst (v := 0) hx hb dX12_odd_51 (by decide) ?_
      refine lv_istore (lv' := [(5, .int 0), (0, .ref (F 0)), (1, .int x1), (2, .int x2), (3, .int x3), (4, .int x4)]) hx hb dX12_odd_52 hl (by decide) rfl (fun ls hl => ?_)
      refine lv_aload_n hx hb dX12_odd_54 rfl (lv_at hl 1 rfl) ?_
      refine z_get C0 in_X12_odd_X12 (C := RX12) (T := TX12) (N := 27) hw (k := 0) (ci := 12) (v := .ref (F 7)) rfl rfl rfl rfl 7 (by decide) rfl 1 rfl dX12_odd_55 ?_
      refine lv_iload_n hx hb dX12_odd_58 rfl (lv_at hl 2 rfl) ?_
      obtain ⟨b8, h⟩ := z_gd h
      refine z_iald C0 hw 7 rfl rfl zri_7 (zin_in b8) dX12_odd_59 ?_
      obtain ⟨v9, ev9, h⟩ := z_bd h
      refine z_top (Option.some.inj ev9) ?_
      refine lv_istore (lv' := [(6, .int v9), (5, .int 0), (0, .ref (F 0)), (1, .int x1), (2, .int x2), (3, .int x3), (4, .int x4)]) hx hb dX12_odd_60 hl (by decide) rfl (fun ls hl => ?_)
      exact t_X12_odd_B62 C0 res (fun S_ x1_ x2_ x3_ x4_ => M_X12_odd_B44 n S_ x1_ x2_ x3_ x4_) ih zF S x1 x2 x3 x4 0 v9 h _ _ _ hw hS (lv_sub hl [2, 3, 4, 5, 6, 1, 0] rfl)
def M_X12_odd (S : zSt) (x1 : Int32) : Option (Int32 × zSt) :=
  Option.bind (M_X12_isPerson S x1) (fun w1 => (if w1 = 0 then Option.bind (M_X12_no S (-1)) (fun w14 => some (w14.1, w14.2)) else zg (zin x1 6) ((if (zar S 7 (Int32.toNatClampNeg x1)) = 6 then Option.bind (M_X12_no S (-6)) (fun w13 => some (w13.1, w13.2)) else zg (zin x1 6) (Option.bind (some ((zar S 7 (Int32.toNatClampNeg x1)))) (fun v6 => M_X12_odd_B44 zF S x1 (-1) (-1) v6))))))
set_option maxHeartbeats 4000000 in
set_option maxRecDepth 100000 in
theorem c_X12_odd (l : Launch) (D : va_G) (Y : Nat → ClassId) (F : Nat → Nat) (G : zG) (S : zSt) (sz : Nat) (x1 : Int32) (res : Int32 × zSt) (h : M_X12_odd S x1 = some res) : Met l yX12_odd wsX12_odd (zRm 4 94) (zPc D Y F G S sz [.ref (F 0), .int x1]) (zQi D Y F (zAo F G sz) G res) 0 0 (zAo F G sz) := by
  unfold M_X12_odd at h
  refine zMet (cc := cX12_odd) (maxL := 7) (ret := (some .int)) (own := RX12) (by decide +kernel) rfl rfl (Nat.le_of_ble_eq_true rfl) ?_
  intro p e s m args below meth c C0 hin hw hS ls hl
  have hl : lv_has ls 7 [(0, .ref (F 0)), (1, .int x1)] := hl
  generalize zAo F G sz = A at C0 hw hS ⊢
  obtain ⟨hx, hb, hml, hr, hown, hts, hK, hA, hlk, hN⟩ := id C0
  refine lv_aload_n hx hb dX12_odd_0 rfl (lv_at hl 0 rfl) ?_
  refine lv_iload_n hx hb dX12_odd_1 rfl (lv_at hl 1 rfl) ?_
  obtain ⟨w1, ew1, h⟩ := z_bd h
  refine z_callVip C0 hw hS (k := 0) (As := [.int x1]) (rest := []) rfl rfl rfl rfl (c_X12_isPerson l D Y F G S _ x1 w1 ew1) (cwV 1 hts gX12_odd_X12_isPerson rfl rfl rfl (by decide +kernel) ⟨Nat.le_of_ble_eq_true rfl, Nat.le_of_ble_eq_true rfl⟩) rfl hl.1 rfl (Nat.le_of_ble_eq_true rfl) dX12_odd_2 ⟨Nat.zero_le _, Nat.zero_le _⟩ (fun H locs hw hS => ?_)
  refine lv_if_ne (tgt := 14) hx hb dX12_odd_5 (by decide) (fun c2 => ?_) (fun c2 => ?_)
  · replace h := z_ifn c2 h
    refine lv_aload_n hx hb dX12_odd_14 rfl (lv_at hl 0 rfl) ?_
    refine z_get C0 in_X12_odd_X12 (C := RX12) (T := TX12) (N := 27) hw (k := 0) (ci := 12) (v := .ref (F 7)) rfl rfl rfl rfl 7 (by decide) rfl 1 rfl dX12_odd_15 ?_
    refine lv_iload_n hx hb dX12_odd_18 rfl (lv_at hl 1 rfl) ?_
    obtain ⟨b3, h⟩ := z_gd h
    refine z_iald C0 hw 7 rfl rfl zri_7 (zin_in b3) dX12_odd_19 ?_
    refine lv_bipush (v := 6) hx hb dX12_odd_20 (by decide) ?_
    refine lv_icmp_ne (tgt := 32) hx hb dX12_odd_22 (by decide) (fun c4 => ?_) (fun c4 => ?_)
    · replace h := z_ifn c4 h
      refine lv_iconst (v := (-1)) hx hb dX12_odd_32 (by decide) ?_
      refine lv_istore_n (lv' := [(2, .int (-1)), (0, .ref (F 0)), (1, .int x1)]) hx hb dX12_odd_33 rfl hl (by decide) rfl (fun ls hl => ?_)
      refine lv_iconst (v := (-1)) hx hb dX12_odd_34 (by decide) ?_
      refine lv_istore_n (lv' := [(3, .int (-1)), (2, .int (-1)), (0, .ref (F 0)), (1, .int x1)]) hx hb dX12_odd_35 rfl hl (by decide) rfl (fun ls hl => ?_)
      refine lv_aload_n hx hb dX12_odd_36 rfl (lv_at hl 2 rfl) ?_
      refine z_get C0 in_X12_odd_X12 (C := RX12) (T := TX12) (N := 27) hw (k := 0) (ci := 12) (v := .ref (F 7)) rfl rfl rfl rfl 7 (by decide) rfl 1 rfl dX12_odd_37 ?_
      refine lv_iload_n hx hb dX12_odd_40 rfl (lv_at hl 3 rfl) ?_
      obtain ⟨b5, h⟩ := z_gd h
      refine z_iald C0 hw 7 rfl rfl zri_7 (zin_in b5) dX12_odd_41 ?_
      obtain ⟨v6, ev6, h⟩ := z_bd h
      refine z_top (Option.some.inj ev6) ?_
      refine lv_istore (lv' := [(4, .int v6), (3, .int (-1)), (2, .int (-1)), (0, .ref (F 0)), (1, .int x1)]) hx hb dX12_odd_42 hl (by decide) rfl (fun ls hl => ?_)
      exact t_X12_odd_B44 C0 res zF S x1 (-1) (-1) v6 h _ _ _ hw hS (lv_sub hl [3, 4, 2, 1, 0] rfl)
    · replace h := z_ifp c4 h
      refine lv_aload_n hx hb dX12_odd_25 rfl (lv_at hl 0 rfl) ?_
      refine lv_bipush (v := (-6)) hx hb dX12_odd_26 (by decide) ?_
      obtain ⟨w13, ew13, h⟩ := z_bd h
      refine z_callVi0 C0 hw hS (k := 0) (As := [.int (-6)]) (rest := []) rfl rfl rfl rfl (c_X12_no l D Y F G S _ (-6) w13 ew13) (cwV 1 hts gX12_odd_X12_no rfl rfl rfl (by decide +kernel) ⟨Nat.le_of_ble_eq_true rfl, Nat.le_of_ble_eq_true rfl⟩) rfl hl.1 rfl (Nat.le_of_ble_eq_true rfl) dX12_odd_28 ⟨Nat.zero_le _, Nat.zero_le _⟩ (fun H locs hw hS => ?_)
      exact z_reti C0 hw hS (Option.some.inj h) dX12_odd_31
  · replace h := z_ifp c2 h
    refine lv_aload_n hx hb dX12_odd_8 rfl (lv_at hl 0 rfl) ?_
    refine lv_iconst (v := (-1)) hx hb dX12_odd_9 (by decide) ?_
    obtain ⟨w14, ew14, h⟩ := z_bd h
    refine z_callVi0 C0 hw hS (k := 0) (As := [.int (-1)]) (rest := []) rfl rfl rfl rfl (c_X12_no l D Y F G S _ (-1) w14 ew14) (cwV 1 hts gX12_odd_X12_no rfl rfl rfl (by decide +kernel) ⟨Nat.le_of_ble_eq_true rfl, Nat.le_of_ble_eq_true rfl⟩) rfl hl.1 rfl (Nat.le_of_ble_eq_true rfl) dX12_odd_10 ⟨Nat.zero_le _, Nat.zero_le _⟩ (fun H locs hw hS => ?_)
    exact z_reti C0 hw hS (Option.some.inj h) dX12_odd_13
def M_X12_mends (S : zSt) (x1 : Int32) (x2 : Int32) : Option (Int32) :=
  Option.bind (M_X12_haveBits S x1 x2) (fun w1 => Option.bind (M_J6_bitCount_0f7a4 S w1) (fun w2 => zg (zin x1 6) ((if w2 = ((6 : Int32) - (zar S 7 (Int32.toNatClampNeg x1))) then some 0 else some w2))))
set_option maxHeartbeats 4000000 in
set_option maxRecDepth 100000 in
theorem c_X12_mends (l : Launch) (D : va_G) (Y : Nat → ClassId) (F : Nat → Nat) (G : zG) (S : zSt) (sz : Nat) (x1 : Int32) (x2 : Int32) (res : Int32) (h : M_X12_mends S x1 x2 = some res) : Met l yX12_mends wsX12_mends (zRm 3 70) (zPc D Y F G S sz [.ref (F 0), .int x1, .int x2]) (zQi D Y F (zAo F G sz) G (res, S)) 0 0 (zAo F G sz) := by
  unfold M_X12_mends at h
  refine zMet (cc := cX12_mends) (maxL := 4) (ret := (some .int)) (own := RX12) (by decide +kernel) rfl rfl (Nat.le_of_ble_eq_true rfl) ?_
  intro p e s m args below meth c C0 hin hw hS ls hl
  have hl : lv_has ls 4 [(0, .ref (F 0)), (1, .int x1), (2, .int x2)] := hl
  generalize zAo F G sz = A at C0 hw hS ⊢
  obtain ⟨hx, hb, hml, hr, hown, hts, hK, hA, hlk, hN⟩ := id C0
  refine lv_aload_n hx hb dX12_mends_0 rfl (lv_at hl 0 rfl) ?_
  refine lv_iload_n hx hb dX12_mends_1 rfl (lv_at hl 1 rfl) ?_
  refine lv_iload_n hx hb dX12_mends_2 rfl (lv_at hl 2 rfl) ?_
  obtain ⟨w1, ew1, h⟩ := z_bd h
  refine z_callVip C0 hw hS (k := 0) (As := [.int x1, .int x2]) (rest := []) rfl rfl rfl rfl (c_X12_haveBits l D Y F G S _ x1 x2 w1 ew1) (cwV 2 hts gX12_mends_X12_haveBits rfl rfl rfl (by decide +kernel) ⟨Nat.le_of_ble_eq_true rfl, Nat.le_of_ble_eq_true rfl⟩) rfl hl.1 rfl (Nat.le_of_ble_eq_true rfl) dX12_mends_3 ⟨Nat.zero_le _, Nat.zero_le _⟩ (fun H locs hw hS => ?_)
  obtain ⟨w2, ew2, h⟩ := z_bd h
  refine z_callSip C0 hw hS (As := [.int w1]) (rest := []) (c_J6_bitCount_0f7a4 l D Y F G S _ w1 w2 ew2) (va_cwS 1 hts gX12_mends_J6_bitCount_0f7a4 rfl rfl rfl (by decide +kernel) ⟨Nat.le_of_ble_eq_true rfl, Nat.le_of_ble_eq_true rfl⟩) rfl hl.1 rfl (Nat.le_of_ble_eq_true rfl) dX12_mends_6 ⟨Nat.zero_le _, Nat.zero_le _⟩ (fun H locs hw hS => ?_)
  refine lv_istore_n (lv' := [(3, .int w2), (0, .ref (F 0)), (1, .int x1), (2, .int x2)]) hx hb dX12_mends_9 rfl hl (by decide) rfl (fun ls hl => ?_)
  refine lv_iload_n hx hb dX12_mends_10 rfl (lv_at hl 0 rfl) ?_
  refine lv_bipush (v := 6) hx hb dX12_mends_11 (by decide) ?_
  refine lv_aload_n hx hb dX12_mends_13 rfl (lv_at hl 1 rfl) ?_
  refine z_get C0 in_X12_mends_X12 (C := RX12) (T := TX12) (N := 27) hw (k := 0) (ci := 12) (v := .ref (F 7)) rfl rfl rfl rfl 7 (by decide) rfl 1 rfl dX12_mends_14 ?_
  refine lv_iload_n hx hb dX12_mends_17 rfl (lv_at hl 2 rfl) ?_
  obtain ⟨b3, h⟩ := z_gd h
  refine z_iald C0 hw 7 rfl rfl zri_7 (zin_in b3) dX12_mends_18 ?_
  refine lv_isub hx hb dX12_mends_19 ?_
  refine lv_icmp_ne (tgt := 27) hx hb dX12_mends_20 (by decide) (fun c4 => ?_) (fun c4 => ?_)
  · replace h := z_ifn c4 h
    refine lv_iload_n hx hb dX12_mends_27 rfl (lv_at hl 0 rfl) ?_
    exact z_reti C0 hw hS (congrArg (fun z => (z, S)) (Option.some.inj h)) dX12_mends_28
  · replace h := z_ifp c4 h
    refine lv_iconst (v := 0) hx hb dX12_mends_23 (by decide) ?_
    refine lv_goto (tgt := 28) hx hb dX12_mends_24 (by decide) ?_
    exact z_reti C0 hw hS (congrArg (fun z => (z, S)) (Option.some.inj h)) dX12_mends_28
def M_X12_mend_B48 : Nat → zSt → Int32 → Int32 → Int32 → Option (Int32 × zSt)
  | 0, _, _, _, _ => none
  | n + 1, S, x1, x3, x4 =>
  (if 8 ≤ x4 then some (x3, S) else Option.bind (M_X12_mends S x1 x4) (fun w7 => M_X12_mend_B48 n S x1 ((x3 + w7)) ((x4 + 1))))
set_option maxHeartbeats 4000000 in
set_option maxRecDepth 100000 in
theorem t_X12_mend_B48 {p : Program} {l : Launch} {e : Env} {s : State} {m : MethodId} {args : Array Value} {below : List Frame} {meth : Method} {c : Code} {D : va_G} {Y : Nat → ClassId} {F : Nat → Nat} {A : Nat → Prop} {G : zG} (C0 : zCx p s m args meth c D Y F A RX12 cX12_mend 5 (some .int) wsX12_mend) (res : Int32 × zSt) : ∀ (n : Nat), ∀ (S : zSt) (x1 : Int32) (x3 : Int32) (x4 : Int32), M_X12_mend_B48 n S x1 x3 x4 = some res → ∀ (H : Heap) (locs : List Loc) (ls : Array Slot), zH D Y F A G S H → va_S A s.heap H locs → lv_has ls 5 [(0, .ref (F 0)), (1, .int x1), (3, .int x3), (4, .int x4)] → W p l e (zRm 4 93) s m args below meth c H locs 0 0 (MQ below (zQi D Y F A G res) args s 0 0 A) (F0 m 48 ls []) := by
  obtain ⟨hx, hb, hml, hr, hown, hts, hK, hA, hlk, hN⟩ := id C0
  intro n
  induction n with
  | zero =>
    intro S x1 x3 x4 h
    unfold M_X12_mend_B48 at h
    cases h
  | succ n ih =>
    intro S x1 x3 x4 h H locs ls hw hS hl
    rw [M_X12_mend_B48] at h
    refine lv_iload hx hb dX12_mend_48 (lv_at hl 3 rfl) ?_
    refine lv_bipush (v := 8) hx hb dX12_mend_50 (by decide) ?_
    refine lv_icmp_ge (tgt := 71) hx hb dX12_mend_52 (by decide) (fun c6 => ?_) (fun c6 => ?_)
    · replace h := z_ifp c6 h
      refine lv_iload_n hx hb dX12_mend_71 rfl (lv_at hl 2 rfl) ?_
      exact z_reti C0 hw hS (Option.some.inj h) dX12_mend_72
    · replace h := z_ifn c6 h
      refine lv_iload_n hx hb dX12_mend_55 rfl (lv_at hl 2 rfl) ?_
      refine lv_aload_n hx hb dX12_mend_56 rfl (lv_at hl 0 rfl) ?_
      refine lv_iload_n hx hb dX12_mend_57 rfl (lv_at hl 1 rfl) ?_
      refine lv_iload hx hb dX12_mend_58 (lv_at hl 3 rfl) ?_
      obtain ⟨w7, ew7, h⟩ := z_bd h
      refine z_callVip C0 hw hS (k := 0) (As := [.int x1, .int x4]) (rest := [.int x3]) rfl rfl rfl rfl (c_X12_mends l D Y F G S _ x1 x4 w7 ew7) (cwV 2 hts gX12_mend_X12_mends rfl rfl rfl (by decide +kernel) ⟨Nat.le_of_ble_eq_true rfl, Nat.le_of_ble_eq_true rfl⟩) rfl hl.1 rfl (Nat.le_of_ble_eq_true rfl) dX12_mend_60 ⟨Nat.zero_le _, Nat.zero_le _⟩ (fun H locs hw hS => ?_)
      refine lv_iadd hx hb dX12_mend_63 ?_
      refine lv_istore_n (lv' := [(3, .int ((x3 + w7))), (0, .ref (F 0)), (1, .int x1), (4, .int x4)]) hx hb dX12_mend_64 rfl hl (by decide) rfl (fun ls hl => ?_)
      refine lv_iinc (v := (x4 + 1)) (lv' := [(4, .int ((x4 + 1))), (3, .int ((x3 + w7))), (0, .ref (F 0)), (1, .int x1)]) hx hb dX12_mend_65 hl (k := 3) rfl rfl (by decide) rfl (fun ls hl => ?_)
      refine lv_goto (tgt := 48) hx hb dX12_mend_68 (by decide) ?_
      exact ih S x1 ((x3 + w7)) ((x4 + 1)) h _ _ _ hw hS (lv_sub hl [2, 3, 1, 0] rfl)
def M_X12_mend (S : zSt) (x1 : Int32) (x2 : Int32) : Option (Int32 × zSt) :=
  Option.bind (M_X12_isPerson S x1) (fun w1 => (if w1 = 0 then Option.bind (M_X12_no S (-1)) (fun w10 => some (w10.1, w10.2)) else Option.bind (M_X12_within S x2 (-1) 7) (fun w3 => (if w3 = 0 then Option.bind (M_X12_no S (-6)) (fun w9 => some (w9.1, w9.2)) else (if x2 = (-1) then M_X12_mend_B48 zF S x1 0 0 else Option.bind (M_X12_mends S x1 x2) (fun w8 => some (w8, S)))))))
set_option maxHeartbeats 4000000 in
set_option maxRecDepth 100000 in
theorem c_X12_mend (l : Launch) (D : va_G) (Y : Nat → ClassId) (F : Nat → Nat) (G : zG) (S : zSt) (sz : Nat) (x1 : Int32) (x2 : Int32) (res : Int32 × zSt) (h : M_X12_mend S x1 x2 = some res) : Met l yX12_mend wsX12_mend (zRm 4 93) (zPc D Y F G S sz [.ref (F 0), .int x1, .int x2]) (zQi D Y F (zAo F G sz) G res) 0 0 (zAo F G sz) := by
  unfold M_X12_mend at h
  refine zMet (cc := cX12_mend) (maxL := 5) (ret := (some .int)) (own := RX12) (by decide +kernel) rfl rfl (Nat.le_of_ble_eq_true rfl) ?_
  intro p e s m args below meth c C0 hin hw hS ls hl
  have hl : lv_has ls 5 [(0, .ref (F 0)), (1, .int x1), (2, .int x2)] := hl
  generalize zAo F G sz = A at C0 hw hS ⊢
  obtain ⟨hx, hb, hml, hr, hown, hts, hK, hA, hlk, hN⟩ := id C0
  refine lv_aload_n hx hb dX12_mend_0 rfl (lv_at hl 0 rfl) ?_
  refine lv_iload_n hx hb dX12_mend_1 rfl (lv_at hl 1 rfl) ?_
  obtain ⟨w1, ew1, h⟩ := z_bd h
  refine z_callVip C0 hw hS (k := 0) (As := [.int x1]) (rest := []) rfl rfl rfl rfl (c_X12_isPerson l D Y F G S _ x1 w1 ew1) (cwV 1 hts gX12_mend_X12_isPerson rfl rfl rfl (by decide +kernel) ⟨Nat.le_of_ble_eq_true rfl, Nat.le_of_ble_eq_true rfl⟩) rfl hl.1 rfl (Nat.le_of_ble_eq_true rfl) dX12_mend_2 ⟨Nat.zero_le _, Nat.zero_le _⟩ (fun H locs hw hS => ?_)
  refine lv_if_ne (tgt := 14) hx hb dX12_mend_5 (by decide) (fun c2 => ?_) (fun c2 => ?_)
  · replace h := z_ifn c2 h
    refine lv_iload_n hx hb dX12_mend_14 rfl (lv_at hl 2 rfl) ?_
    refine lv_iconst (v := (-1)) hx hb dX12_mend_15 (by decide) ?_
    refine lv_bipush (v := 7) hx hb dX12_mend_16 (by decide) ?_
    obtain ⟨w3, ew3, h⟩ := z_bd h
    refine z_callSip C0 hw hS (As := [.int x2, .int (-1), .int 7]) (rest := []) (c_X12_within l D Y F G S _ x2 (-1) 7 w3 ew3) (va_cwS 3 hts gX12_mend_X12_within rfl rfl rfl (by decide +kernel) ⟨Nat.le_of_ble_eq_true rfl, Nat.le_of_ble_eq_true rfl⟩) rfl hl.1 rfl (Nat.le_of_ble_eq_true rfl) dX12_mend_18 ⟨Nat.zero_le _, Nat.zero_le _⟩ (fun H locs hw hS => ?_)
    refine lv_if_ne (tgt := 31) hx hb dX12_mend_21 (by decide) (fun c4 => ?_) (fun c4 => ?_)
    · replace h := z_ifn c4 h
      refine lv_iload_n hx hb dX12_mend_31 rfl (lv_at hl 2 rfl) ?_
      refine lv_iconst (v := (-1)) hx hb dX12_mend_32 (by decide) ?_
      refine lv_icmp_eq (tgt := 43) hx hb dX12_mend_33 (by decide) (fun c5 => ?_) (fun c5 => ?_)
      · replace h := z_ifp c5 h
        refine lv_iconst (v := 0) hx hb dX12_mend_43 (by decide) ?_
        refine lv_istore_n (lv' := [(3, .int 0), (0, .ref (F 0)), (1, .int x1), (2, .int x2)]) hx hb dX12_mend_44 rfl hl (by decide) rfl (fun ls hl => ?_)
        refine lv_iconst (v := 0) hx hb dX12_mend_45 (by decide) ?_
        refine lv_istore (lv' := [(4, .int 0), (3, .int 0), (0, .ref (F 0)), (1, .int x1), (2, .int x2)]) hx hb dX12_mend_46 hl (by decide) rfl (fun ls hl => ?_)
        exact t_X12_mend_B48 C0 res zF S x1 0 0 h _ _ _ hw hS (lv_sub hl [2, 3, 1, 0] rfl)
      · replace h := z_ifn c5 h
        refine lv_aload_n hx hb dX12_mend_36 rfl (lv_at hl 0 rfl) ?_
        refine lv_iload_n hx hb dX12_mend_37 rfl (lv_at hl 1 rfl) ?_
        refine lv_iload_n hx hb dX12_mend_38 rfl (lv_at hl 2 rfl) ?_
        obtain ⟨w8, ew8, h⟩ := z_bd h
        refine z_callVip C0 hw hS (k := 0) (As := [.int x1, .int x2]) (rest := []) rfl rfl rfl rfl (c_X12_mends l D Y F G S _ x1 x2 w8 ew8) (cwV 2 hts gX12_mend_X12_mends rfl rfl rfl (by decide +kernel) ⟨Nat.le_of_ble_eq_true rfl, Nat.le_of_ble_eq_true rfl⟩) rfl hl.1 rfl (Nat.le_of_ble_eq_true rfl) dX12_mend_39 ⟨Nat.zero_le _, Nat.zero_le _⟩ (fun H locs hw hS => ?_)
        exact z_reti C0 hw hS (Option.some.inj h) dX12_mend_42
    · replace h := z_ifp c4 h
      refine lv_aload_n hx hb dX12_mend_24 rfl (lv_at hl 0 rfl) ?_
      refine lv_bipush (v := (-6)) hx hb dX12_mend_25 (by decide) ?_
      obtain ⟨w9, ew9, h⟩ := z_bd h
      refine z_callVi0 C0 hw hS (k := 0) (As := [.int (-6)]) (rest := []) rfl rfl rfl rfl (c_X12_no l D Y F G S _ (-6) w9 ew9) (cwV 1 hts gX12_mend_X12_no rfl rfl rfl (by decide +kernel) ⟨Nat.le_of_ble_eq_true rfl, Nat.le_of_ble_eq_true rfl⟩) rfl hl.1 rfl (Nat.le_of_ble_eq_true rfl) dX12_mend_27 ⟨Nat.zero_le _, Nat.zero_le _⟩ (fun H locs hw hS => ?_)
      exact z_reti C0 hw hS (Option.some.inj h) dX12_mend_30
  · replace h := z_ifp c2 h
    refine lv_aload_n hx hb dX12_mend_8 rfl (lv_at hl 0 rfl) ?_
    refine lv_iconst (v := (-1)) hx hb dX12_mend_9 (by decide) ?_
    obtain ⟨w10, ew10, h⟩ := z_bd h
    refine z_callVi0 C0 hw hS (k := 0) (As := [.int (-1)]) (rest := []) rfl rfl rfl rfl (c_X12_no l D Y F G S _ (-1) w10 ew10) (cwV 1 hts gX12_mend_X12_no rfl rfl rfl (by decide +kernel) ⟨Nat.le_of_ble_eq_true rfl, Nat.le_of_ble_eq_true rfl⟩) rfl hl.1 rfl (Nat.le_of_ble_eq_true rfl) dX12_mend_10 ⟨Nat.zero_le _, Nat.zero_le _⟩ (fun H locs hw hS => ?_)
    exact z_reti C0 hw hS (Option.some.inj h) dX12_mend_13
