set_option maxRecDepth 20000 in
theorem in_X12_copy_X12 : ∀ w ∈ u_ws RX12 TX12 27, w ∈ wsX12_copy := by decide +kernel
set_option maxRecDepth 20000 in
theorem in_X12_element_X12 : ∀ w ∈ u_ws RX12 TX12 27, w ∈ wsX12_element := by decide +kernel
set_option maxRecDepth 20000 in
theorem in_X12_holds_X12 : ∀ w ∈ u_ws RX12 TX12 27, w ∈ wsX12_holds := by decide +kernel
set_option maxRecDepth 20000 in
theorem in_X12_isPerson_X12 : ∀ w ∈ u_ws RX12 TX12 27, w ∈ wsX12_isPerson := by decide +kernel
set_option maxRecDepth 20000 in
theorem in_X12_isRow_X12 : ∀ w ∈ u_ws RX12 TX12 27, w ∈ wsX12_isRow := by decide +kernel
set_option maxRecDepth 20000 in
theorem in_X12_lives_X12 : ∀ w ∈ u_ws RX12 TX12 27, w ∈ wsX12_lives := by decide +kernel
set_option maxRecDepth 20000 in
theorem in_X12_lossAt_X12 : ∀ w ∈ u_ws RX12 TX12 27, w ∈ wsX12_lossAt := by decide +kernel
set_option maxRecDepth 20000 in
theorem in_X12_no_X12 : ∀ w ∈ u_ws RX12 TX12 27, w ∈ wsX12_no := by decide +kernel
set_option maxRecDepth 20000 in
theorem in_X12_noRow_X12 : ∀ w ∈ u_ws RX12 TX12 27, w ∈ wsX12_noRow := by decide +kernel
set_option maxRecDepth 20000 in
theorem in_X12_row_X12 : ∀ w ∈ u_ws RX12 TX12 27, w ∈ wsX12_row := by decide +kernel
set_option maxRecDepth 20000 in
theorem in_X12_says_X12 : ∀ w ∈ u_ws RX12 TX12 27, w ∈ wsX12_says := by decide +kernel
set_option maxRecDepth 20000 in
theorem in_X12_set_X12 : ∀ w ∈ u_ws RX12 TX12 27, w ∈ wsX12_set := by decide +kernel
set_option maxRecDepth 20000 in
theorem in_X12_show_X12 : ∀ w ∈ u_ws RX12 TX12 27, w ∈ wsX12_show := by decide +kernel
def M_X12_no (S : zSt) (x1 : Int32) : Option (Int32 × zSt) :=
  zg (zin ((-x1)) 8) (zg (zin ((-x1)) 8) (some (x1, (zAs S 13 (Int32.toNatClampNeg ((-x1))) (((zar S 13 (Int32.toNatClampNeg ((-x1)))) + 1))))))
set_option maxHeartbeats 4000000 in
set_option maxRecDepth 100000 in
theorem c_X12_no (l : Launch) (D : va_G) (Y : Nat → ClassId) (F : Nat → Nat) (G : zG) (S : zSt) (sz : Nat) (x1 : Int32) (res : Int32 × zSt) (h : M_X12_no S x1 = some res) : Met l yX12_no wsX12_no (zRm 0 0) (zPc D Y F G S sz [.ref (F 0), .int x1]) (zQi D Y F (zAo F G sz) G res) 0 0 (zAo F G sz) := by
  unfold M_X12_no at h
  refine zMet (cc := cX12_no) (maxL := 2) (ret := (some .int)) (own := RX12) (by decide +kernel) rfl rfl (Nat.le_of_ble_eq_true rfl) ?_
  intro p e s m args below meth c C0 hin hw hS ls hl
  have hl : lv_has ls 2 [(0, .ref (F 0)), (1, .int x1)] := hl
  generalize zAo F G sz = A at C0 hw hS ⊢
  obtain ⟨hx, hb, hml, hr, hown, hts, hK, hA, hlk, hN⟩ := id C0
  refine lv_aload_n hx hb dX12_no_0 rfl (lv_at hl 0 rfl) ?_
  refine z_get C0 in_X12_no_X12 (C := RX12) (T := TX12) (N := 27) hw (k := 0) (ci := 12) (v := .ref (F 13)) rfl rfl rfl rfl 19 (by decide) rfl 1 rfl dX12_no_1 ?_
  refine lv_iload_n hx hb dX12_no_4 rfl (lv_at hl 1 rfl) ?_
  refine lv_ineg hx hb dX12_no_5 ?_
  refine lv_dup2_11 hx hb dX12_no_6 rfl rfl ?_
  obtain ⟨b1, h⟩ := z_gd h
  refine z_iald C0 hw 13 rfl rfl zri_13 (zin_in b1) dX12_no_7 ?_
  refine lv_iconst (v := 1) hx hb dX12_no_8 (by decide) ?_
  refine lv_iadd hx hb dX12_no_9 ?_
  obtain ⟨b2, h⟩ := z_gd h
  refine z_iasts C0 hw hS 13 rfl rfl zri_13 (zin_in b2) dX12_no_10 (fun H locs hw hS => ?_)
  refine lv_iload_n hx hb dX12_no_11 rfl (lv_at hl 1 rfl) ?_
  exact z_reti C0 hw hS (Option.some.inj h) dX12_no_12
def M_X12_no10 (S : zSt) (x1 : Int32) : Option (Int32 × zSt) :=
  Option.bind (M_X12_no S x1) (fun w1 => some ((w1.1 - 10), w1.2))
set_option maxHeartbeats 4000000 in
set_option maxRecDepth 100000 in
theorem c_X12_no10 (l : Launch) (D : va_G) (Y : Nat → ClassId) (F : Nat → Nat) (G : zG) (S : zSt) (sz : Nat) (x1 : Int32) (res : Int32 × zSt) (h : M_X12_no10 S x1 = some res) : Met l yX12_no10 wsX12_no10 (zRm 1 21) (zPc D Y F G S sz [.ref (F 0), .int x1]) (zQi D Y F (zAo F G sz) G res) 0 0 (zAo F G sz) := by
  unfold M_X12_no10 at h
  refine zMet (cc := cX12_no10) (maxL := 2) (ret := (some .int)) (own := RX12) (by decide +kernel) rfl rfl (Nat.le_of_ble_eq_true rfl) ?_
  intro p e s m args below meth c C0 hin hw hS ls hl
  have hl : lv_has ls 2 [(0, .ref (F 0)), (1, .int x1)] := hl
  generalize zAo F G sz = A at C0 hw hS ⊢
  obtain ⟨hx, hb, hml, hr, hown, hts, hK, hA, hlk, hN⟩ := id C0
  refine lv_aload_n hx hb dX12_no10_0 rfl (lv_at hl 0 rfl) ?_
  refine lv_iload_n hx hb dX12_no10_1 rfl (lv_at hl 1 rfl) ?_
  obtain ⟨w1, ew1, h⟩ := z_bd h
  refine z_callVi0 C0 hw hS (k := 0) (As := [.int x1]) (rest := []) rfl rfl rfl rfl (c_X12_no l D Y F G S _ x1 w1 ew1) (cwV 1 hts gX12_no10_X12_no rfl rfl rfl (by decide +kernel) ⟨Nat.le_of_ble_eq_true rfl, Nat.le_of_ble_eq_true rfl⟩) rfl hl.1 rfl (Nat.le_of_ble_eq_true rfl) dX12_no10_2 ⟨Nat.zero_le _, Nat.zero_le _⟩ (fun H locs hw hS => ?_)
  refine lv_bipush (v := 10) hx hb dX12_no10_5 (by decide) ?_
  refine lv_isub hx hb dX12_no10_7 ?_
  exact z_reti C0 hw hS (Option.some.inj h) dX12_no10_8
def M_X12_within (S : zSt) (x0 : Int32) (x1 : Int32) (x2 : Int32) : Option (Int32) :=
  (if x0 < x1 then some 0 else (if x2 < x0 then some 0 else some 1))
set_option maxHeartbeats 4000000 in
set_option maxRecDepth 100000 in
theorem c_X12_within (l : Launch) (D : va_G) (Y : Nat → ClassId) (F : Nat → Nat) (G : zG) (S : zSt) (sz : Nat) (x0 : Int32) (x1 : Int32) (x2 : Int32) (res : Int32) (h : M_X12_within S x0 x1 x2 = some res) : Met l yX12_within wsX12_within (zRm 0 0) (zPc D Y F G S sz [.int x0, .int x1, .int x2]) (zQi D Y F (zAo F G sz) G (res, S)) 0 0 (zAo F G sz) := by
  unfold M_X12_within at h
  refine zMet (cc := cX12_within) (maxL := 3) (ret := (some .boolean)) (own := RX12) (by decide +kernel) rfl rfl (Nat.le_of_ble_eq_true rfl) ?_
  intro p e s m args below meth c C0 hin hw hS ls hl
  have hl : lv_has ls 3 [(0, .int x0), (1, .int x1), (2, .int x2)] := hl
  generalize zAo F G sz = A at C0 hw hS ⊢
  obtain ⟨hx, hb, hml, hr, hown, hts, hK, hA, hlk, hN⟩ := id C0
  refine lv_iload_n hx hb dX12_within_0 rfl (lv_at hl 0 rfl) ?_
  refine lv_iload_n hx hb dX12_within_1 rfl (lv_at hl 1 rfl) ?_
  refine lv_icmp_lt (tgt := 14) hx hb dX12_within_2 (by decide) (fun c1 => ?_) (fun c1 => ?_)
  · replace h := z_ifp c1 h
    refine lv_iconst (v := 0) hx hb dX12_within_14 (by decide) ?_
    exact z_retz C0 hw hS rfl (congrArg (fun z => (z, S)) (Option.some.inj h)) dX12_within_15
  · replace h := z_ifn c1 h
    refine lv_iload_n hx hb dX12_within_5 rfl (lv_at hl 0 rfl) ?_
    refine lv_iload_n hx hb dX12_within_6 rfl (lv_at hl 2 rfl) ?_
    refine lv_icmp_gt (tgt := 14) hx hb dX12_within_7 (by decide) (fun c2 => ?_) (fun c2 => ?_)
    · replace h := z_ifp c2 h
      refine lv_iconst (v := 0) hx hb dX12_within_14 (by decide) ?_
      exact z_retz C0 hw hS rfl (congrArg (fun z => (z, S)) (Option.some.inj h)) dX12_within_15
    · replace h := z_ifn c2 h
      refine lv_iconst (v := 1) hx hb dX12_within_10 (by decide) ?_
      refine lv_goto (tgt := 15) hx hb dX12_within_11 (by decide) ?_
      exact z_retz C0 hw hS rfl (congrArg (fun z => (z, S)) (Option.some.inj h)) dX12_within_15
def M_X12_has (S : zSt) (x0 : Int32) (x1 : Int32) : Option (Int32) :=
  (if ((x0 >>> (x1 &&& 31)) &&& 1) = 1 then some 1 else some 0)
set_option maxHeartbeats 4000000 in
set_option maxRecDepth 100000 in
theorem c_X12_has (l : Launch) (D : va_G) (Y : Nat → ClassId) (F : Nat → Nat) (G : zG) (S : zSt) (sz : Nat) (x0 : Int32) (x1 : Int32) (res : Int32) (h : M_X12_has S x0 x1 = some res) : Met l yX12_has wsX12_has (zRm 0 0) (zPc D Y F G S sz [.int x0, .int x1]) (zQi D Y F (zAo F G sz) G (res, S)) 0 0 (zAo F G sz) := by
  unfold M_X12_has at h
  refine zMet (cc := cX12_has) (maxL := 2) (ret := (some .boolean)) (own := RX12) (by decide +kernel) rfl rfl (Nat.le_of_ble_eq_true rfl) ?_
  intro p e s m args below meth c C0 hin hw hS ls hl
  have hl : lv_has ls 2 [(0, .int x0), (1, .int x1)] := hl
  generalize zAo F G sz = A at C0 hw hS ⊢
  obtain ⟨hx, hb, hml, hr, hown, hts, hK, hA, hlk, hN⟩ := id C0
  refine lv_iload_n hx hb dX12_has_0 rfl (lv_at hl 0 rfl) ?_
  refine lv_iload_n hx hb dX12_has_1 rfl (lv_at hl 1 rfl) ?_
  refine lv_ishr hx hb dX12_has_2 ?_
  refine lv_iconst (v := 1) hx hb dX12_has_3 (by decide) ?_
  refine lv_iand hx hb dX12_has_4 ?_
  refine lv_iconst (v := 1) hx hb dX12_has_5 (by decide) ?_
  refine lv_icmp_ne (tgt := 13) hx hb dX12_has_6 (by decide) (fun c1 => ?_) (fun c1 => ?_)
  · replace h := z_ifn c1 h
    refine lv_iconst (v := 0) hx hb dX12_has_13 (by decide) ?_
    exact z_retz C0 hw hS rfl (congrArg (fun z => (z, S)) (Option.some.inj h)) dX12_has_14
  · replace h := z_ifp c1 h
    refine lv_iconst (v := 1) hx hb dX12_has_9 (by decide) ?_
    refine lv_goto (tgt := 14) hx hb dX12_has_10 (by decide) ?_
    exact z_retz C0 hw hS rfl (congrArg (fun z => (z, S)) (Option.some.inj h)) dX12_has_14
def M_X12_isPerson (S : zSt) (x1 : Int32) : Option (Int32) :=
  Option.bind (M_X12_within S x1 0 (((zsc S 0 3) - 1))) (fun w1 => zg (decide ((w1 &&& 1) = w1)) (some w1))
set_option maxHeartbeats 4000000 in
set_option maxRecDepth 100000 in
theorem c_X12_isPerson (l : Launch) (D : va_G) (Y : Nat → ClassId) (F : Nat → Nat) (G : zG) (S : zSt) (sz : Nat) (x1 : Int32) (res : Int32) (h : M_X12_isPerson S x1 = some res) : Met l yX12_isPerson wsX12_isPerson (zRm 1 22) (zPc D Y F G S sz [.ref (F 0), .int x1]) (zQi D Y F (zAo F G sz) G (res, S)) 0 0 (zAo F G sz) := by
  unfold M_X12_isPerson at h
  refine zMet (cc := cX12_isPerson) (maxL := 2) (ret := (some .boolean)) (own := RX12) (by decide +kernel) rfl rfl (Nat.le_of_ble_eq_true rfl) ?_
  intro p e s m args below meth c C0 hin hw hS ls hl
  have hl : lv_has ls 2 [(0, .ref (F 0)), (1, .int x1)] := hl
  generalize zAo F G sz = A at C0 hw hS ⊢
  obtain ⟨hx, hb, hml, hr, hown, hts, hK, hA, hlk, hN⟩ := id C0
  refine lv_iload_n hx hb dX12_isPerson_0 rfl (lv_at hl 1 rfl) ?_
  refine lv_iconst (v := 0) hx hb dX12_isPerson_1 (by decide) ?_
  refine lv_aload_n hx hb dX12_isPerson_2 rfl (lv_at hl 0 rfl) ?_
  refine z_get C0 in_X12_isPerson_X12 (C := RX12) (T := TX12) (N := 27) hw (k := 0) (ci := 12) (v := .int ((zsc S 0 3))) rfl rfl rfl rfl 3 (by decide) rfl 1 rfl dX12_isPerson_3 ?_
  refine lv_iconst (v := 1) hx hb dX12_isPerson_6 (by decide) ?_
  refine lv_isub hx hb dX12_isPerson_7 ?_
  obtain ⟨w1, ew1, h⟩ := z_bd h
  refine z_callSip C0 hw hS (As := [.int x1, .int 0, .int (((zsc S 0 3) - 1))]) (rest := []) (c_X12_within l D Y F G S _ x1 0 (((zsc S 0 3) - 1)) w1 ew1) (va_cwS 3 hts gX12_isPerson_X12_within rfl rfl rfl (by decide +kernel) ⟨Nat.le_of_ble_eq_true rfl, Nat.le_of_ble_eq_true rfl⟩) rfl hl.1 rfl (Nat.le_of_ble_eq_true rfl) dX12_isPerson_8 ⟨Nat.zero_le _, Nat.zero_le _⟩ (fun H locs hw hS => ?_)
  obtain ⟨b2, h⟩ := z_gd h
  exact z_retz C0 hw hS (congrArg Value.int (of_decide_eq_true b2)) (congrArg (fun z => (z, S)) (Option.some.inj h)) dX12_isPerson_11
def M_X12_isCopy (S : zSt) (x0 : Int32) : Option (Int32) :=
  Option.bind (M_X12_within S x0 0 5) (fun w1 => zg (decide ((w1 &&& 1) = w1)) (some w1))
set_option maxHeartbeats 4000000 in
set_option maxRecDepth 100000 in
theorem c_X12_isCopy (l : Launch) (D : va_G) (Y : Nat → ClassId) (F : Nat → Nat) (G : zG) (S : zSt) (sz : Nat) (x0 : Int32) (res : Int32) (h : M_X12_isCopy S x0 = some res) : Met l yX12_isCopy wsX12_isCopy (zRm 1 22) (zPc D Y F G S sz [.int x0]) (zQi D Y F (zAo F G sz) G (res, S)) 0 0 (zAo F G sz) := by
  unfold M_X12_isCopy at h
  refine zMet (cc := cX12_isCopy) (maxL := 1) (ret := (some .boolean)) (own := RX12) (by decide +kernel) rfl rfl (Nat.le_of_ble_eq_true rfl) ?_
  intro p e s m args below meth c C0 hin hw hS ls hl
  have hl : lv_has ls 1 [(0, .int x0)] := hl
  generalize zAo F G sz = A at C0 hw hS ⊢
  obtain ⟨hx, hb, hml, hr, hown, hts, hK, hA, hlk, hN⟩ := id C0
  refine lv_iload_n hx hb dX12_isCopy_0 rfl (lv_at hl 0 rfl) ?_
  refine lv_iconst (v := 0) hx hb dX12_isCopy_1 (by decide) ?_
  refine lv_iconst (v := 5) hx hb dX12_isCopy_2 (by decide) ?_
  obtain ⟨w1, ew1, h⟩ := z_bd h
  refine z_callSip C0 hw hS (As := [.int x0, .int 0, .int 5]) (rest := []) (c_X12_within l D Y F G S _ x0 0 5 w1 ew1) (va_cwS 3 hts gX12_isCopy_X12_within rfl rfl rfl (by decide +kernel) ⟨Nat.le_of_ble_eq_true rfl, Nat.le_of_ble_eq_true rfl⟩) rfl hl.1 rfl (Nat.le_of_ble_eq_true rfl) dX12_isCopy_3 ⟨Nat.zero_le _, Nat.zero_le _⟩ (fun H locs hw hS => ?_)
  obtain ⟨b2, h⟩ := z_gd h
  exact z_retz C0 hw hS (congrArg Value.int (of_decide_eq_true b2)) (congrArg (fun z => (z, S)) (Option.some.inj h)) dX12_isCopy_6
def M_X12_isDeed (S : zSt) (x0 : Int32) : Option (Int32) :=
  Option.bind (M_X12_within S x0 0 7) (fun w1 => zg (decide ((w1 &&& 1) = w1)) (some w1))
set_option maxHeartbeats 4000000 in
set_option maxRecDepth 100000 in
theorem c_X12_isDeed (l : Launch) (D : va_G) (Y : Nat → ClassId) (F : Nat → Nat) (G : zG) (S : zSt) (sz : Nat) (x0 : Int32) (res : Int32) (h : M_X12_isDeed S x0 = some res) : Met l yX12_isDeed wsX12_isDeed (zRm 1 22) (zPc D Y F G S sz [.int x0]) (zQi D Y F (zAo F G sz) G (res, S)) 0 0 (zAo F G sz) := by
  unfold M_X12_isDeed at h
  refine zMet (cc := cX12_isDeed) (maxL := 1) (ret := (some .boolean)) (own := RX12) (by decide +kernel) rfl rfl (Nat.le_of_ble_eq_true rfl) ?_
  intro p e s m args below meth c C0 hin hw hS ls hl
  have hl : lv_has ls 1 [(0, .int x0)] := hl
  generalize zAo F G sz = A at C0 hw hS ⊢
  obtain ⟨hx, hb, hml, hr, hown, hts, hK, hA, hlk, hN⟩ := id C0
  refine lv_iload_n hx hb dX12_isDeed_0 rfl (lv_at hl 0 rfl) ?_
  refine lv_iconst (v := 0) hx hb dX12_isDeed_1 (by decide) ?_
  refine lv_bipush (v := 7) hx hb dX12_isDeed_2 (by decide) ?_
  obtain ⟨w1, ew1, h⟩ := z_bd h
  refine z_callSip C0 hw hS (As := [.int x0, .int 0, .int 7]) (rest := []) (c_X12_within l D Y F G S _ x0 0 7 w1 ew1) (va_cwS 3 hts gX12_isDeed_X12_within rfl rfl rfl (by decide +kernel) ⟨Nat.le_of_ble_eq_true rfl, Nat.le_of_ble_eq_true rfl⟩) rfl hl.1 rfl (Nat.le_of_ble_eq_true rfl) dX12_isDeed_4 ⟨Nat.zero_le _, Nat.zero_le _⟩ (fun H locs hw hS => ?_)
  obtain ⟨b2, h⟩ := z_gd h
  exact z_retz C0 hw hS (congrArg Value.int (of_decide_eq_true b2)) (congrArg (fun z => (z, S)) (Option.some.inj h)) dX12_isDeed_7
def M_X12_lives (S : zSt) (x1 : Int32) (x2 : Int32) : Option (Int32) :=
  Option.bind (M_X12_isCopy S x2) (fun w1 => (if w1 = 0 then some 0 else zg (zin x1 6) ((if x2 < (zar S 7 (Int32.toNatClampNeg x1)) then some 0 else some 1))))
set_option maxHeartbeats 4000000 in
set_option maxRecDepth 100000 in
theorem c_X12_lives (l : Launch) (D : va_G) (Y : Nat → ClassId) (F : Nat → Nat) (G : zG) (S : zSt) (sz : Nat) (x1 : Int32) (x2 : Int32) (res : Int32) (h : M_X12_lives S x1 x2 = some res) : Met l yX12_lives wsX12_lives (zRm 2 42) (zPc D Y F G S sz [.ref (F 0), .int x1, .int x2]) (zQi D Y F (zAo F G sz) G (res, S)) 0 0 (zAo F G sz) := by
  unfold M_X12_lives at h
  refine zMet (cc := cX12_lives) (maxL := 3) (ret := (some .boolean)) (own := RX12) (by decide +kernel) rfl rfl (Nat.le_of_ble_eq_true rfl) ?_
  intro p e s m args below meth c C0 hin hw hS ls hl
  have hl : lv_has ls 3 [(0, .ref (F 0)), (1, .int x1), (2, .int x2)] := hl
  generalize zAo F G sz = A at C0 hw hS ⊢
  obtain ⟨hx, hb, hml, hr, hown, hts, hK, hA, hlk, hN⟩ := id C0
  refine lv_iload_n hx hb dX12_lives_0 rfl (lv_at hl 2 rfl) ?_
  obtain ⟨w1, ew1, h⟩ := z_bd h
  refine z_callSip C0 hw hS (As := [.int x2]) (rest := []) (c_X12_isCopy l D Y F G S _ x2 w1 ew1) (va_cwS 1 hts gX12_lives_X12_isCopy rfl rfl rfl (by decide +kernel) ⟨Nat.le_of_ble_eq_true rfl, Nat.le_of_ble_eq_true rfl⟩) rfl hl.1 rfl (Nat.le_of_ble_eq_true rfl) dX12_lives_1 ⟨Nat.zero_le _, Nat.zero_le _⟩ (fun H locs hw hS => ?_)
  refine lv_if_eq (tgt := 21) hx hb dX12_lives_4 (by decide) (fun c2 => ?_) (fun c2 => ?_)
  · replace h := z_ifp c2 h
    refine lv_iconst (v := 0) hx hb dX12_lives_21 (by decide) ?_
    exact z_retz C0 hw hS rfl (congrArg (fun z => (z, S)) (Option.some.inj h)) dX12_lives_22
  · replace h := z_ifn c2 h
    refine lv_iload_n hx hb dX12_lives_7 rfl (lv_at hl 2 rfl) ?_
    refine lv_aload_n hx hb dX12_lives_8 rfl (lv_at hl 0 rfl) ?_
    refine z_get C0 in_X12_lives_X12 (C := RX12) (T := TX12) (N := 27) hw (k := 0) (ci := 12) (v := .ref (F 7)) rfl rfl rfl rfl 7 (by decide) rfl 1 rfl dX12_lives_9 ?_
    refine lv_iload_n hx hb dX12_lives_12 rfl (lv_at hl 1 rfl) ?_
    obtain ⟨b3, h⟩ := z_gd h
    refine z_iald C0 hw 7 rfl rfl zri_7 (zin_in b3) dX12_lives_13 ?_
    refine lv_icmp_lt (tgt := 21) hx hb dX12_lives_14 (by decide) (fun c4 => ?_) (fun c4 => ?_)
    · replace h := z_ifp c4 h
      refine lv_iconst (v := 0) hx hb dX12_lives_21 (by decide) ?_
      exact z_retz C0 hw hS rfl (congrArg (fun z => (z, S)) (Option.some.inj h)) dX12_lives_22
    · replace h := z_ifn c4 h
      refine lv_iconst (v := 1) hx hb dX12_lives_17 (by decide) ?_
      refine lv_goto (tgt := 22) hx hb dX12_lives_18 (by decide) ?_
      exact z_retz C0 hw hS rfl (congrArg (fun z => (z, S)) (Option.some.inj h)) dX12_lives_22
def M_X12_isRow (S : zSt) (x1 : Int32) : Option (Int32) :=
  zg (zin x1 8) ((if (zar S 1 (Int32.toNatClampNeg x1)) < 100 then some 0 else some 1))
set_option maxHeartbeats 4000000 in
set_option maxRecDepth 100000 in
theorem c_X12_isRow (l : Launch) (D : va_G) (Y : Nat → ClassId) (F : Nat → Nat) (G : zG) (S : zSt) (sz : Nat) (x1 : Int32) (res : Int32) (h : M_X12_isRow S x1 = some res) : Met l yX12_isRow wsX12_isRow (zRm 0 0) (zPc D Y F G S sz [.ref (F 0), .int x1]) (zQi D Y F (zAo F G sz) G (res, S)) 0 0 (zAo F G sz) := by
  unfold M_X12_isRow at h
  refine zMet (cc := cX12_isRow) (maxL := 2) (ret := (some .boolean)) (own := RX12) (by decide +kernel) rfl rfl (Nat.le_of_ble_eq_true rfl) ?_
  intro p e s m args below meth c C0 hin hw hS ls hl
  have hl : lv_has ls 2 [(0, .ref (F 0)), (1, .int x1)] := hl
  generalize zAo F G sz = A at C0 hw hS ⊢
  obtain ⟨hx, hb, hml, hr, hown, hts, hK, hA, hlk, hN⟩ := id C0
  refine lv_aload_n hx hb dX12_isRow_0 rfl (lv_at hl 0 rfl) ?_
  refine z_get C0 in_X12_isRow_X12 (C := RX12) (T := TX12) (N := 27) hw (k := 0) (ci := 12) (v := .ref (F 1)) rfl rfl rfl rfl 0 (by decide) rfl 1 rfl dX12_isRow_1 ?_
  refine lv_iload_n hx hb dX12_isRow_4 rfl (lv_at hl 1 rfl) ?_
  obtain ⟨b1, h⟩ := z_gd h
  refine z_iald C0 hw 1 rfl rfl zri_1 (zin_in b1) dX12_isRow_5 ?_
  refine lv_bipush (v := 100) hx hb dX12_isRow_6 (by decide) ?_
  refine lv_icmp_lt (tgt := 15) hx hb dX12_isRow_8 (by decide) (fun c2 => ?_) (fun c2 => ?_)
  · replace h := z_ifp c2 h
    refine lv_iconst (v := 0) hx hb dX12_isRow_15 (by decide) ?_
    exact z_retz C0 hw hS rfl (congrArg (fun z => (z, S)) (Option.some.inj h)) dX12_isRow_16
  · replace h := z_ifn c2 h
    refine lv_iconst (v := 1) hx hb dX12_isRow_11 (by decide) ?_
    refine lv_goto (tgt := 16) hx hb dX12_isRow_12 (by decide) ?_
    exact z_retz C0 hw hS rfl (congrArg (fun z => (z, S)) (Option.some.inj h)) dX12_isRow_16
def M_X12_row_B77 : Nat → zSt → Int32 → Int32 → Option (Int32 × zSt)
  | 0, _, _, _ => none
  | n + 1, S, x1, x4 =>
  (if 160 ≤ x4 then some (1, S) else zg (zin ((((160 : Int32) * x1) + x4)) 1280) (M_X12_row_B77 n ((zLs S 3 (Int32.toNatClampNeg ((((160 : Int32) * x1) + x4))) ((0 : Int64)))) x1 ((x4 + 1))))
set_option maxHeartbeats 4000000 in
set_option maxRecDepth 100000 in
theorem t_X12_row_B77 {p : Program} {l : Launch} {e : Env} {s : State} {m : MethodId} {args : Array Value} {below : List Frame} {meth : Method} {c : Code} {D : va_G} {Y : Nat → ClassId} {F : Nat → Nat} {A : Nat → Prop} {G : zG} (C0 : zCx p s m args meth c D Y F A RX12 cX12_row 5 (some .int) wsX12_row) (res : Int32 × zSt) : ∀ (n : Nat), ∀ (S : zSt) (x1 : Int32) (x4 : Int32), M_X12_row_B77 n S x1 x4 = some res → ∀ (H : Heap) (locs : List Loc) (ls : Array Slot), zH D Y F A G S H → va_S A s.heap H locs → lv_has ls 5 [(0, .ref (F 0)), (1, .int x1), (4, .int x4)] → W p l e (zRm 1 22) s m args below meth c H locs 0 0 (MQ below (zQi D Y F A G res) args s 0 0 A) (F0 m 77 ls []) := by
  obtain ⟨hx, hb, hml, hr, hown, hts, hK, hA, hlk, hN⟩ := id C0
  intro n
  induction n with
  | zero =>
    intro S x1 x4 h
    unfold M_X12_row_B77 at h
    cases h
  | succ n ih =>
    intro S x1 x4 h H locs ls hw hS hl
    rw [M_X12_row_B77] at h
    refine lv_iload hx hb dX12_row_77 (lv_at hl 2 rfl) ?_
    refine lv_sipush (v := 160) hx hb dX12_row_79 (by decide) ?_
    refine lv_icmp_ge (tgt := 105) hx hb dX12_row_82 (by decide) (fun c9 => ?_) (fun c9 => ?_)
    · replace h := z_ifp c9 h
      refine lv_iconst (v := 1) hx hb dX12_row_105 (by decide) ?_
      exact z_reti C0 hw hS (Option.some.inj h) dX12_row_106
    · replace h := z_ifn c9 h
      refine lv_aload_n hx hb dX12_row_85 rfl (lv_at hl 0 rfl) ?_
      refine z_get C0 in_X12_row_X12 (C := RX12) (T := TX12) (N := 27) hw (k := 0) (ci := 12) (v := .ref (F 3)) rfl rfl rfl rfl 2 (by decide) rfl 3 rfl dX12_row_86 ?_
      refine lv_sipush (v := 160) hx hb dX12_row_89 (by decide) ?_
      refine lv_iload_n hx hb dX12_row_92 rfl (lv_at hl 1 rfl) ?_
      refine lv_imul hx hb dX12_row_93 ?_
      refine lv_iload hx hb dX12_row_94 (lv_at hl 2 rfl) ?_
      refine lv_iadd hx hb dX12_row_96 ?_
      refine lv_lconst (v := 0) hx hb dX12_row_97 rfl ?_
      obtain ⟨b10, h⟩ := z_gd h
      refine z_lasts C0 hw hS 3 rfl rfl zri_3 (zin_in b10) dX12_row_98 (fun H locs hw hS => ?_)
      refine lv_iinc (v := (x4 + 1)) (lv' := [(4, .int ((x4 + 1))), (0, .ref (F 0)), (1, .int x1)]) hx hb dX12_row_99 hl (k := 2) rfl rfl (by decide) rfl (fun ls hl => ?_)
      refine lv_goto (tgt := 77) hx hb dX12_row_102 (by decide) ?_
      exact ih ((zLs S 3 (Int32.toNatClampNeg ((((160 : Int32) * x1) + x4))) ((0 : Int64)))) x1 ((x4 + 1)) h _ _ _ hw hS (lv_sub hl [1, 2, 0] rfl)
def M_X12_row (S : zSt) (x1 : Int32) (x2 : Int32) (x3 : Int32) : Option (Int32 × zSt) :=
  Option.bind (M_X12_within S x1 0 7) (fun w1 => (if w1 = 0 then Option.bind (M_X12_no S (-1)) (fun w14 => some (w14.1, w14.2)) else (if 0 ≤ x3 then Option.bind (M_X12_within S x2 0 3) (fun w4 => (if w4 = 0 then Option.bind (M_X12_no S (-6)) (fun w12 => some (w12.1, w12.2)) else (if x3 ≤ 160 then zg (zin x1 8) (zg (zin x1 8) (M_X12_row_B77 zF ((zAs ((zAs S 1 (Int32.toNatClampNeg x1) (((100 : Int32) + x2)))) 2 (Int32.toNatClampNeg x1) x3)) x1 0)) else Option.bind (M_X12_no S (-7)) (fun w11 => some (w11.1, w11.2))))) else Option.bind (M_X12_no S (-4)) (fun w13 => some (w13.1, w13.2)))))
set_option maxHeartbeats 4000000 in
set_option maxRecDepth 100000 in
theorem c_X12_row (l : Launch) (D : va_G) (Y : Nat → ClassId) (F : Nat → Nat) (G : zG) (S : zSt) (sz : Nat) (x1 : Int32) (x2 : Int32) (x3 : Int32) (res : Int32 × zSt) (h : M_X12_row S x1 x2 x3 = some res) : Met l yX12_row wsX12_row (zRm 1 22) (zPc D Y F G S sz [.ref (F 0), .int x1, .int x2, .int x3]) (zQi D Y F (zAo F G sz) G res) 0 0 (zAo F G sz) := by
  unfold M_X12_row at h
  refine zMet (cc := cX12_row) (maxL := 5) (ret := (some .int)) (own := RX12) (by decide +kernel) rfl rfl (Nat.le_of_ble_eq_true rfl) ?_
  intro p e s m args below meth c C0 hin hw hS ls hl
  have hl : lv_has ls 5 [(0, .ref (F 0)), (1, .int x1), (2, .int x2), (3, .int x3)] := hl
  generalize zAo F G sz = A at C0 hw hS ⊢
  obtain ⟨hx, hb, hml, hr, hown, hts, hK, hA, hlk, hN⟩ := id C0
  refine lv_iload_n hx hb dX12_row_0 rfl (lv_at hl 1 rfl) ?_
  refine lv_iconst (v := 0) hx hb dX12_row_1 (by decide) ?_
  refine lv_bipush (v := 7) hx hb dX12_row_2 (by decide) ?_
  obtain ⟨w1, ew1, h⟩ := z_bd h
  refine z_callSip C0 hw hS (As := [.int x1, .int 0, .int 7]) (rest := []) (c_X12_within l D Y F G S _ x1 0 7 w1 ew1) (va_cwS 3 hts gX12_row_X12_within rfl rfl rfl (by decide +kernel) ⟨Nat.le_of_ble_eq_true rfl, Nat.le_of_ble_eq_true rfl⟩) rfl hl.1 rfl (Nat.le_of_ble_eq_true rfl) dX12_row_4 ⟨Nat.zero_le _, Nat.zero_le _⟩ (fun H locs hw hS => ?_)
  refine lv_if_ne (tgt := 16) hx hb dX12_row_7 (by decide) (fun c2 => ?_) (fun c2 => ?_)
  · replace h := z_ifn c2 h
    refine lv_iload_n hx hb dX12_row_16 rfl (lv_at hl 3 rfl) ?_
    refine lv_if_ge (tgt := 27) hx hb dX12_row_17 (by decide) (fun c3 => ?_) (fun c3 => ?_)
    · replace h := z_ifp c3 h
      refine lv_iload_n hx hb dX12_row_27 rfl (lv_at hl 2 rfl) ?_
      refine lv_iconst (v := 0) hx hb dX12_row_28 (by decide) ?_
      refine lv_iconst (v := 3) hx hb dX12_row_29 (by decide) ?_
      obtain ⟨w4, ew4, h⟩ := z_bd h
      refine z_callSip C0 hw hS (As := [.int x2, .int 0, .int 3]) (rest := []) (c_X12_within l D Y F G S _ x2 0 3 w4 ew4) (va_cwS 3 hts gX12_row_X12_within rfl rfl rfl (by decide +kernel) ⟨Nat.le_of_ble_eq_true rfl, Nat.le_of_ble_eq_true rfl⟩) rfl hl.1 rfl (Nat.le_of_ble_eq_true rfl) dX12_row_30 ⟨Nat.zero_le _, Nat.zero_le _⟩ (fun H locs hw hS => ?_)
      refine lv_if_ne (tgt := 43) hx hb dX12_row_33 (by decide) (fun c5 => ?_) (fun c5 => ?_)
      · replace h := z_ifn c5 h
        refine lv_iload_n hx hb dX12_row_43 rfl (lv_at hl 3 rfl) ?_
        refine lv_sipush (v := 160) hx hb dX12_row_44 (by decide) ?_
        refine lv_icmp_le (tgt := 57) hx hb dX12_row_47 (by decide) (fun c6 => ?_) (fun c6 => ?_)
        · replace h := z_ifp c6 h
          refine lv_aload_n hx hb dX12_row_57 rfl (lv_at hl 0 rfl) ?_
          refine z_get C0 in_X12_row_X12 (C := RX12) (T := TX12) (N := 27) hw (k := 0) (ci := 12) (v := .ref (F 1)) rfl rfl rfl rfl 0 (by decide) rfl 1 rfl dX12_row_58 ?_
          refine lv_iload_n hx hb dX12_row_61 rfl (lv_at hl 1 rfl) ?_
          refine lv_bipush (v := 100) hx hb dX12_row_62 (by decide) ?_
          refine lv_iload_n hx hb dX12_row_64 rfl (lv_at hl 2 rfl) ?_
          refine lv_iadd hx hb dX12_row_65 ?_
          obtain ⟨b7, h⟩ := z_gd h
          refine z_iasts C0 hw hS 1 rfl rfl zri_1 (zin_in b7) dX12_row_66 (fun H locs hw hS => ?_)
          refine lv_aload_n hx hb dX12_row_67 rfl (lv_at hl 0 rfl) ?_
          refine z_get C0 in_X12_row_X12 (C := RX12) (T := TX12) (N := 27) hw (k := 0) (ci := 12) (v := .ref (F 2)) rfl rfl rfl rfl 1 (by decide) rfl 2 rfl dX12_row_68 ?_
          refine lv_iload_n hx hb dX12_row_71 rfl (lv_at hl 1 rfl) ?_
          refine lv_iload_n hx hb dX12_row_72 rfl (lv_at hl 3 rfl) ?_
          obtain ⟨b8, h⟩ := z_gd h
          refine z_iasts C0 hw hS 2 rfl rfl zri_2 (zin_in b8) dX12_row_73 (fun H locs hw hS => ?_)
          refine lv_iconst (v := 0) hx hb dX12_row_74 (by decide) ?_
          refine lv_istore (lv' := [(4, .int 0), (0, .ref (F 0)), (1, .int x1), (2, .int x2), (3, .int x3)]) hx hb dX12_row_75 hl (by decide) rfl (fun ls hl => ?_)
          exact t_X12_row_B77 C0 res zF ((zAs ((zAs S 1 (Int32.toNatClampNeg x1) (((100 : Int32) + x2)))) 2 (Int32.toNatClampNeg x1) x3)) x1 0 h _ _ _ hw hS (lv_sub hl [1, 2, 0] rfl)
        · replace h := z_ifn c6 h
          refine lv_aload_n hx hb dX12_row_50 rfl (lv_at hl 0 rfl) ?_
          refine lv_bipush (v := (-7)) hx hb dX12_row_51 (by decide) ?_
          obtain ⟨w11, ew11, h⟩ := z_bd h
          refine z_callVi0 C0 hw hS (k := 0) (As := [.int (-7)]) (rest := []) rfl rfl rfl rfl (c_X12_no l D Y F G S _ (-7) w11 ew11) (cwV 1 hts gX12_row_X12_no rfl rfl rfl (by decide +kernel) ⟨Nat.le_of_ble_eq_true rfl, Nat.le_of_ble_eq_true rfl⟩) rfl hl.1 rfl (Nat.le_of_ble_eq_true rfl) dX12_row_53 ⟨Nat.zero_le _, Nat.zero_le _⟩ (fun H locs hw hS => ?_)
          exact z_reti C0 hw hS (Option.some.inj h) dX12_row_56
      · replace h := z_ifp c5 h
        refine lv_aload_n hx hb dX12_row_36 rfl (lv_at hl 0 rfl) ?_
        refine lv_bipush (v := (-6)) hx hb dX12_row_37 (by decide) ?_
        obtain ⟨w12, ew12, h⟩ := z_bd h
        refine z_callVi0 C0 hw hS (k := 0) (As := [.int (-6)]) (rest := []) rfl rfl rfl rfl (c_X12_no l D Y F G S _ (-6) w12 ew12) (cwV 1 hts gX12_row_X12_no rfl rfl rfl (by decide +kernel) ⟨Nat.le_of_ble_eq_true rfl, Nat.le_of_ble_eq_true rfl⟩) rfl hl.1 rfl (Nat.le_of_ble_eq_true rfl) dX12_row_39 ⟨Nat.zero_le _, Nat.zero_le _⟩ (fun H locs hw hS => ?_)
        exact z_reti C0 hw hS (Option.some.inj h) dX12_row_42
    · replace h := z_ifn c3 h
      refine lv_aload_n hx hb dX12_row_20 rfl (lv_at hl 0 rfl) ?_
      refine lv_bipush (v := (-4)) hx hb dX12_row_21 (by decide) ?_
      obtain ⟨w13, ew13, h⟩ := z_bd h
      refine z_callVi0 C0 hw hS (k := 0) (As := [.int (-4)]) (rest := []) rfl rfl rfl rfl (c_X12_no l D Y F G S _ (-4) w13 ew13) (cwV 1 hts gX12_row_X12_no rfl rfl rfl (by decide +kernel) ⟨Nat.le_of_ble_eq_true rfl, Nat.le_of_ble_eq_true rfl⟩) rfl hl.1 rfl (Nat.le_of_ble_eq_true rfl) dX12_row_23 ⟨Nat.zero_le _, Nat.zero_le _⟩ (fun H locs hw hS => ?_)
      exact z_reti C0 hw hS (Option.some.inj h) dX12_row_26
  · replace h := z_ifp c2 h
    refine lv_aload_n hx hb dX12_row_10 rfl (lv_at hl 0 rfl) ?_
    refine lv_iconst (v := (-1)) hx hb dX12_row_11 (by decide) ?_
    obtain ⟨w14, ew14, h⟩ := z_bd h
    refine z_callVi0 C0 hw hS (k := 0) (As := [.int (-1)]) (rest := []) rfl rfl rfl rfl (c_X12_no l D Y F G S _ (-1) w14 ew14) (cwV 1 hts gX12_row_X12_no rfl rfl rfl (by decide +kernel) ⟨Nat.le_of_ble_eq_true rfl, Nat.le_of_ble_eq_true rfl⟩) rfl hl.1 rfl (Nat.le_of_ble_eq_true rfl) dX12_row_12 ⟨Nat.zero_le _, Nat.zero_le _⟩ (fun H locs hw hS => ?_)
    exact z_reti C0 hw hS (Option.some.inj h) dX12_row_15
def M_X12_noRow_B32 (S : zSt) (x1 : Int32) : Option (Int32) :=
  zg (zin x1 8) ((if 0 ≤ (zar S 1 (Int32.toNatClampNeg x1)) then some 0 else some (-3)))
set_option maxHeartbeats 4000000 in
set_option maxRecDepth 100000 in
theorem t_X12_noRow_B32 {p : Program} {l : Launch} {e : Env} {s : State} {m : MethodId} {args : Array Value} {below : List Frame} {meth : Method} {c : Code} {D : va_G} {Y : Nat → ClassId} {F : Nat → Nat} {A : Nat → Prop} {G : zG} (C0 : zCx p s m args meth c D Y F A RX12 cX12_noRow 2 (some .int) wsX12_noRow) (S : zSt) (res : Int32) : ∀ (x1 : Int32), M_X12_noRow_B32 S x1 = some res → ∀ (H : Heap) (locs : List Loc) (ls : Array Slot), zH D Y F A G S H → va_S A s.heap H locs → lv_has ls 2 [(0, .ref (F 0)), (1, .int x1)] → W p l e (zRm 1 22) s m args below meth c H locs 0 0 (MQ below (zQi D Y F A G (res, S)) args s 0 0 A) (F0 m 32 ls []) := by
  obtain ⟨hx, hb, hml, hr, hown, hts, hK, hA, hlk, hN⟩ := id C0
  intro x1 h H locs ls hw hS hl
  unfold M_X12_noRow_B32 at h
  refine lv_aload_n hx hb dX12_noRow_32 rfl (lv_at hl 0 rfl) ?_
  refine z_get C0 in_X12_noRow_X12 (C := RX12) (T := TX12) (N := 27) hw (k := 0) (ci := 12) (v := .ref (F 1)) rfl rfl rfl rfl 0 (by decide) rfl 1 rfl dX12_noRow_33 ?_
  refine lv_iload_n hx hb dX12_noRow_36 rfl (lv_at hl 1 rfl) ?_
  obtain ⟨b5, h⟩ := z_gd h
  refine z_iald C0 hw 1 rfl rfl zri_1 (zin_in b5) dX12_noRow_37 ?_
  refine lv_if_ge (tgt := 46) hx hb dX12_noRow_38 (by decide) (fun c6 => ?_) (fun c6 => ?_)
  · replace h := z_ifp c6 h
    refine lv_iconst (v := 0) hx hb dX12_noRow_46 (by decide) ?_
    exact z_reti C0 hw hS (congrArg (fun z => (z, S)) (Option.some.inj h)) dX12_noRow_47
  · replace h := z_ifn c6 h
    refine lv_bipush (v := (-3)) hx hb dX12_noRow_41 (by decide) ?_
    refine lv_goto (tgt := 47) hx hb dX12_noRow_43 (by decide) ?_
    exact z_reti C0 hw hS (congrArg (fun z => (z, S)) (Option.some.inj h)) dX12_noRow_47
def M_X12_noRow (S : zSt) (x1 : Int32) : Option (Int32) :=
  Option.bind (M_X12_within S x1 0 7) (fun w1 => (if w1 = 0 then some (-1) else zg (zin x1 8) ((if (zar S 1 (Int32.toNatClampNeg x1)) < 0 then M_X12_noRow_B32 S x1 else Option.bind (M_X12_isRow S x1) (fun w7 => (if w7 = 0 then some (-2) else M_X12_noRow_B32 S x1))))))
set_option maxHeartbeats 4000000 in
set_option maxRecDepth 100000 in
theorem c_X12_noRow (l : Launch) (D : va_G) (Y : Nat → ClassId) (F : Nat → Nat) (G : zG) (S : zSt) (sz : Nat) (x1 : Int32) (res : Int32) (h : M_X12_noRow S x1 = some res) : Met l yX12_noRow wsX12_noRow (zRm 1 22) (zPc D Y F G S sz [.ref (F 0), .int x1]) (zQi D Y F (zAo F G sz) G (res, S)) 0 0 (zAo F G sz) := by
  unfold M_X12_noRow at h
  refine zMet (cc := cX12_noRow) (maxL := 2) (ret := (some .int)) (own := RX12) (by decide +kernel) rfl rfl (Nat.le_of_ble_eq_true rfl) ?_
  intro p e s m args below meth c C0 hin hw hS ls hl
  have hl : lv_has ls 2 [(0, .ref (F 0)), (1, .int x1)] := hl
  generalize zAo F G sz = A at C0 hw hS ⊢
  obtain ⟨hx, hb, hml, hr, hown, hts, hK, hA, hlk, hN⟩ := id C0
  refine lv_iload_n hx hb dX12_noRow_0 rfl (lv_at hl 1 rfl) ?_
  refine lv_iconst (v := 0) hx hb dX12_noRow_1 (by decide) ?_
  refine lv_bipush (v := 7) hx hb dX12_noRow_2 (by decide) ?_
  obtain ⟨w1, ew1, h⟩ := z_bd h
  refine z_callSip C0 hw hS (As := [.int x1, .int 0, .int 7]) (rest := []) (c_X12_within l D Y F G S _ x1 0 7 w1 ew1) (va_cwS 3 hts gX12_noRow_X12_within rfl rfl rfl (by decide +kernel) ⟨Nat.le_of_ble_eq_true rfl, Nat.le_of_ble_eq_true rfl⟩) rfl hl.1 rfl (Nat.le_of_ble_eq_true rfl) dX12_noRow_4 ⟨Nat.zero_le _, Nat.zero_le _⟩ (fun H locs hw hS => ?_)
  refine lv_if_ne (tgt := 12) hx hb dX12_noRow_7 (by decide) (fun c2 => ?_) (fun c2 => ?_)
  · replace h := z_ifn c2 h
    refine lv_aload_n hx hb dX12_noRow_12 rfl (lv_at hl 0 rfl) ?_
    refine z_get C0 in_X12_noRow_X12 (C := RX12) (T := TX12) (N := 27) hw (k := 0) (ci := 12) (v := .ref (F 1)) rfl rfl rfl rfl 0 (by decide) rfl 1 rfl dX12_noRow_13 ?_
    refine lv_iload_n hx hb dX12_noRow_16 rfl (lv_at hl 1 rfl) ?_
    obtain ⟨b3, h⟩ := z_gd h
    refine z_iald C0 hw 1 rfl rfl zri_1 (zin_in b3) dX12_noRow_17 ?_
    refine lv_if_lt (tgt := 32) hx hb dX12_noRow_18 (by decide) (fun c4 => ?_) (fun c4 => ?_)
    · replace h := z_ifp c4 h
      exact t_X12_noRow_B32 C0 S res x1 h _ _ _ hw hS (lv_sub hl [0, 1] rfl)
    · replace h := z_ifn c4 h
      refine lv_aload_n hx hb dX12_noRow_21 rfl (lv_at hl 0 rfl) ?_
      refine lv_iload_n hx hb dX12_noRow_22 rfl (lv_at hl 1 rfl) ?_
      obtain ⟨w7, ew7, h⟩ := z_bd h
      refine z_callVip C0 hw hS (k := 0) (As := [.int x1]) (rest := []) rfl rfl rfl rfl (c_X12_isRow l D Y F G S _ x1 w7 ew7) (cwV 1 hts gX12_noRow_X12_isRow rfl rfl rfl (by decide +kernel) ⟨Nat.le_of_ble_eq_true rfl, Nat.le_of_ble_eq_true rfl⟩) rfl hl.1 rfl (Nat.le_of_ble_eq_true rfl) dX12_noRow_23 ⟨Nat.zero_le _, Nat.zero_le _⟩ (fun H locs hw hS => ?_)
      refine lv_if_ne (tgt := 32) hx hb dX12_noRow_26 (by decide) (fun c8 => ?_) (fun c8 => ?_)
      · replace h := z_ifn c8 h
        exact t_X12_noRow_B32 C0 S res x1 h _ _ _ hw hS (lv_sub hl [0, 1] rfl)
      · replace h := z_ifp c8 h
        refine lv_bipush (v := (-2)) hx hb dX12_noRow_29 (by decide) ?_
        exact z_reti C0 hw hS (congrArg (fun z => (z, S)) (Option.some.inj h)) dX12_noRow_31
  · replace h := z_ifp c2 h
    refine lv_iconst (v := (-1)) hx hb dX12_noRow_10 (by decide) ?_
    exact z_reti C0 hw hS (congrArg (fun z => (z, S)) (Option.some.inj h)) dX12_noRow_11
def M_X12_set_B102 (S : zSt) (y0 : Int64) (y1 : Int32) : Option (Int32 × zSt) :=
  zg (zin y1 1280) (some (1, (zLs S 3 (Int32.toNatClampNeg y1) y0)))
set_option maxHeartbeats 4000000 in
set_option maxRecDepth 100000 in
theorem t_X12_set_B102 {p : Program} {l : Launch} {e : Env} {s : State} {m : MethodId} {args : Array Value} {below : List Frame} {meth : Method} {c : Code} {D : va_G} {Y : Nat → ClassId} {F : Nat → Nat} {A : Nat → Prop} {G : zG} (C0 : zCx p s m args meth c D Y F A RX12 cX12_set 7 (some .int) wsX12_set) (res : Int32 × zSt) : ∀ (S : zSt) (y0 : Int64) (y1 : Int32), M_X12_set_B102 S y0 y1 = some res → ∀ (H : Heap) (locs : List Loc) (ls : Array Slot), zH D Y F A G S H → va_S A s.heap H locs → lv_has ls 7 [] → W p l e (zRm 2 43) s m args below meth c H locs 0 0 (MQ below (zQi D Y F A G res) args s 0 0 A) (F0 m 102 ls [.long y0, .int y1, .ref (F 3)]) := by
  obtain ⟨hx, hb, hml, hr, hown, hts, hK, hA, hlk, hN⟩ := id C0
  intro S y0 y1 h H locs ls hw hS hl
  unfold M_X12_set_B102 at h
  obtain ⟨b11, h⟩ := z_gd h
  refine z_lasts C0 hw hS 3 rfl rfl zri_3 (zin_in b11) dX12_set_102 (fun H locs hw hS => ?_)
  refine lv_iconst (v := 1) hx hb dX12_set_103 (by decide) ?_
  exact z_reti C0 hw hS (Option.some.inj h) dX12_set_104
def M_X12_set (S : zSt) (x1 : Int32) (x2 : Int32) (x3 : Int64) : Option (Int32 × zSt) :=
  Option.bind (M_X12_noRow S x1) (fun w1 => (if 0 ≤ w1 then zg (zin x1 8) (Option.bind (M_X12_within S x2 0 (((zar S 2 (Int32.toNatClampNeg x1)) - 1))) (fun w4 => (if w4 = 0 then Option.bind (M_X12_no S (-5)) (fun w12 => some (w12.1, w12.2)) else zg (zin x1 8) (Option.bind (some (((zar S 1 (Int32.toNatClampNeg x1)) - 100))) (fun v7 => (if v7 = 0 then M_X12_set_B102 S ((Int32.toInt64 ((Int8.toInt32 (Int32.toInt8 ((Int64.toInt32 x3))))))) ((((160 : Int32) * x1) + x2)) else (if v7 = 1 then M_X12_set_B102 S ((Int32.toInt64 ((Int16.toInt32 (Int32.toInt16 ((Int64.toInt32 x3))))))) ((((160 : Int32) * x1) + x2)) else (if v7 = 2 then M_X12_set_B102 S ((Int32.toInt64 ((Int64.toInt32 x3)))) ((((160 : Int32) * x1) + x2)) else M_X12_set_B102 S x3 ((((160 : Int32) * x1) + x2)))))))))) else Option.bind (M_X12_no S w1) (fun w13 => some (w13.1, w13.2))))
set_option maxHeartbeats 4000000 in
set_option maxRecDepth 100000 in
theorem c_X12_set (l : Launch) (D : va_G) (Y : Nat → ClassId) (F : Nat → Nat) (G : zG) (S : zSt) (sz : Nat) (x1 : Int32) (x2 : Int32) (x3 : Int64) (res : Int32 × zSt) (h : M_X12_set S x1 x2 x3 = some res) : Met l yX12_set wsX12_set (zRm 2 43) (zPc D Y F G S sz [.ref (F 0), .int x1, .int x2, .long x3]) (zQi D Y F (zAo F G sz) G res) 0 0 (zAo F G sz) := by
  unfold M_X12_set at h
  refine zMet (cc := cX12_set) (maxL := 7) (ret := (some .int)) (own := RX12) (by decide +kernel) rfl rfl (Nat.le_of_ble_eq_true rfl) ?_
  intro p e s m args below meth c C0 hin hw hS ls hl
  have hl : lv_has ls 7 [(0, .ref (F 0)), (1, .int x1), (2, .int x2), (3, .long x3)] := hl
  generalize zAo F G sz = A at C0 hw hS ⊢
  obtain ⟨hx, hb, hml, hr, hown, hts, hK, hA, hlk, hN⟩ := id C0
  refine lv_aload_n hx hb dX12_set_0 rfl (lv_at hl 0 rfl) ?_
  refine lv_iload_n hx hb dX12_set_1 rfl (lv_at hl 1 rfl) ?_
  obtain ⟨w1, ew1, h⟩ := z_bd h
  refine z_callVip C0 hw hS (k := 0) (As := [.int x1]) (rest := []) rfl rfl rfl rfl (c_X12_noRow l D Y F G S _ x1 w1 ew1) (cwV 1 hts gX12_set_X12_noRow rfl rfl rfl (by decide +kernel) ⟨Nat.le_of_ble_eq_true rfl, Nat.le_of_ble_eq_true rfl⟩) rfl hl.1 rfl (Nat.le_of_ble_eq_true rfl) dX12_set_2 ⟨Nat.zero_le _, Nat.zero_le _⟩ (fun H locs hw hS => ?_)
  refine lv_istore (lv' := [(5, .int w1), (0, .ref (F 0)), (1, .int x1), (2, .int x2), (3, .long x3)]) hx hb dX12_set_5 hl (by decide) rfl (fun ls hl => ?_)
  refine lv_iload hx hb dX12_set_7 (lv_at hl 0 rfl) ?_
  refine lv_if_ge (tgt := 19) hx hb dX12_set_9 (by decide) (fun c2 => ?_) (fun c2 => ?_)
  · replace h := z_ifp c2 h
    refine lv_iload_n hx hb dX12_set_19 rfl (lv_at hl 3 rfl) ?_
    refine lv_iconst (v := 0) hx hb dX12_set_20 (by decide) ?_
    refine lv_aload_n hx hb dX12_set_21 rfl (lv_at hl 1 rfl) ?_
    refine z_get C0 in_X12_set_X12 (C := RX12) (T := TX12) (N := 27) hw (k := 0) (ci := 12) (v := .ref (F 2)) rfl rfl rfl rfl 1 (by decide) rfl 1 rfl dX12_set_22 ?_
    refine lv_iload_n hx hb dX12_set_25 rfl (lv_at hl 2 rfl) ?_
    obtain ⟨b3, h⟩ := z_gd h
    refine z_iald C0 hw 2 rfl rfl zri_2 (zin_in b3) dX12_set_26 ?_
    refine lv_iconst (v := 1) hx hb dX12_set_27 (by decide) ?_
    refine lv_isub hx hb dX12_set_28 ?_
    obtain ⟨w4, ew4, h⟩ := z_bd h
    refine z_callSip C0 hw hS (As := [.int x2, .int 0, .int (((zar S 2 (Int32.toNatClampNeg x1)) - 1))]) (rest := []) (c_X12_within l D Y F G S _ x2 0 (((zar S 2 (Int32.toNatClampNeg x1)) - 1)) w4 ew4) (va_cwS 3 hts gX12_set_X12_within rfl rfl rfl (by decide +kernel) ⟨Nat.le_of_ble_eq_true rfl, Nat.le_of_ble_eq_true rfl⟩) rfl hl.1 rfl (Nat.le_of_ble_eq_true rfl) dX12_set_29 ⟨Nat.zero_le _, Nat.zero_le _⟩ (fun H locs hw hS => ?_)
    refine lv_if_ne (tgt := 42) hx hb dX12_set_32 (by decide) (fun c5 => ?_) (fun c5 => ?_)
    · replace h := z_ifn c5 h
      refine lv_aload_n hx hb dX12_set_42 rfl (lv_at hl 1 rfl) ?_
      refine z_get C0 in_X12_set_X12 (C := RX12) (T := TX12) (N := 27) hw (k := 0) (ci := 12) (v := .ref (F 1)) rfl rfl rfl rfl 0 (by decide) rfl 2 rfl dX12_set_43 ?_
      refine lv_iload_n hx hb dX12_set_46 rfl (lv_at hl 2 rfl) ?_
      obtain ⟨b6, h⟩ := z_gd h
      refine z_iald C0 hw 1 rfl rfl zri_1 (zin_in b6) dX12_set_47 ?_
      refine lv_bipush (v := 100) hx hb dX12_set_48 (by decide) ?_
      refine lv_isub hx hb dX12_set_50 ?_
      obtain ⟨v7, ev7, h⟩ := z_bd h
      refine z_top (Option.some.inj ev7) ?_
      refine lv_istore (lv' := [(6, .int v7), (5, .int w1), (0, .ref (F 0)), (1, .int x1), (2, .int x2), (3, .long x3)]) hx hb dX12_set_51 hl (by decide) rfl (fun ls hl => ?_)
      refine lv_aload_n hx hb dX12_set_53 rfl (lv_at hl 2 rfl) ?_
      refine z_get C0 in_X12_set_X12 (C := RX12) (T := TX12) (N := 27) hw (k := 0) (ci := 12) (v := .ref (F 3)) rfl rfl rfl rfl 2 (by decide) rfl 3 rfl dX12_set_54 ?_
      refine lv_sipush (v := 160) hx hb dX12_set_57 (by decide) ?_
      refine lv_iload_n hx hb dX12_set_60 rfl (lv_at hl 3 rfl) ?_
      refine lv_imul hx hb dX12_set_61 ?_
      refine lv_iload_n hx hb dX12_set_62 rfl (lv_at hl 4 rfl) ?_
      refine lv_iadd hx hb dX12_set_63 ?_
      refine lv_iload hx hb dX12_set_64 (lv_at hl 0 rfl) ?_
      refine lv_if_ne (tgt := 76) hx hb dX12_set_66 (by decide) (fun c8 => ?_) (fun c8 => ?_)
      · replace h := z_ifn c8 h
        refine lv_iload hx hb dX12_set_76 (lv_at hl 0 rfl) ?_
        refine lv_iconst (v := 1) hx hb dX12_set_78 (by decide) ?_
        refine lv_icmp_ne (tgt := 89) hx hb dX12_set_79 (by decide) (fun c9 => ?_) (fun c9 => ?_)
        · replace h := z_ifn c9 h
          refine lv_iload hx hb dX12_set_89 (lv_at hl 0 rfl) ?_
          refine lv_iconst (v := 2) hx hb dX12_set_91 (by decide) ?_
          refine lv_icmp_ne (tgt := 101) hx hb dX12_set_92 (by decide) (fun c10 => ?_) (fun c10 => ?_)
          · replace h := z_ifn c10 h
            refine lv_lload_n hx hb dX12_set_101 rfl (lv_at hl 5 rfl) ?_
            exact t_X12_set_B102 C0 res S x3 ((((160 : Int32) * x1) + x2)) h _ _ _ hw hS (lv_sub hl [] rfl)
          · replace h := z_ifp c10 h
            refine lv_lload_n hx hb dX12_set_95 rfl (lv_at hl 5 rfl) ?_
            refine lv_l2i (v := (Int64.toInt32 x3)) hx hb dX12_set_96 rfl ?_
            refine lv_i2l (v := (Int32.toInt64 ((Int64.toInt32 x3)))) hx hb dX12_set_97 rfl ?_
            refine lv_goto (tgt := 102) hx hb dX12_set_98 (by decide) ?_
            exact t_X12_set_B102 C0 res S ((Int32.toInt64 ((Int64.toInt32 x3)))) ((((160 : Int32) * x1) + x2)) h _ _ _ hw hS (lv_sub hl [] rfl)
        · replace h := z_ifp c9 h
          refine lv_lload_n hx hb dX12_set_82 rfl (lv_at hl 5 rfl) ?_
          refine lv_l2i (v := (Int64.toInt32 x3)) hx hb dX12_set_83 rfl ?_
          refine lv_i2s (v := (Int16.toInt32 (Int32.toInt16 ((Int64.toInt32 x3))))) hx hb dX12_set_84 rfl ?_
          refine lv_i2l (v := (Int32.toInt64 ((Int16.toInt32 (Int32.toInt16 ((Int64.toInt32 x3))))))) hx hb dX12_set_85 rfl ?_
          refine lv_goto (tgt := 102) hx hb dX12_set_86 (by decide) ?_
          exact t_X12_set_B102 C0 res S ((Int32.toInt64 ((Int16.toInt32 (Int32.toInt16 ((Int64.toInt32 x3))))))) ((((160 : Int32) * x1) + x2)) h _ _ _ hw hS (lv_sub hl [] rfl)
      · replace h := z_ifp c8 h
        refine lv_lload_n hx hb dX12_set_69 rfl (lv_at hl 5 rfl) ?_
        refine lv_l2i (v := (Int64.toInt32 x3)) hx hb dX12_set_70 rfl ?_
        refine lv_i2b (v := (Int8.toInt32 (Int32.toInt8 ((Int64.toInt32 x3))))) hx hb dX12_set_71 rfl ?_
        refine lv_i2l (v := (Int32.toInt64 ((Int8.toInt32 (Int32.toInt8 ((Int64.toInt32 x3))))))) hx hb dX12_set_72 rfl ?_
        refine lv_goto (tgt := 102) hx hb dX12_set_73 (by decide) ?_
        exact t_X12_set_B102 C0 res S ((Int32.toInt64 ((Int8.toInt32 (Int32.toInt8 ((Int64.toInt32 x3))))))) ((((160 : Int32) * x1) + x2)) h _ _ _ hw hS (lv_sub hl [] rfl)
    · replace h := z_ifp c5 h
      refine lv_aload_n hx hb dX12_set_35 rfl (lv_at hl 1 rfl) ?_
      refine lv_bipush (v := (-5)) hx hb dX12_set_36 (by decide) ?_
      obtain ⟨w12, ew12, h⟩ := z_bd h
      refine z_callVi0 C0 hw hS (k := 0) (As := [.int (-5)]) (rest := []) rfl rfl rfl rfl (c_X12_no l D Y F G S _ (-5) w12 ew12) (cwV 1 hts gX12_set_X12_no rfl rfl rfl (by decide +kernel) ⟨Nat.le_of_ble_eq_true rfl, Nat.le_of_ble_eq_true rfl⟩) rfl hl.1 rfl (Nat.le_of_ble_eq_true rfl) dX12_set_38 ⟨Nat.zero_le _, Nat.zero_le _⟩ (fun H locs hw hS => ?_)
      exact z_reti C0 hw hS (Option.some.inj h) dX12_set_41
  · replace h := z_ifn c2 h
    refine lv_aload_n hx hb dX12_set_12 rfl (lv_at hl 1 rfl) ?_
    refine lv_iload hx hb dX12_set_13 (lv_at hl 0 rfl) ?_
    obtain ⟨w13, ew13, h⟩ := z_bd h
    refine z_callVi0 C0 hw hS (k := 0) (As := [.int w1]) (rest := []) rfl rfl rfl rfl (c_X12_no l D Y F G S _ w1 w13 ew13) (cwV 1 hts gX12_set_X12_no rfl rfl rfl (by decide +kernel) ⟨Nat.le_of_ble_eq_true rfl, Nat.le_of_ble_eq_true rfl⟩) rfl hl.1 rfl (Nat.le_of_ble_eq_true rfl) dX12_set_15 ⟨Nat.zero_le _, Nat.zero_le _⟩ (fun H locs hw hS => ?_)
    exact z_reti C0 hw hS (Option.some.inj h) dX12_set_18
def M_X12_copy_B20 (S : zSt) : Option (Int32 × zSt) :=
  Option.bind (M_X12_no S (-1)) (fun w3 => some (w3.1, w3.2))
set_option maxHeartbeats 4000000 in
set_option maxRecDepth 100000 in
theorem t_X12_copy_B20 {p : Program} {l : Launch} {e : Env} {s : State} {m : MethodId} {args : Array Value} {below : List Frame} {meth : Method} {c : Code} {D : va_G} {Y : Nat → ClassId} {F : Nat → Nat} {A : Nat → Prop} {G : zG} (C0 : zCx p s m args meth c D Y F A RX12 cX12_copy 7 (some .int) wsX12_copy) (res : Int32 × zSt) : ∀ (S : zSt), M_X12_copy_B20 S = some res → ∀ (H : Heap) (locs : List Loc) (ls : Array Slot), zH D Y F A G S H → va_S A s.heap H locs → lv_has ls 7 [(0, .ref (F 0))] → W p l e (zRm 1 22) s m args below meth c H locs 0 0 (MQ below (zQi D Y F A G res) args s 0 0 A) (F0 m 20 ls []) := by
  obtain ⟨hx, hb, hml, hr, hown, hts, hK, hA, hlk, hN⟩ := id C0
  intro S h H locs ls hw hS hl
  unfold M_X12_copy_B20 at h
  refine lv_aload_n hx hb dX12_copy_20 rfl (lv_at hl 0 rfl) ?_
  refine lv_iconst (v := (-1)) hx hb dX12_copy_21 (by decide) ?_
  obtain ⟨w3, ew3, h⟩ := z_bd h
  refine z_callVi0 C0 hw hS (k := 0) (As := [.int (-1)]) (rest := []) rfl rfl rfl rfl (c_X12_no l D Y F G S _ (-1) w3 ew3) (cwV 1 hts gX12_copy_X12_no rfl rfl rfl (by decide +kernel) ⟨Nat.le_of_ble_eq_true rfl, Nat.le_of_ble_eq_true rfl⟩) rfl hl.1 rfl (Nat.le_of_ble_eq_true rfl) dX12_copy_22 ⟨Nat.zero_le _, Nat.zero_le _⟩ (fun H locs hw hS => ?_)
  exact z_reti C0 hw hS (Option.some.inj h) dX12_copy_25
def M_X12_copy_B116 (S : zSt) : Option (Int32 × zSt) :=
  Option.bind (M_X12_no S (-3)) (fun w14 => some (w14.1, w14.2))
set_option maxHeartbeats 4000000 in
set_option maxRecDepth 100000 in
theorem t_X12_copy_B116 {p : Program} {l : Launch} {e : Env} {s : State} {m : MethodId} {args : Array Value} {below : List Frame} {meth : Method} {c : Code} {D : va_G} {Y : Nat → ClassId} {F : Nat → Nat} {A : Nat → Prop} {G : zG} (C0 : zCx p s m args meth c D Y F A RX12 cX12_copy 7 (some .int) wsX12_copy) (res : Int32 × zSt) : ∀ (S : zSt), M_X12_copy_B116 S = some res → ∀ (H : Heap) (locs : List Loc) (ls : Array Slot), zH D Y F A G S H → va_S A s.heap H locs → lv_has ls 7 [(0, .ref (F 0))] → W p l e (zRm 1 22) s m args below meth c H locs 0 0 (MQ below (zQi D Y F A G res) args s 0 0 A) (F0 m 116 ls []) := by
  obtain ⟨hx, hb, hml, hr, hown, hts, hK, hA, hlk, hN⟩ := id C0
  intro S h H locs ls hw hS hl
  unfold M_X12_copy_B116 at h
  refine lv_aload_n hx hb dX12_copy_116 rfl (lv_at hl 0 rfl) ?_
  refine lv_bipush (v := (-3)) hx hb dX12_copy_117 (by decide) ?_
  obtain ⟨w14, ew14, h⟩ := z_bd h
  refine z_callVi0 C0 hw hS (k := 0) (As := [.int (-3)]) (rest := []) rfl rfl rfl rfl (c_X12_no l D Y F G S _ (-3) w14 ew14) (cwV 1 hts gX12_copy_X12_no rfl rfl rfl (by decide +kernel) ⟨Nat.le_of_ble_eq_true rfl, Nat.le_of_ble_eq_true rfl⟩) rfl hl.1 rfl (Nat.le_of_ble_eq_true rfl) dX12_copy_119 ⟨Nat.zero_le _, Nat.zero_le _⟩ (fun H locs hw hS => ?_)
  exact z_reti C0 hw hS (Option.some.inj h) dX12_copy_122
def M_X12_copy_B179 (S : zSt) : Option (Int32 × zSt) :=
  Option.bind (M_X12_no S (-5)) (fun w19 => some (w19.1, w19.2))
set_option maxHeartbeats 4000000 in
set_option maxRecDepth 100000 in
theorem t_X12_copy_B179 {p : Program} {l : Launch} {e : Env} {s : State} {m : MethodId} {args : Array Value} {below : List Frame} {meth : Method} {c : Code} {D : va_G} {Y : Nat → ClassId} {F : Nat → Nat} {A : Nat → Prop} {G : zG} (C0 : zCx p s m args meth c D Y F A RX12 cX12_copy 7 (some .int) wsX12_copy) (res : Int32 × zSt) : ∀ (S : zSt), M_X12_copy_B179 S = some res → ∀ (H : Heap) (locs : List Loc) (ls : Array Slot), zH D Y F A G S H → va_S A s.heap H locs → lv_has ls 7 [(0, .ref (F 0))] → W p l e (zRm 1 22) s m args below meth c H locs 0 0 (MQ below (zQi D Y F A G res) args s 0 0 A) (F0 m 179 ls []) := by
  obtain ⟨hx, hb, hml, hr, hown, hts, hK, hA, hlk, hN⟩ := id C0
  intro S h H locs ls hw hS hl
  unfold M_X12_copy_B179 at h
  refine lv_aload_n hx hb dX12_copy_179 rfl (lv_at hl 0 rfl) ?_
  refine lv_bipush (v := (-5)) hx hb dX12_copy_180 (by decide) ?_
  obtain ⟨w19, ew19, h⟩ := z_bd h
  refine z_callVi0 C0 hw hS (k := 0) (As := [.int (-5)]) (rest := []) rfl rfl rfl rfl (c_X12_no l D Y F G S _ (-5) w19 ew19) (cwV 1 hts gX12_copy_X12_no rfl rfl rfl (by decide +kernel) ⟨Nat.le_of_ble_eq_true rfl, Nat.le_of_ble_eq_true rfl⟩) rfl hl.1 rfl (Nat.le_of_ble_eq_true rfl) dX12_copy_182 ⟨Nat.zero_le _, Nat.zero_le _⟩ (fun H locs hw hS => ?_)
  exact z_reti C0 hw hS (Option.some.inj h) dX12_copy_185
def M_X12_copy_B251 : Nat → zSt → Int32 → Int32 → Int32 → Int32 → Int32 → Int32 → Option (Int32 × zSt)
  | 0, _, _, _, _, _, _, _ => none
  | n + 1, S, x1, x2, x3, x4, x5, x6 =>
  (if x5 ≤ x6 then some (1, S) else zg (zin (((((160 : Int32) * x1) + x3) + x6)) 1280) (zg (zin (((((160 : Int32) * x2) + x4) + x6)) 1280) (M_X12_copy_B251 n ((zLs S 3 (Int32.toNatClampNeg (((((160 : Int32) * x2) + x4) + x6))) ((zlo S 3 (Int32.toNatClampNeg (((((160 : Int32) * x1) + x3) + x6))))))) x1 x2 x3 x4 x5 ((x6 + 1)))))
set_option maxHeartbeats 4000000 in
set_option maxRecDepth 100000 in
theorem t_X12_copy_B251 {p : Program} {l : Launch} {e : Env} {s : State} {m : MethodId} {args : Array Value} {below : List Frame} {meth : Method} {c : Code} {D : va_G} {Y : Nat → ClassId} {F : Nat → Nat} {A : Nat → Prop} {G : zG} (C0 : zCx p s m args meth c D Y F A RX12 cX12_copy 7 (some .int) wsX12_copy) (res : Int32 × zSt) : ∀ (n : Nat), ∀ (S : zSt) (x1 : Int32) (x2 : Int32) (x3 : Int32) (x4 : Int32) (x5 : Int32) (x6 : Int32), M_X12_copy_B251 n S x1 x2 x3 x4 x5 x6 = some res → ∀ (H : Heap) (locs : List Loc) (ls : Array Slot), zH D Y F A G S H → va_S A s.heap H locs → lv_has ls 7 [(0, .ref (F 0)), (1, .int x1), (2, .int x2), (3, .int x3), (4, .int x4), (5, .int x5), (6, .int x6)] → W p l e (zRm 1 22) s m args below meth c H locs 0 0 (MQ below (zQi D Y F A G res) args s 0 0 A) (F0 m 251 ls []) := by
  obtain ⟨hx, hb, hml, hr, hown, hts, hK, hA, hlk, hN⟩ := id C0
  intro n
  induction n with
  | zero =>
    intro S x1 x2 x3 x4 x5 x6 h
    unfold M_X12_copy_B251 at h
    cases h
  | succ n ih =>
    intro S x1 x2 x3 x4 x5 x6 h H locs ls hw hS hl
    rw [M_X12_copy_B251] at h
    refine lv_iload hx hb dX12_copy_251 (lv_at hl 6 rfl) ?_
    refine lv_iload hx hb dX12_copy_253 (lv_at hl 5 rfl) ?_
    refine lv_icmp_ge (tgt := 295) hx hb dX12_copy_255 (by decide) (fun c26 => ?_) (fun c26 => ?_)
    · replace h := z_ifp c26 h
      refine lv_iconst (v := 1) hx hb dX12_copy_295 (by decide) ?_
      exact z_reti C0 hw hS (Option.some.inj h) dX12_copy_296
    · replace h := z_ifn c26 h
      refine lv_aload_n hx hb dX12_copy_258 rfl (lv_at hl 0 rfl) ?_
      refine z_get C0 in_X12_copy_X12 (C := RX12) (T := TX12) (N := 27) hw (k := 0) (ci := 12) (v := .ref (F 3)) rfl rfl rfl rfl 2 (by decide) rfl 3 rfl dX12_copy_259 ?_
      refine lv_sipush (v := 160) hx hb dX12_copy_262 (by decide) ?_
      refine lv_iload_n hx hb dX12_copy_265 rfl (lv_at hl 2 rfl) ?_
      refine lv_imul hx hb dX12_copy_266 ?_
      refine lv_iload hx hb dX12_copy_267 (lv_at hl 4 rfl) ?_
      refine lv_iadd hx hb dX12_copy_269 ?_
      refine lv_iload hx hb dX12_copy_270 (lv_at hl 6 rfl) ?_
      refine lv_iadd hx hb dX12_copy_272 ?_
      refine lv_aload_n hx hb dX12_copy_273 rfl (lv_at hl 0 rfl) ?_
      refine z_get C0 in_X12_copy_X12 (C := RX12) (T := TX12) (N := 27) hw (k := 0) (ci := 12) (v := .ref (F 3)) rfl rfl rfl rfl 2 (by decide) rfl 3 rfl dX12_copy_274 ?_
      refine lv_sipush (v := 160) hx hb dX12_copy_277 (by decide) ?_
      refine lv_iload_n hx hb dX12_copy_280 rfl (lv_at hl 1 rfl) ?_
      refine lv_imul hx hb dX12_copy_281 ?_
      refine lv_iload_n hx hb dX12_copy_282 rfl (lv_at hl 3 rfl) ?_
      refine lv_iadd hx hb dX12_copy_283 ?_
      refine lv_iload hx hb dX12_copy_284 (lv_at hl 6 rfl) ?_
      refine lv_iadd hx hb dX12_copy_286 ?_
      obtain ⟨b27, h⟩ := z_gd h
      refine z_lald C0 hw 3 rfl rfl zri_3 (zin_in b27) dX12_copy_287 ?_
      obtain ⟨b28, h⟩ := z_gd h
      refine z_lasts C0 hw hS 3 rfl rfl zri_3 (zin_in b28) dX12_copy_288 (fun H locs hw hS => ?_)
      refine lv_iinc (v := (x6 + 1)) (lv' := [(6, .int ((x6 + 1))), (0, .ref (F 0)), (1, .int x1), (2, .int x2), (3, .int x3), (4, .int x4), (5, .int x5)]) hx hb dX12_copy_289 hl (k := 6) rfl rfl (by decide) rfl (fun ls hl => ?_)
      refine lv_goto (tgt := 251) hx hb dX12_copy_292 (by decide) ?_
      exact ih ((zLs S 3 (Int32.toNatClampNeg (((((160 : Int32) * x2) + x4) + x6))) ((zlo S 3 (Int32.toNatClampNeg (((((160 : Int32) * x1) + x3) + x6))))))) x1 x2 x3 x4 x5 ((x6 + 1)) h _ _ _ hw hS (lv_sub hl [1, 2, 3, 4, 5, 6, 0] rfl)
def M_X12_copy_B248 (S : zSt) (x1 : Int32) (x2 : Int32) (x3 : Int32) (x4 : Int32) (x5 : Int32) : Option (Int32 × zSt) :=
  M_X12_copy_B251 zF S x1 x2 x3 x4 x5 0
set_option maxHeartbeats 4000000 in
set_option maxRecDepth 100000 in
theorem t_X12_copy_B248 {p : Program} {l : Launch} {e : Env} {s : State} {m : MethodId} {args : Array Value} {below : List Frame} {meth : Method} {c : Code} {D : va_G} {Y : Nat → ClassId} {F : Nat → Nat} {A : Nat → Prop} {G : zG} (C0 : zCx p s m args meth c D Y F A RX12 cX12_copy 7 (some .int) wsX12_copy) (res : Int32 × zSt) : ∀ (S : zSt) (x1 : Int32) (x2 : Int32) (x3 : Int32) (x4 : Int32) (x5 : Int32), M_X12_copy_B248 S x1 x2 x3 x4 x5 = some res → ∀ (H : Heap) (locs : List Loc) (ls : Array Slot), zH D Y F A G S H → va_S A s.heap H locs → lv_has ls 7 [(0, .ref (F 0)), (1, .int x1), (2, .int x2), (3, .int x3), (4, .int x4), (5, .int x5)] → W p l e (zRm 1 22) s m args below meth c H locs 0 0 (MQ below (zQi D Y F A G res) args s 0 0 A) (F0 m 248 ls []) := by
  obtain ⟨hx, hb, hml, hr, hown, hts, hK, hA, hlk, hN⟩ := id C0
  intro S x1 x2 x3 x4 x5 h H locs ls hw hS hl
  unfold M_X12_copy_B248 at h
  refine lv_iconst (v := 0) hx hb dX12_copy_248 (by decide) ?_
  refine lv_istore (lv' := [(6, .int 0), (0, .ref (F 0)), (1, .int x1), (2, .int x2), (3, .int x3), (4, .int x4), (5, .int x5)]) hx hb dX12_copy_249 hl (by decide) rfl (fun ls hl => ?_)
  exact t_X12_copy_B251 C0 res zF S x1 x2 x3 x4 x5 0 h _ _ _ hw hS (lv_sub hl [1, 2, 3, 4, 5, 6, 0] rfl)
def M_X12_copy_B203 : Nat → zSt → Int32 → Int32 → Int32 → Int32 → Int32 → Option (Int32 × zSt)
  | 0, _, _, _, _, _, _ => none
  | n + 1, S, x1, x2, x3, x4, x6 =>
  (if x6 < 0 then some (1, S) else zg (zin (((((160 : Int32) * x1) + x3) + x6)) 1280) (zg (zin (((((160 : Int32) * x2) + x4) + x6)) 1280) (M_X12_copy_B203 n ((zLs S 3 (Int32.toNatClampNeg (((((160 : Int32) * x2) + x4) + x6))) ((zlo S 3 (Int32.toNatClampNeg (((((160 : Int32) * x1) + x3) + x6))))))) x1 x2 x3 x4 ((x6 + (-1))))))
set_option maxHeartbeats 4000000 in
set_option maxRecDepth 100000 in
theorem t_X12_copy_B203 {p : Program} {l : Launch} {e : Env} {s : State} {m : MethodId} {args : Array Value} {below : List Frame} {meth : Method} {c : Code} {D : va_G} {Y : Nat → ClassId} {F : Nat → Nat} {A : Nat → Prop} {G : zG} (C0 : zCx p s m args meth c D Y F A RX12 cX12_copy 7 (some .int) wsX12_copy) (res : Int32 × zSt) : ∀ (n : Nat), ∀ (S : zSt) (x1 : Int32) (x2 : Int32) (x3 : Int32) (x4 : Int32) (x6 : Int32), M_X12_copy_B203 n S x1 x2 x3 x4 x6 = some res → ∀ (H : Heap) (locs : List Loc) (ls : Array Slot), zH D Y F A G S H → va_S A s.heap H locs → lv_has ls 7 [(0, .ref (F 0)), (1, .int x1), (2, .int x2), (3, .int x3), (4, .int x4), (6, .int x6)] → W p l e (zRm 1 22) s m args below meth c H locs 0 0 (MQ below (zQi D Y F A G res) args s 0 0 A) (F0 m 203 ls []) := by
  obtain ⟨hx, hb, hml, hr, hown, hts, hK, hA, hlk, hN⟩ := id C0
  intro n
  induction n with
  | zero =>
    intro S x1 x2 x3 x4 x6 h
    unfold M_X12_copy_B203 at h
    cases h
  | succ n ih =>
    intro S x1 x2 x3 x4 x6 h H locs ls hw hS hl
    rw [M_X12_copy_B203] at h
    refine lv_iload hx hb dX12_copy_203 (lv_at hl 5 rfl) ?_
    refine lv_if_lt (tgt := 245) hx hb dX12_copy_205 (by decide) (fun c30 => ?_) (fun c30 => ?_)
    · replace h := z_ifp c30 h
      refine lv_goto (tgt := 295) hx hb dX12_copy_245 (by decide) ?_
      refine lv_iconst (v := 1) hx hb dX12_copy_295 (by decide) ?_
      exact z_reti C0 hw hS (Option.some.inj h) dX12_copy_296
    · replace h := z_ifn c30 h
      refine lv_aload_n hx hb dX12_copy_208 rfl (lv_at hl 0 rfl) ?_
      refine z_get C0 in_X12_copy_X12 (C := RX12) (T := TX12) (N := 27) hw (k := 0) (ci := 12) (v := .ref (F 3)) rfl rfl rfl rfl 2 (by decide) rfl 3 rfl dX12_copy_209 ?_
      refine lv_sipush (v := 160) hx hb dX12_copy_212 (by decide) ?_
      refine lv_iload_n hx hb dX12_copy_215 rfl (lv_at hl 2 rfl) ?_
      refine lv_imul hx hb dX12_copy_216 ?_
      refine lv_iload hx hb dX12_copy_217 (lv_at hl 4 rfl) ?_
      refine lv_iadd hx hb dX12_copy_219 ?_
      refine lv_iload hx hb dX12_copy_220 (lv_at hl 5 rfl) ?_
      refine lv_iadd hx hb dX12_copy_222 ?_
      refine lv_aload_n hx hb dX12_copy_223 rfl (lv_at hl 0 rfl) ?_
      refine z_get C0 in_X12_copy_X12 (C := RX12) (T := TX12) (N := 27) hw (k := 0) (ci := 12) (v := .ref (F 3)) rfl rfl rfl rfl 2 (by decide) rfl 3 rfl dX12_copy_224 ?_
      refine lv_sipush (v := 160) hx hb dX12_copy_227 (by decide) ?_
      refine lv_iload_n hx hb dX12_copy_230 rfl (lv_at hl 1 rfl) ?_
      refine lv_imul hx hb dX12_copy_231 ?_
      refine lv_iload_n hx hb dX12_copy_232 rfl (lv_at hl 3 rfl) ?_
      refine lv_iadd hx hb dX12_copy_233 ?_
      refine lv_iload hx hb dX12_copy_234 (lv_at hl 5 rfl) ?_
      refine lv_iadd hx hb dX12_copy_236 ?_
      obtain ⟨b31, h⟩ := z_gd h
      refine z_lald C0 hw 3 rfl rfl zri_3 (zin_in b31) dX12_copy_237 ?_
      obtain ⟨b32, h⟩ := z_gd h
      refine z_lasts C0 hw hS 3 rfl rfl zri_3 (zin_in b32) dX12_copy_238 (fun H locs hw hS => ?_)
      refine lv_iinc (v := (x6 + (-1))) (lv' := [(6, .int ((x6 + (-1)))), (0, .ref (F 0)), (1, .int x1), (2, .int x2), (3, .int x3), (4, .int x4)]) hx hb dX12_copy_239 hl (k := 5) rfl rfl (by decide) rfl (fun ls hl => ?_)
      refine lv_goto (tgt := 203) hx hb dX12_copy_242 (by decide) ?_
      exact ih ((zLs S 3 (Int32.toNatClampNeg (((((160 : Int32) * x2) + x4) + x6))) ((zlo S 3 (Int32.toNatClampNeg (((((160 : Int32) * x1) + x3) + x6))))))) x1 x2 x3 x4 ((x6 + (-1))) h _ _ _ hw hS (lv_sub hl [1, 2, 3, 4, 5, 0] rfl)
def M_X12_copy_B98 (S : zSt) (x1 : Int32) (x2 : Int32) (x3 : Int32) (x4 : Int32) (x5 : Int32) : Option (Int32 × zSt) :=
  zg (zin x1 8) ((if (zar S 1 (Int32.toNatClampNeg x1)) < 0 then M_X12_copy_B116 S else zg (zin x2 8) ((if 0 ≤ (zar S 1 (Int32.toNatClampNeg x2)) then (if 0 ≤ x5 then (if x3 < 0 then M_X12_copy_B179 S else (if x4 < 0 then M_X12_copy_B179 S else zg (zin x1 8) ((if 0 < (lg_cmp (((Int32.toInt64 x3) + (Int32.toInt64 x5))) ((Int32.toInt64 ((zar S 2 (Int32.toNatClampNeg x1)))))) then M_X12_copy_B179 S else zg (zin x2 8) ((if (lg_cmp (((Int32.toInt64 x4) + (Int32.toInt64 x5))) ((Int32.toInt64 ((zar S 2 (Int32.toNatClampNeg x2)))))) ≤ 0 then (if x1 = x2 then (if x4 ≤ x3 then M_X12_copy_B248 S x1 x2 x3 x4 x5 else M_X12_copy_B203 zF S x1 x2 x3 x4 ((x5 - 1))) else M_X12_copy_B248 S x1 x2 x3 x4 x5) else M_X12_copy_B179 S)))))) else Option.bind (M_X12_no S (-4)) (fun w33 => some (w33.1, w33.2))) else M_X12_copy_B116 S))))
set_option maxHeartbeats 4000000 in
set_option maxRecDepth 100000 in
theorem t_X12_copy_B98 {p : Program} {l : Launch} {e : Env} {s : State} {m : MethodId} {args : Array Value} {below : List Frame} {meth : Method} {c : Code} {D : va_G} {Y : Nat → ClassId} {F : Nat → Nat} {A : Nat → Prop} {G : zG} (C0 : zCx p s m args meth c D Y F A RX12 cX12_copy 7 (some .int) wsX12_copy) (res : Int32 × zSt) : ∀ (S : zSt) (x1 : Int32) (x2 : Int32) (x3 : Int32) (x4 : Int32) (x5 : Int32), M_X12_copy_B98 S x1 x2 x3 x4 x5 = some res → ∀ (H : Heap) (locs : List Loc) (ls : Array Slot), zH D Y F A G S H → va_S A s.heap H locs → lv_has ls 7 [(0, .ref (F 0)), (1, .int x1), (2, .int x2), (3, .int x3), (4, .int x4), (5, .int x5)] → W p l e (zRm 1 22) s m args below meth c H locs 0 0 (MQ below (zQi D Y F A G res) args s 0 0 A) (F0 m 98 ls []) := by
  obtain ⟨hx, hb, hml, hr, hown, hts, hK, hA, hlk, hN⟩ := id C0
  intro S x1 x2 x3 x4 x5 h H locs ls hw hS hl
  unfold M_X12_copy_B98 at h
  refine lv_aload_n hx hb dX12_copy_98 rfl (lv_at hl 0 rfl) ?_
  refine z_get C0 in_X12_copy_X12 (C := RX12) (T := TX12) (N := 27) hw (k := 0) (ci := 12) (v := .ref (F 1)) rfl rfl rfl rfl 0 (by decide) rfl 1 rfl dX12_copy_99 ?_
  refine lv_iload_n hx hb dX12_copy_102 rfl (lv_at hl 1 rfl) ?_
  obtain ⟨b12, h⟩ := z_gd h
  refine z_iald C0 hw 1 rfl rfl zri_1 (zin_in b12) dX12_copy_103 ?_
  refine lv_if_lt (tgt := 116) hx hb dX12_copy_104 (by decide) (fun c13 => ?_) (fun c13 => ?_)
  · replace h := z_ifp c13 h
    exact t_X12_copy_B116 C0 res S h _ _ _ hw hS (lv_sub hl [0] rfl)
  · replace h := z_ifn c13 h
    refine lv_aload_n hx hb dX12_copy_107 rfl (lv_at hl 0 rfl) ?_
    refine z_get C0 in_X12_copy_X12 (C := RX12) (T := TX12) (N := 27) hw (k := 0) (ci := 12) (v := .ref (F 1)) rfl rfl rfl rfl 0 (by decide) rfl 1 rfl dX12_copy_108 ?_
    refine lv_iload_n hx hb dX12_copy_111 rfl (lv_at hl 2 rfl) ?_
    obtain ⟨b15, h⟩ := z_gd h
    refine z_iald C0 hw 1 rfl rfl zri_1 (zin_in b15) dX12_copy_112 ?_
    refine lv_if_ge (tgt := 123) hx hb dX12_copy_113 (by decide) (fun c16 => ?_) (fun c16 => ?_)
    · replace h := z_ifp c16 h
      refine lv_iload hx hb dX12_copy_123 (lv_at hl 5 rfl) ?_
      refine lv_if_ge (tgt := 135) hx hb dX12_copy_125 (by decide) (fun c17 => ?_) (fun c17 => ?_)
      · replace h := z_ifp c17 h
        refine lv_iload_n hx hb dX12_copy_135 rfl (lv_at hl 3 rfl) ?_
        refine lv_if_lt (tgt := 179) hx hb dX12_copy_136 (by decide) (fun c18 => ?_) (fun c18 => ?_)
        · replace h := z_ifp c18 h
          exact t_X12_copy_B179 C0 res S h _ _ _ hw hS (lv_sub hl [0] rfl)
        · replace h := z_ifn c18 h
          refine lv_iload hx hb dX12_copy_139 (lv_at hl 4 rfl) ?_
          refine lv_if_lt (tgt := 179) hx hb dX12_copy_141 (by decide) (fun c20 => ?_) (fun c20 => ?_)
          · replace h := z_ifp c20 h
            exact t_X12_copy_B179 C0 res S h _ _ _ hw hS (lv_sub hl [0] rfl)
          · replace h := z_ifn c20 h
            refine lv_iload_n hx hb dX12_copy_144 rfl (lv_at hl 3 rfl) ?_
            refine lv_i2l (v := (Int32.toInt64 x3)) hx hb dX12_copy_145 rfl ?_
            refine lv_iload hx hb dX12_copy_146 (lv_at hl 5 rfl) ?_
            refine lv_i2l (v := (Int32.toInt64 x5)) hx hb dX12_copy_148 rfl ?_
            refine lv_ladd hx hb dX12_copy_149 ?_
            refine lv_aload_n hx hb dX12_copy_150 rfl (lv_at hl 0 rfl) ?_
            refine z_get C0 in_X12_copy_X12 (C := RX12) (T := TX12) (N := 27) hw (k := 0) (ci := 12) (v := .ref (F 2)) rfl rfl rfl rfl 1 (by decide) rfl 2 rfl dX12_copy_151 ?_
            refine lv_iload_n hx hb dX12_copy_154 rfl (lv_at hl 1 rfl) ?_
            obtain ⟨b21, h⟩ := z_gd h
            refine z_iald C0 hw 2 rfl rfl zri_2 (zin_in b21) dX12_copy_155 ?_
            refine lv_i2l (v := (Int32.toInt64 ((zar S 2 (Int32.toNatClampNeg x1))))) hx hb dX12_copy_156 rfl ?_
            refine W.lcmp hx hb dX12_copy_157 ?_
            refine lv_if_gt (tgt := 179) hx hb dX12_copy_158 (by decide) (fun c22 => ?_) (fun c22 => ?_)
            · replace h := z_ifp c22 h
              exact t_X12_copy_B179 C0 res S h _ _ _ hw hS (lv_sub hl [0] rfl)
            · replace h := z_ifn c22 h
              refine lv_iload hx hb dX12_copy_161 (lv_at hl 4 rfl) ?_
              refine lv_i2l (v := (Int32.toInt64 x4)) hx hb dX12_copy_163 rfl ?_
              refine lv_iload hx hb dX12_copy_164 (lv_at hl 5 rfl) ?_
              refine lv_i2l (v := (Int32.toInt64 x5)) hx hb dX12_copy_166 rfl ?_
              refine lv_ladd hx hb dX12_copy_167 ?_
              refine lv_aload_n hx hb dX12_copy_168 rfl (lv_at hl 0 rfl) ?_
              refine z_get C0 in_X12_copy_X12 (C := RX12) (T := TX12) (N := 27) hw (k := 0) (ci := 12) (v := .ref (F 2)) rfl rfl rfl rfl 1 (by decide) rfl 2 rfl dX12_copy_169 ?_
              refine lv_iload_n hx hb dX12_copy_172 rfl (lv_at hl 2 rfl) ?_
              obtain ⟨b23, h⟩ := z_gd h
              refine z_iald C0 hw 2 rfl rfl zri_2 (zin_in b23) dX12_copy_173 ?_
              refine lv_i2l (v := (Int32.toInt64 ((zar S 2 (Int32.toNatClampNeg x2))))) hx hb dX12_copy_174 rfl ?_
              refine W.lcmp hx hb dX12_copy_175 ?_
              refine lv_if_le (tgt := 186) hx hb dX12_copy_176 (by decide) (fun c24 => ?_) (fun c24 => ?_)
              · replace h := z_ifp c24 h
                refine lv_iload_n hx hb dX12_copy_186 rfl (lv_at hl 1 rfl) ?_
                refine lv_iload_n hx hb dX12_copy_187 rfl (lv_at hl 2 rfl) ?_
                refine lv_icmp_ne (tgt := 248) hx hb dX12_copy_188 (by decide) (fun c25 => ?_) (fun c25 => ?_)
                · replace h := z_ifn c25 h
                  exact t_X12_copy_B248 C0 res S x1 x2 x3 x4 x5 h _ _ _ hw hS (lv_sub hl [0, 1, 2, 3, 4, 5] rfl)
                · replace h := z_ifp c25 h
                  refine lv_iload_n hx hb dX12_copy_191 rfl (lv_at hl 3 rfl) ?_
                  refine lv_iload hx hb dX12_copy_192 (lv_at hl 4 rfl) ?_
                  refine lv_icmp_ge (tgt := 248) hx hb dX12_copy_194 (by decide) (fun c29 => ?_) (fun c29 => ?_)
                  · replace h := z_ifp c29 h
                    exact t_X12_copy_B248 C0 res S x1 x2 x3 x4 x5 h _ _ _ hw hS (lv_sub hl [0, 1, 2, 3, 4, 5] rfl)
                  · replace h := z_ifn c29 h
                    refine lv_iload hx hb dX12_copy_197 (lv_at hl 5 rfl) ?_
                    refine lv_iconst (v := 1) hx hb dX12_copy_199 (by decide) ?_
                    refine lv_isub hx hb dX12_copy_200 ?_
                    refine lv_istore (lv' := [(6, .int ((x5 - 1))), (0, .ref (F 0)), (1, .int x1), (2, .int x2), (3, .int x3), (4, .int x4), (5, .int x5)]) hx hb dX12_copy_201 hl (by decide) rfl (fun ls hl => ?_)
                    exact t_X12_copy_B203 C0 res zF S x1 x2 x3 x4 ((x5 - 1)) h _ _ _ hw hS (lv_sub hl [1, 2, 3, 4, 5, 0] rfl)
              · replace h := z_ifn c24 h
                exact t_X12_copy_B179 C0 res S h _ _ _ hw hS (lv_sub hl [0] rfl)
      · replace h := z_ifn c17 h
        refine lv_aload_n hx hb dX12_copy_128 rfl (lv_at hl 0 rfl) ?_
        refine lv_bipush (v := (-4)) hx hb dX12_copy_129 (by decide) ?_
        obtain ⟨w33, ew33, h⟩ := z_bd h
        refine z_callVi0 C0 hw hS (k := 0) (As := [.int (-4)]) (rest := []) rfl rfl rfl rfl (c_X12_no l D Y F G S _ (-4) w33 ew33) (cwV 1 hts gX12_copy_X12_no rfl rfl rfl (by decide +kernel) ⟨Nat.le_of_ble_eq_true rfl, Nat.le_of_ble_eq_true rfl⟩) rfl hl.1 rfl (Nat.le_of_ble_eq_true rfl) dX12_copy_131 ⟨Nat.zero_le _, Nat.zero_le _⟩ (fun H locs hw hS => ?_)
        exact z_reti C0 hw hS (Option.some.inj h) dX12_copy_134
    · replace h := z_ifn c16 h
      exact t_X12_copy_B116 C0 res S h _ _ _ hw hS (lv_sub hl [0] rfl)
def M_X12_copy_B91 (S : zSt) : Option (Int32 × zSt) :=
  Option.bind (M_X12_no S (-2)) (fun w39 => some (w39.1, w39.2))
set_option maxHeartbeats 4000000 in
set_option maxRecDepth 100000 in
theorem t_X12_copy_B91 {p : Program} {l : Launch} {e : Env} {s : State} {m : MethodId} {args : Array Value} {below : List Frame} {meth : Method} {c : Code} {D : va_G} {Y : Nat → ClassId} {F : Nat → Nat} {A : Nat → Prop} {G : zG} (C0 : zCx p s m args meth c D Y F A RX12 cX12_copy 7 (some .int) wsX12_copy) (res : Int32 × zSt) : ∀ (S : zSt), M_X12_copy_B91 S = some res → ∀ (H : Heap) (locs : List Loc) (ls : Array Slot), zH D Y F A G S H → va_S A s.heap H locs → lv_has ls 7 [(0, .ref (F 0))] → W p l e (zRm 1 22) s m args below meth c H locs 0 0 (MQ below (zQi D Y F A G res) args s 0 0 A) (F0 m 91 ls []) := by
  obtain ⟨hx, hb, hml, hr, hown, hts, hK, hA, hlk, hN⟩ := id C0
  intro S h H locs ls hw hS hl
  unfold M_X12_copy_B91 at h
  refine lv_aload_n hx hb dX12_copy_91 rfl (lv_at hl 0 rfl) ?_
  refine lv_bipush (v := (-2)) hx hb dX12_copy_92 (by decide) ?_
  obtain ⟨w39, ew39, h⟩ := z_bd h
  refine z_callVi0 C0 hw hS (k := 0) (As := [.int (-2)]) (rest := []) rfl rfl rfl rfl (c_X12_no l D Y F G S _ (-2) w39 ew39) (cwV 1 hts gX12_copy_X12_no rfl rfl rfl (by decide +kernel) ⟨Nat.le_of_ble_eq_true rfl, Nat.le_of_ble_eq_true rfl⟩) rfl hl.1 rfl (Nat.le_of_ble_eq_true rfl) dX12_copy_94 ⟨Nat.zero_le _, Nat.zero_le _⟩ (fun H locs hw hS => ?_)
  exact z_reti C0 hw hS (Option.some.inj h) dX12_copy_97
def M_X12_copy_B60 (S : zSt) (x1 : Int32) (x2 : Int32) (x3 : Int32) (x4 : Int32) (x5 : Int32) : Option (Int32 × zSt) :=
  Option.bind (M_X12_isRow S x1) (fun w10 => (if w10 = 0 then M_X12_copy_B98 S x1 x2 x3 x4 x5 else Option.bind (M_X12_isRow S x2) (fun w34 => (if w34 = 0 then M_X12_copy_B98 S x1 x2 x3 x4 x5 else zg (zin x1 8) (zg (zin x2 8) ((if (zar S 1 (Int32.toNatClampNeg x1)) = (zar S 1 (Int32.toNatClampNeg x2)) then M_X12_copy_B98 S x1 x2 x3 x4 x5 else M_X12_copy_B91 S)))))))
set_option maxHeartbeats 4000000 in
set_option maxRecDepth 100000 in
theorem t_X12_copy_B60 {p : Program} {l : Launch} {e : Env} {s : State} {m : MethodId} {args : Array Value} {below : List Frame} {meth : Method} {c : Code} {D : va_G} {Y : Nat → ClassId} {F : Nat → Nat} {A : Nat → Prop} {G : zG} (C0 : zCx p s m args meth c D Y F A RX12 cX12_copy 7 (some .int) wsX12_copy) (res : Int32 × zSt) : ∀ (S : zSt) (x1 : Int32) (x2 : Int32) (x3 : Int32) (x4 : Int32) (x5 : Int32), M_X12_copy_B60 S x1 x2 x3 x4 x5 = some res → ∀ (H : Heap) (locs : List Loc) (ls : Array Slot), zH D Y F A G S H → va_S A s.heap H locs → lv_has ls 7 [(0, .ref (F 0)), (1, .int x1), (2, .int x2), (3, .int x3), (4, .int x4), (5, .int x5)] → W p l e (zRm 1 22) s m args below meth c H locs 0 0 (MQ below (zQi D Y F A G res) args s 0 0 A) (F0 m 60 ls []) := by
  obtain ⟨hx, hb, hml, hr, hown, hts, hK, hA, hlk, hN⟩ := id C0
  intro S x1 x2 x3 x4 x5 h H locs ls hw hS hl
  unfold M_X12_copy_B60 at h
  refine lv_aload_n hx hb dX12_copy_60 rfl (lv_at hl 0 rfl) ?_
  refine lv_iload_n hx hb dX12_copy_61 rfl (lv_at hl 1 rfl) ?_
  obtain ⟨w10, ew10, h⟩ := z_bd h
  refine z_callVip C0 hw hS (k := 0) (As := [.int x1]) (rest := []) rfl rfl rfl rfl (c_X12_isRow l D Y F G S _ x1 w10 ew10) (cwV 1 hts gX12_copy_X12_isRow rfl rfl rfl (by decide +kernel) ⟨Nat.le_of_ble_eq_true rfl, Nat.le_of_ble_eq_true rfl⟩) rfl hl.1 rfl (Nat.le_of_ble_eq_true rfl) dX12_copy_62 ⟨Nat.zero_le _, Nat.zero_le _⟩ (fun H locs hw hS => ?_)
  refine lv_if_eq (tgt := 98) hx hb dX12_copy_65 (by decide) (fun c11 => ?_) (fun c11 => ?_)
  · replace h := z_ifp c11 h
    exact t_X12_copy_B98 C0 res S x1 x2 x3 x4 x5 h _ _ _ hw hS (lv_sub hl [0, 1, 2, 3, 4, 5] rfl)
  · replace h := z_ifn c11 h
    refine lv_aload_n hx hb dX12_copy_68 rfl (lv_at hl 0 rfl) ?_
    refine lv_iload_n hx hb dX12_copy_69 rfl (lv_at hl 2 rfl) ?_
    obtain ⟨w34, ew34, h⟩ := z_bd h
    refine z_callVip C0 hw hS (k := 0) (As := [.int x2]) (rest := []) rfl rfl rfl rfl (c_X12_isRow l D Y F G S _ x2 w34 ew34) (cwV 1 hts gX12_copy_X12_isRow rfl rfl rfl (by decide +kernel) ⟨Nat.le_of_ble_eq_true rfl, Nat.le_of_ble_eq_true rfl⟩) rfl hl.1 rfl (Nat.le_of_ble_eq_true rfl) dX12_copy_70 ⟨Nat.zero_le _, Nat.zero_le _⟩ (fun H locs hw hS => ?_)
    refine lv_if_eq (tgt := 98) hx hb dX12_copy_73 (by decide) (fun c35 => ?_) (fun c35 => ?_)
    · replace h := z_ifp c35 h
      exact t_X12_copy_B98 C0 res S x1 x2 x3 x4 x5 h _ _ _ hw hS (lv_sub hl [0, 1, 2, 3, 4, 5] rfl)
    · replace h := z_ifn c35 h
      refine lv_aload_n hx hb dX12_copy_76 rfl (lv_at hl 0 rfl) ?_
      refine z_get C0 in_X12_copy_X12 (C := RX12) (T := TX12) (N := 27) hw (k := 0) (ci := 12) (v := .ref (F 1)) rfl rfl rfl rfl 0 (by decide) rfl 1 rfl dX12_copy_77 ?_
      refine lv_iload_n hx hb dX12_copy_80 rfl (lv_at hl 1 rfl) ?_
      obtain ⟨b36, h⟩ := z_gd h
      refine z_iald C0 hw 1 rfl rfl zri_1 (zin_in b36) dX12_copy_81 ?_
      refine lv_aload_n hx hb dX12_copy_82 rfl (lv_at hl 0 rfl) ?_
      refine z_get C0 in_X12_copy_X12 (C := RX12) (T := TX12) (N := 27) hw (k := 0) (ci := 12) (v := .ref (F 1)) rfl rfl rfl rfl 0 (by decide) rfl 1 rfl dX12_copy_83 ?_
      refine lv_iload_n hx hb dX12_copy_86 rfl (lv_at hl 2 rfl) ?_
      obtain ⟨b37, h⟩ := z_gd h
      refine z_iald C0 hw 1 rfl rfl zri_1 (zin_in b37) dX12_copy_87 ?_
      refine lv_icmp_eq (tgt := 98) hx hb dX12_copy_88 (by decide) (fun c38 => ?_) (fun c38 => ?_)
      · replace h := z_ifp c38 h
        exact t_X12_copy_B98 C0 res S x1 x2 x3 x4 x5 h _ _ _ hw hS (lv_sub hl [0, 1, 2, 3, 4, 5] rfl)
      · replace h := z_ifn c38 h
        exact t_X12_copy_B91 C0 res S h _ _ _ hw hS (lv_sub hl [0] rfl)
def M_X12_copy_B43 (S : zSt) (x1 : Int32) (x2 : Int32) (x3 : Int32) (x4 : Int32) (x5 : Int32) : Option (Int32 × zSt) :=
  zg (zin x2 8) ((if (zar S 1 (Int32.toNatClampNeg x2)) < 0 then M_X12_copy_B60 S x1 x2 x3 x4 x5 else Option.bind (M_X12_isRow S x2) (fun w40 => (if w40 = 0 then M_X12_copy_B91 S else M_X12_copy_B60 S x1 x2 x3 x4 x5))))
set_option maxHeartbeats 4000000 in
set_option maxRecDepth 100000 in
theorem t_X12_copy_B43 {p : Program} {l : Launch} {e : Env} {s : State} {m : MethodId} {args : Array Value} {below : List Frame} {meth : Method} {c : Code} {D : va_G} {Y : Nat → ClassId} {F : Nat → Nat} {A : Nat → Prop} {G : zG} (C0 : zCx p s m args meth c D Y F A RX12 cX12_copy 7 (some .int) wsX12_copy) (res : Int32 × zSt) : ∀ (S : zSt) (x1 : Int32) (x2 : Int32) (x3 : Int32) (x4 : Int32) (x5 : Int32), M_X12_copy_B43 S x1 x2 x3 x4 x5 = some res → ∀ (H : Heap) (locs : List Loc) (ls : Array Slot), zH D Y F A G S H → va_S A s.heap H locs → lv_has ls 7 [(0, .ref (F 0)), (1, .int x1), (2, .int x2), (3, .int x3), (4, .int x4), (5, .int x5)] → W p l e (zRm 1 22) s m args below meth c H locs 0 0 (MQ below (zQi D Y F A G res) args s 0 0 A) (F0 m 43 ls []) := by
  obtain ⟨hx, hb, hml, hr, hown, hts, hK, hA, hlk, hN⟩ := id C0
  intro S x1 x2 x3 x4 x5 h H locs ls hw hS hl
  unfold M_X12_copy_B43 at h
  refine lv_aload_n hx hb dX12_copy_43 rfl (lv_at hl 0 rfl) ?_
  refine z_get C0 in_X12_copy_X12 (C := RX12) (T := TX12) (N := 27) hw (k := 0) (ci := 12) (v := .ref (F 1)) rfl rfl rfl rfl 0 (by decide) rfl 1 rfl dX12_copy_44 ?_
  refine lv_iload_n hx hb dX12_copy_47 rfl (lv_at hl 2 rfl) ?_
  obtain ⟨b8, h⟩ := z_gd h
  refine z_iald C0 hw 1 rfl rfl zri_1 (zin_in b8) dX12_copy_48 ?_
  refine lv_if_lt (tgt := 60) hx hb dX12_copy_49 (by decide) (fun c9 => ?_) (fun c9 => ?_)
  · replace h := z_ifp c9 h
    exact t_X12_copy_B60 C0 res S x1 x2 x3 x4 x5 h _ _ _ hw hS (lv_sub hl [0, 1, 2, 3, 4, 5] rfl)
  · replace h := z_ifn c9 h
    refine lv_aload_n hx hb dX12_copy_52 rfl (lv_at hl 0 rfl) ?_
    refine lv_iload_n hx hb dX12_copy_53 rfl (lv_at hl 2 rfl) ?_
    obtain ⟨w40, ew40, h⟩ := z_bd h
    refine z_callVip C0 hw hS (k := 0) (As := [.int x2]) (rest := []) rfl rfl rfl rfl (c_X12_isRow l D Y F G S _ x2 w40 ew40) (cwV 1 hts gX12_copy_X12_isRow rfl rfl rfl (by decide +kernel) ⟨Nat.le_of_ble_eq_true rfl, Nat.le_of_ble_eq_true rfl⟩) rfl hl.1 rfl (Nat.le_of_ble_eq_true rfl) dX12_copy_54 ⟨Nat.zero_le _, Nat.zero_le _⟩ (fun H locs hw hS => ?_)
    refine lv_if_eq (tgt := 91) hx hb dX12_copy_57 (by decide) (fun c41 => ?_) (fun c41 => ?_)
    · replace h := z_ifp c41 h
      exact t_X12_copy_B91 C0 res S h _ _ _ hw hS (lv_sub hl [0] rfl)
    · replace h := z_ifn c41 h
      exact t_X12_copy_B60 C0 res S x1 x2 x3 x4 x5 h _ _ _ hw hS (lv_sub hl [0, 1, 2, 3, 4, 5] rfl)
def M_X12_copy (S : zSt) (x1 : Int32) (x2 : Int32) (x3 : Int32) (x4 : Int32) (x5 : Int32) : Option (Int32 × zSt) :=
  Option.bind (M_X12_within S x1 0 7) (fun w1 => (if w1 = 0 then M_X12_copy_B20 S else Option.bind (M_X12_within S x2 0 7) (fun w4 => (if w4 = 0 then M_X12_copy_B20 S else zg (zin x1 8) ((if (zar S 1 (Int32.toNatClampNeg x1)) < 0 then M_X12_copy_B43 S x1 x2 x3 x4 x5 else Option.bind (M_X12_isRow S x1) (fun w42 => (if w42 = 0 then M_X12_copy_B91 S else M_X12_copy_B43 S x1 x2 x3 x4 x5))))))))
set_option maxHeartbeats 4000000 in
set_option maxRecDepth 100000 in
theorem c_X12_copy (l : Launch) (D : va_G) (Y : Nat → ClassId) (F : Nat → Nat) (G : zG) (S : zSt) (sz : Nat) (x1 : Int32) (x2 : Int32) (x3 : Int32) (x4 : Int32) (x5 : Int32) (res : Int32 × zSt) (h : M_X12_copy S x1 x2 x3 x4 x5 = some res) : Met l yX12_copy wsX12_copy (zRm 1 22) (zPc D Y F G S sz [.ref (F 0), .int x1, .int x2, .int x3, .int x4, .int x5]) (zQi D Y F (zAo F G sz) G res) 0 0 (zAo F G sz) := by
  unfold M_X12_copy at h
  refine zMet (cc := cX12_copy) (maxL := 7) (ret := (some .int)) (own := RX12) (by decide +kernel) rfl rfl (Nat.le_of_ble_eq_true rfl) ?_
  intro p e s m args below meth c C0 hin hw hS ls hl
  have hl : lv_has ls 7 [(0, .ref (F 0)), (1, .int x1), (2, .int x2), (3, .int x3), (4, .int x4), (5, .int x5)] := hl
  generalize zAo F G sz = A at C0 hw hS ⊢
  obtain ⟨hx, hb, hml, hr, hown, hts, hK, hA, hlk, hN⟩ := id C0
  refine lv_iload_n hx hb dX12_copy_0 rfl (lv_at hl 1 rfl) ?_
  refine lv_iconst (v := 0) hx hb dX12_copy_1 (by decide) ?_
  refine lv_bipush (v := 7) hx hb dX12_copy_2 (by decide) ?_
  obtain ⟨w1, ew1, h⟩ := z_bd h
  refine z_callSip C0 hw hS (As := [.int x1, .int 0, .int 7]) (rest := []) (c_X12_within l D Y F G S _ x1 0 7 w1 ew1) (va_cwS 3 hts gX12_copy_X12_within rfl rfl rfl (by decide +kernel) ⟨Nat.le_of_ble_eq_true rfl, Nat.le_of_ble_eq_true rfl⟩) rfl hl.1 rfl (Nat.le_of_ble_eq_true rfl) dX12_copy_4 ⟨Nat.zero_le _, Nat.zero_le _⟩ (fun H locs hw hS => ?_)
  refine lv_if_eq (tgt := 20) hx hb dX12_copy_7 (by decide) (fun c2 => ?_) (fun c2 => ?_)
  · replace h := z_ifp c2 h
    exact t_X12_copy_B20 C0 res S h _ _ _ hw hS (lv_sub hl [0] rfl)
  · replace h := z_ifn c2 h
    refine lv_iload_n hx hb dX12_copy_10 rfl (lv_at hl 2 rfl) ?_
    refine lv_iconst (v := 0) hx hb dX12_copy_11 (by decide) ?_
    refine lv_bipush (v := 7) hx hb dX12_copy_12 (by decide) ?_
    obtain ⟨w4, ew4, h⟩ := z_bd h
    refine z_callSip C0 hw hS (As := [.int x2, .int 0, .int 7]) (rest := []) (c_X12_within l D Y F G S _ x2 0 7 w4 ew4) (va_cwS 3 hts gX12_copy_X12_within rfl rfl rfl (by decide +kernel) ⟨Nat.le_of_ble_eq_true rfl, Nat.le_of_ble_eq_true rfl⟩) rfl hl.1 rfl (Nat.le_of_ble_eq_true rfl) dX12_copy_14 ⟨Nat.zero_le _, Nat.zero_le _⟩ (fun H locs hw hS => ?_)
    refine lv_if_ne (tgt := 26) hx hb dX12_copy_17 (by decide) (fun c5 => ?_) (fun c5 => ?_)
    · replace h := z_ifn c5 h
      refine lv_aload_n hx hb dX12_copy_26 rfl (lv_at hl 0 rfl) ?_
      refine z_get C0 in_X12_copy_X12 (C := RX12) (T := TX12) (N := 27) hw (k := 0) (ci := 12) (v := .ref (F 1)) rfl rfl rfl rfl 0 (by decide) rfl 1 rfl dX12_copy_27 ?_
      refine lv_iload_n hx hb dX12_copy_30 rfl (lv_at hl 1 rfl) ?_
      obtain ⟨b6, h⟩ := z_gd h
      refine z_iald C0 hw 1 rfl rfl zri_1 (zin_in b6) dX12_copy_31 ?_
      refine lv_if_lt (tgt := 43) hx hb dX12_copy_32 (by decide) (fun c7 => ?_) (fun c7 => ?_)
      · replace h := z_ifp c7 h
        exact t_X12_copy_B43 C0 res S x1 x2 x3 x4 x5 h _ _ _ hw hS (lv_sub hl [0, 1, 2, 3, 4, 5] rfl)
      · replace h := z_ifn c7 h
        refine lv_aload_n hx hb dX12_copy_35 rfl (lv_at hl 0 rfl) ?_
        refine lv_iload_n hx hb dX12_copy_36 rfl (lv_at hl 1 rfl) ?_
        obtain ⟨w42, ew42, h⟩ := z_bd h
        refine z_callVip C0 hw hS (k := 0) (As := [.int x1]) (rest := []) rfl rfl rfl rfl (c_X12_isRow l D Y F G S _ x1 w42 ew42) (cwV 1 hts gX12_copy_X12_isRow rfl rfl rfl (by decide +kernel) ⟨Nat.le_of_ble_eq_true rfl, Nat.le_of_ble_eq_true rfl⟩) rfl hl.1 rfl (Nat.le_of_ble_eq_true rfl) dX12_copy_37 ⟨Nat.zero_le _, Nat.zero_le _⟩ (fun H locs hw hS => ?_)
        refine lv_if_eq (tgt := 91) hx hb dX12_copy_40 (by decide) (fun c43 => ?_) (fun c43 => ?_)
        · replace h := z_ifp c43 h
          exact t_X12_copy_B91 C0 res S h _ _ _ hw hS (lv_sub hl [0] rfl)
        · replace h := z_ifn c43 h
          exact t_X12_copy_B43 C0 res S x1 x2 x3 x4 x5 h _ _ _ hw hS (lv_sub hl [0, 1, 2, 3, 4, 5] rfl)
    · replace h := z_ifp c5 h
      exact t_X12_copy_B20 C0 res S h _ _ _ hw hS (lv_sub hl [0] rfl)
def M_X12_element_B49 (S : zSt) : Option (Int64) :=
  some ((0 : Int64))
set_option maxHeartbeats 4000000 in
set_option maxRecDepth 100000 in
theorem t_X12_element_B49 {p : Program} {l : Launch} {e : Env} {s : State} {m : MethodId} {args : Array Value} {below : List Frame} {meth : Method} {c : Code} {D : va_G} {Y : Nat → ClassId} {F : Nat → Nat} {A : Nat → Prop} {G : zG} (C0 : zCx p s m args meth c D Y F A RX12 cX12_element 3 (some .long) wsX12_element) (S : zSt) (res : Int64) : M_X12_element_B49 S = some res → ∀ (H : Heap) (locs : List Loc) (ls : Array Slot), zH D Y F A G S H → va_S A s.heap H locs → lv_has ls 3 [] → W p l e (zRm 1 22) s m args below meth c H locs 0 0 (MQ below (zQl D Y F A G (res, S)) args s 0 0 A) (F0 m 49 ls []) := by
  obtain ⟨hx, hb, hml, hr, hown, hts, hK, hA, hlk, hN⟩ := id C0
  intro h H locs ls hw hS hl
  unfold M_X12_element_B49 at h
  refine lv_lconst (v := 0) hx hb dX12_element_49 rfl ?_
  exact z_retl C0 hw hS (congrArg (fun z => (z, S)) (Option.some.inj h)) dX12_element_50
def M_X12_element (S : zSt) (x1 : Int32) (x2 : Int32) : Option (Int64) :=
  Option.bind (M_X12_within S x1 0 7) (fun w1 => (if w1 = 0 then M_X12_element_B49 S else Option.bind (M_X12_isRow S x1) (fun w3 => (if w3 = 0 then M_X12_element_B49 S else zg (zin x1 8) (Option.bind (M_X12_within S x2 0 (((zar S 2 (Int32.toNatClampNeg x1)) - 1))) (fun w6 => (if w6 = 0 then M_X12_element_B49 S else zg (zin ((((160 : Int32) * x1) + x2)) 1280) (some ((zlo S 3 (Int32.toNatClampNeg ((((160 : Int32) * x1) + x2)))))))))))))
set_option maxHeartbeats 4000000 in
set_option maxRecDepth 100000 in
theorem c_X12_element (l : Launch) (D : va_G) (Y : Nat → ClassId) (F : Nat → Nat) (G : zG) (S : zSt) (sz : Nat) (x1 : Int32) (x2 : Int32) (res : Int64) (h : M_X12_element S x1 x2 = some res) : Met l yX12_element wsX12_element (zRm 1 22) (zPc D Y F G S sz [.ref (F 0), .int x1, .int x2]) (zQl D Y F (zAo F G sz) G (res, S)) 0 0 (zAo F G sz) := by
  unfold M_X12_element at h
  refine zMet (cc := cX12_element) (maxL := 3) (ret := (some .long)) (own := RX12) (by decide +kernel) rfl rfl (Nat.le_of_ble_eq_true rfl) ?_
  intro p e s m args below meth c C0 hin hw hS ls hl
  have hl : lv_has ls 3 [(0, .ref (F 0)), (1, .int x1), (2, .int x2)] := hl
  generalize zAo F G sz = A at C0 hw hS ⊢
  obtain ⟨hx, hb, hml, hr, hown, hts, hK, hA, hlk, hN⟩ := id C0
  refine lv_iload_n hx hb dX12_element_0 rfl (lv_at hl 1 rfl) ?_
  refine lv_iconst (v := 0) hx hb dX12_element_1 (by decide) ?_
  refine lv_bipush (v := 7) hx hb dX12_element_2 (by decide) ?_
  obtain ⟨w1, ew1, h⟩ := z_bd h
  refine z_callSip C0 hw hS (As := [.int x1, .int 0, .int 7]) (rest := []) (c_X12_within l D Y F G S _ x1 0 7 w1 ew1) (va_cwS 3 hts gX12_element_X12_within rfl rfl rfl (by decide +kernel) ⟨Nat.le_of_ble_eq_true rfl, Nat.le_of_ble_eq_true rfl⟩) rfl hl.1 rfl (Nat.le_of_ble_eq_true rfl) dX12_element_4 ⟨Nat.zero_le _, Nat.zero_le _⟩ (fun H locs hw hS => ?_)
  refine lv_if_eq (tgt := 49) hx hb dX12_element_7 (by decide) (fun c2 => ?_) (fun c2 => ?_)
  · replace h := z_ifp c2 h
    exact t_X12_element_B49 C0 S res h _ _ _ hw hS (lv_sub hl [] rfl)
  · replace h := z_ifn c2 h
    refine lv_aload_n hx hb dX12_element_10 rfl (lv_at hl 0 rfl) ?_
    refine lv_iload_n hx hb dX12_element_11 rfl (lv_at hl 1 rfl) ?_
    obtain ⟨w3, ew3, h⟩ := z_bd h
    refine z_callVip C0 hw hS (k := 0) (As := [.int x1]) (rest := []) rfl rfl rfl rfl (c_X12_isRow l D Y F G S _ x1 w3 ew3) (cwV 1 hts gX12_element_X12_isRow rfl rfl rfl (by decide +kernel) ⟨Nat.le_of_ble_eq_true rfl, Nat.le_of_ble_eq_true rfl⟩) rfl hl.1 rfl (Nat.le_of_ble_eq_true rfl) dX12_element_12 ⟨Nat.zero_le _, Nat.zero_le _⟩ (fun H locs hw hS => ?_)
    refine lv_if_eq (tgt := 49) hx hb dX12_element_15 (by decide) (fun c4 => ?_) (fun c4 => ?_)
    · replace h := z_ifp c4 h
      exact t_X12_element_B49 C0 S res h _ _ _ hw hS (lv_sub hl [] rfl)
    · replace h := z_ifn c4 h
      refine lv_iload_n hx hb dX12_element_18 rfl (lv_at hl 2 rfl) ?_
      refine lv_iconst (v := 0) hx hb dX12_element_19 (by decide) ?_
      refine lv_aload_n hx hb dX12_element_20 rfl (lv_at hl 0 rfl) ?_
      refine z_get C0 in_X12_element_X12 (C := RX12) (T := TX12) (N := 27) hw (k := 0) (ci := 12) (v := .ref (F 2)) rfl rfl rfl rfl 1 (by decide) rfl 1 rfl dX12_element_21 ?_
      refine lv_iload_n hx hb dX12_element_24 rfl (lv_at hl 1 rfl) ?_
      obtain ⟨b5, h⟩ := z_gd h
      refine z_iald C0 hw 2 rfl rfl zri_2 (zin_in b5) dX12_element_25 ?_
      refine lv_iconst (v := 1) hx hb dX12_element_26 (by decide) ?_
      refine lv_isub hx hb dX12_element_27 ?_
      obtain ⟨w6, ew6, h⟩ := z_bd h
      refine z_callSip C0 hw hS (As := [.int x2, .int 0, .int (((zar S 2 (Int32.toNatClampNeg x1)) - 1))]) (rest := []) (c_X12_within l D Y F G S _ x2 0 (((zar S 2 (Int32.toNatClampNeg x1)) - 1)) w6 ew6) (va_cwS 3 hts gX12_element_X12_within rfl rfl rfl (by decide +kernel) ⟨Nat.le_of_ble_eq_true rfl, Nat.le_of_ble_eq_true rfl⟩) rfl hl.1 rfl (Nat.le_of_ble_eq_true rfl) dX12_element_28 ⟨Nat.zero_le _, Nat.zero_le _⟩ (fun H locs hw hS => ?_)
      refine lv_if_eq (tgt := 49) hx hb dX12_element_31 (by decide) (fun c7 => ?_) (fun c7 => ?_)
      · replace h := z_ifp c7 h
        exact t_X12_element_B49 C0 S res h _ _ _ hw hS (lv_sub hl [] rfl)
      · replace h := z_ifn c7 h
        refine lv_aload_n hx hb dX12_element_34 rfl (lv_at hl 0 rfl) ?_
        refine z_get C0 in_X12_element_X12 (C := RX12) (T := TX12) (N := 27) hw (k := 0) (ci := 12) (v := .ref (F 3)) rfl rfl rfl rfl 2 (by decide) rfl 2 rfl dX12_element_35 ?_
        refine lv_sipush (v := 160) hx hb dX12_element_38 (by decide) ?_
        refine lv_iload_n hx hb dX12_element_41 rfl (lv_at hl 1 rfl) ?_
        refine lv_imul hx hb dX12_element_42 ?_
        refine lv_iload_n hx hb dX12_element_43 rfl (lv_at hl 2 rfl) ?_
        refine lv_iadd hx hb dX12_element_44 ?_
        obtain ⟨b8, h⟩ := z_gd h
        refine z_lald C0 hw 3 rfl rfl zri_3 (zin_in b8) dX12_element_45 ?_
        refine lv_goto (tgt := 50) hx hb dX12_element_46 (by decide) ?_
        exact z_retl C0 hw hS (congrArg (fun z => (z, S)) (Option.some.inj h)) dX12_element_50
def M_X12_show_B23 (S : zSt) : Option (Int32 × zSt) :=
  Option.bind (M_X12_no S (-1)) (fun w3 => some (w3.1, w3.2))
set_option maxHeartbeats 4000000 in
set_option maxRecDepth 100000 in
theorem t_X12_show_B23 {p : Program} {l : Launch} {e : Env} {s : State} {m : MethodId} {args : Array Value} {below : List Frame} {meth : Method} {c : Code} {D : va_G} {Y : Nat → ClassId} {F : Nat → Nat} {A : Nat → Prop} {G : zG} (C0 : zCx p s m args meth c D Y F A RX12 cX12_show 3 (some .int) wsX12_show) (res : Int32 × zSt) : ∀ (S : zSt), M_X12_show_B23 S = some res → ∀ (H : Heap) (locs : List Loc) (ls : Array Slot), zH D Y F A G S H → va_S A s.heap H locs → lv_has ls 3 [(0, .ref (F 0))] → W p l e (zRm 2 43) s m args below meth c H locs 0 0 (MQ below (zQi D Y F A G res) args s 0 0 A) (F0 m 23 ls []) := by
  obtain ⟨hx, hb, hml, hr, hown, hts, hK, hA, hlk, hN⟩ := id C0
  intro S h H locs ls hw hS hl
  unfold M_X12_show_B23 at h
  refine lv_aload_n hx hb dX12_show_23 rfl (lv_at hl 0 rfl) ?_
  refine lv_iconst (v := (-1)) hx hb dX12_show_24 (by decide) ?_
  obtain ⟨w3, ew3, h⟩ := z_bd h
  refine z_callVi0 C0 hw hS (k := 0) (As := [.int (-1)]) (rest := []) rfl rfl rfl rfl (c_X12_no l D Y F G S _ (-1) w3 ew3) (cwV 1 hts gX12_show_X12_no rfl rfl rfl (by decide +kernel) ⟨Nat.le_of_ble_eq_true rfl, Nat.le_of_ble_eq_true rfl⟩) rfl hl.1 rfl (Nat.le_of_ble_eq_true rfl) dX12_show_25 ⟨Nat.zero_le _, Nat.zero_le _⟩ (fun H locs hw hS => ?_)
  exact z_reti C0 hw hS (Option.some.inj h) dX12_show_28
def M_X12_show_B29 (S : zSt) (x1 : Int32) (x2 : Int32) : Option (Int32 × zSt) :=
  zg (zin x1 8) ((if x2 = (-1) then some (0, (zAs S 1 (Int32.toNatClampNeg x1) x2)) else some (1, (zAs S 1 (Int32.toNatClampNeg x1) x2))))
set_option maxHeartbeats 4000000 in
set_option maxRecDepth 100000 in
theorem t_X12_show_B29 {p : Program} {l : Launch} {e : Env} {s : State} {m : MethodId} {args : Array Value} {below : List Frame} {meth : Method} {c : Code} {D : va_G} {Y : Nat → ClassId} {F : Nat → Nat} {A : Nat → Prop} {G : zG} (C0 : zCx p s m args meth c D Y F A RX12 cX12_show 3 (some .int) wsX12_show) (res : Int32 × zSt) : ∀ (S : zSt) (x1 : Int32) (x2 : Int32), M_X12_show_B29 S x1 x2 = some res → ∀ (H : Heap) (locs : List Loc) (ls : Array Slot), zH D Y F A G S H → va_S A s.heap H locs → lv_has ls 3 [(0, .ref (F 0)), (1, .int x1), (2, .int x2)] → W p l e (zRm 2 43) s m args below meth c H locs 0 0 (MQ below (zQi D Y F A G res) args s 0 0 A) (F0 m 29 ls []) := by
  obtain ⟨hx, hb, hml, hr, hown, hts, hK, hA, hlk, hN⟩ := id C0
  intro S x1 x2 h H locs ls hw hS hl
  unfold M_X12_show_B29 at h
  refine lv_aload_n hx hb dX12_show_29 rfl (lv_at hl 0 rfl) ?_
  refine z_get C0 in_X12_show_X12 (C := RX12) (T := TX12) (N := 27) hw (k := 0) (ci := 12) (v := .ref (F 1)) rfl rfl rfl rfl 0 (by decide) rfl 1 rfl dX12_show_30 ?_
  refine lv_iload_n hx hb dX12_show_33 rfl (lv_at hl 1 rfl) ?_
  refine lv_iload_n hx hb dX12_show_34 rfl (lv_at hl 2 rfl) ?_
  obtain ⟨b5, h⟩ := z_gd h
  refine z_iasts C0 hw hS 1 rfl rfl zri_1 (zin_in b5) dX12_show_35 (fun H locs hw hS => ?_)
  refine lv_iload_n hx hb dX12_show_36 rfl (lv_at hl 2 rfl) ?_
  refine lv_iconst (v := (-1)) hx hb dX12_show_37 (by decide) ?_
  refine lv_icmp_ne (tgt := 45) hx hb dX12_show_38 (by decide) (fun c6 => ?_) (fun c6 => ?_)
  · replace h := z_ifn c6 h
    refine lv_iconst (v := 1) hx hb dX12_show_45 (by decide) ?_
    exact z_reti C0 hw hS (Option.some.inj h) dX12_show_46
  · replace h := z_ifp c6 h
    refine lv_iconst (v := 0) hx hb dX12_show_41 (by decide) ?_
    refine lv_goto (tgt := 46) hx hb dX12_show_42 (by decide) ?_
    exact z_reti C0 hw hS (Option.some.inj h) dX12_show_46
def M_X12_show (S : zSt) (x1 : Int32) (x2 : Int32) : Option (Int32 × zSt) :=
  Option.bind (M_X12_within S x1 0 7) (fun w1 => (if w1 = 0 then M_X12_show_B23 S else (if x2 = (-1) then M_X12_show_B29 S x1 x2 else Option.bind (M_X12_isPerson S x2) (fun w7 => (if w7 = 0 then M_X12_show_B23 S else M_X12_show_B29 S x1 x2)))))
set_option maxHeartbeats 4000000 in
set_option maxRecDepth 100000 in
theorem c_X12_show (l : Launch) (D : va_G) (Y : Nat → ClassId) (F : Nat → Nat) (G : zG) (S : zSt) (sz : Nat) (x1 : Int32) (x2 : Int32) (res : Int32 × zSt) (h : M_X12_show S x1 x2 = some res) : Met l yX12_show wsX12_show (zRm 2 43) (zPc D Y F G S sz [.ref (F 0), .int x1, .int x2]) (zQi D Y F (zAo F G sz) G res) 0 0 (zAo F G sz) := by
  unfold M_X12_show at h
  refine zMet (cc := cX12_show) (maxL := 3) (ret := (some .int)) (own := RX12) (by decide +kernel) rfl rfl (Nat.le_of_ble_eq_true rfl) ?_
  intro p e s m args below meth c C0 hin hw hS ls hl
  have hl : lv_has ls 3 [(0, .ref (F 0)), (1, .int x1), (2, .int x2)] := hl
  generalize zAo F G sz = A at C0 hw hS ⊢
  obtain ⟨hx, hb, hml, hr, hown, hts, hK, hA, hlk, hN⟩ := id C0
  refine lv_iload_n hx hb dX12_show_0 rfl (lv_at hl 1 rfl) ?_
  refine lv_iconst (v := 0) hx hb dX12_show_1 (by decide) ?_
  refine lv_bipush (v := 7) hx hb dX12_show_2 (by decide) ?_
  obtain ⟨w1, ew1, h⟩ := z_bd h
  refine z_callSip C0 hw hS (As := [.int x1, .int 0, .int 7]) (rest := []) (c_X12_within l D Y F G S _ x1 0 7 w1 ew1) (va_cwS 3 hts gX12_show_X12_within rfl rfl rfl (by decide +kernel) ⟨Nat.le_of_ble_eq_true rfl, Nat.le_of_ble_eq_true rfl⟩) rfl hl.1 rfl (Nat.le_of_ble_eq_true rfl) dX12_show_4 ⟨Nat.zero_le _, Nat.zero_le _⟩ (fun H locs hw hS => ?_)
  refine lv_if_eq (tgt := 23) hx hb dX12_show_7 (by decide) (fun c2 => ?_) (fun c2 => ?_)
  · replace h := z_ifp c2 h
    exact t_X12_show_B23 C0 res S h _ _ _ hw hS (lv_sub hl [0] rfl)
  · replace h := z_ifn c2 h
    refine lv_iload_n hx hb dX12_show_10 rfl (lv_at hl 2 rfl) ?_
    refine lv_iconst (v := (-1)) hx hb dX12_show_11 (by decide) ?_
    refine lv_icmp_eq (tgt := 29) hx hb dX12_show_12 (by decide) (fun c4 => ?_) (fun c4 => ?_)
    · replace h := z_ifp c4 h
      exact t_X12_show_B29 C0 res S x1 x2 h _ _ _ hw hS (lv_sub hl [0, 1, 2] rfl)
    · replace h := z_ifn c4 h
      refine lv_aload_n hx hb dX12_show_15 rfl (lv_at hl 0 rfl) ?_
      refine lv_iload_n hx hb dX12_show_16 rfl (lv_at hl 2 rfl) ?_
      obtain ⟨w7, ew7, h⟩ := z_bd h
      refine z_callVip C0 hw hS (k := 0) (As := [.int x2]) (rest := []) rfl rfl rfl rfl (c_X12_isPerson l D Y F G S _ x2 w7 ew7) (cwV 1 hts gX12_show_X12_isPerson rfl rfl rfl (by decide +kernel) ⟨Nat.le_of_ble_eq_true rfl, Nat.le_of_ble_eq_true rfl⟩) rfl hl.1 rfl (Nat.le_of_ble_eq_true rfl) dX12_show_17 ⟨Nat.zero_le _, Nat.zero_le _⟩ (fun H locs hw hS => ?_)
      refine lv_if_ne (tgt := 29) hx hb dX12_show_20 (by decide) (fun c8 => ?_) (fun c8 => ?_)
      · replace h := z_ifn c8 h
        exact t_X12_show_B29 C0 res S x1 x2 h _ _ _ hw hS (lv_sub hl [0, 1, 2] rfl)
      · replace h := z_ifp c8 h
        exact t_X12_show_B23 C0 res S h _ _ _ hw hS (lv_sub hl [0] rfl)
def M_X12_holds (S : zSt) (x1 : Int32) : Option (Int32) :=
  Option.bind (M_X12_within S x1 0 7) (fun w1 => (if w1 = 0 then some (-1) else zg (zin x1 8) (some ((zar S 1 (Int32.toNatClampNeg x1))))))
set_option maxHeartbeats 4000000 in
set_option maxRecDepth 100000 in
theorem c_X12_holds (l : Launch) (D : va_G) (Y : Nat → ClassId) (F : Nat → Nat) (G : zG) (S : zSt) (sz : Nat) (x1 : Int32) (res : Int32) (h : M_X12_holds S x1 = some res) : Met l yX12_holds wsX12_holds (zRm 1 22) (zPc D Y F G S sz [.ref (F 0), .int x1]) (zQi D Y F (zAo F G sz) G (res, S)) 0 0 (zAo F G sz) := by
  unfold M_X12_holds at h
  refine zMet (cc := cX12_holds) (maxL := 2) (ret := (some .int)) (own := RX12) (by decide +kernel) rfl rfl (Nat.le_of_ble_eq_true rfl) ?_
  intro p e s m args below meth c C0 hin hw hS ls hl
  have hl : lv_has ls 2 [(0, .ref (F 0)), (1, .int x1)] := hl
  generalize zAo F G sz = A at C0 hw hS ⊢
  obtain ⟨hx, hb, hml, hr, hown, hts, hK, hA, hlk, hN⟩ := id C0
  refine lv_iload_n hx hb dX12_holds_0 rfl (lv_at hl 1 rfl) ?_
  refine lv_iconst (v := 0) hx hb dX12_holds_1 (by decide) ?_
  refine lv_bipush (v := 7) hx hb dX12_holds_2 (by decide) ?_
  obtain ⟨w1, ew1, h⟩ := z_bd h
  refine z_callSip C0 hw hS (As := [.int x1, .int 0, .int 7]) (rest := []) (c_X12_within l D Y F G S _ x1 0 7 w1 ew1) (va_cwS 3 hts gX12_holds_X12_within rfl rfl rfl (by decide +kernel) ⟨Nat.le_of_ble_eq_true rfl, Nat.le_of_ble_eq_true rfl⟩) rfl hl.1 rfl (Nat.le_of_ble_eq_true rfl) dX12_holds_4 ⟨Nat.zero_le _, Nat.zero_le _⟩ (fun H locs hw hS => ?_)
  refine lv_if_eq (tgt := 19) hx hb dX12_holds_7 (by decide) (fun c2 => ?_) (fun c2 => ?_)
  · replace h := z_ifp c2 h
    refine lv_iconst (v := (-1)) hx hb dX12_holds_19 (by decide) ?_
    exact z_reti C0 hw hS (congrArg (fun z => (z, S)) (Option.some.inj h)) dX12_holds_20
  · replace h := z_ifn c2 h
    refine lv_aload_n hx hb dX12_holds_10 rfl (lv_at hl 0 rfl) ?_
    refine z_get C0 in_X12_holds_X12 (C := RX12) (T := TX12) (N := 27) hw (k := 0) (ci := 12) (v := .ref (F 1)) rfl rfl rfl rfl 0 (by decide) rfl 1 rfl dX12_holds_11 ?_
    refine lv_iload_n hx hb dX12_holds_14 rfl (lv_at hl 1 rfl) ?_
    obtain ⟨b3, h⟩ := z_gd h
    refine z_iald C0 hw 1 rfl rfl zri_1 (zin_in b3) dX12_holds_15 ?_
    refine lv_goto (tgt := 20) hx hb dX12_holds_16 (by decide) ?_
    exact z_reti C0 hw hS (congrArg (fun z => (z, S)) (Option.some.inj h)) dX12_holds_20
def M_X12_above (S : zSt) (x0 : Int32) : Option (Int32) :=
  (if x0 = 3 then some 2 else (if x0 = 5 then some 4 else (if x0 = 6 then some 1 else some 0)))
set_option maxHeartbeats 4000000 in
set_option maxRecDepth 100000 in
theorem c_X12_above (l : Launch) (D : va_G) (Y : Nat → ClassId) (F : Nat → Nat) (G : zG) (S : zSt) (sz : Nat) (x0 : Int32) (res : Int32) (h : M_X12_above S x0 = some res) : Met l yX12_above wsX12_above (zRm 0 0) (zPc D Y F G S sz [.int x0]) (zQi D Y F (zAo F G sz) G (res, S)) 0 0 (zAo F G sz) := by
  unfold M_X12_above at h
  refine zMet (cc := cX12_above) (maxL := 1) (ret := (some .int)) (own := RX12) (by decide +kernel) rfl rfl (Nat.le_of_ble_eq_true rfl) ?_
  intro p e s m args below meth c C0 hin hw hS ls hl
  have hl : lv_has ls 1 [(0, .int x0)] := hl
  generalize zAo F G sz = A at C0 hw hS ⊢
  obtain ⟨hx, hb, hml, hr, hown, hts, hK, hA, hlk, hN⟩ := id C0
  refine lv_iload_n hx hb dX12_above_0 rfl (lv_at hl 0 rfl) ?_
  refine lv_iconst (v := 3) hx hb dX12_above_1 (by decide) ?_
  refine lv_icmp_ne (tgt := 9) hx hb dX12_above_2 (by decide) (fun c1 => ?_) (fun c1 => ?_)
  · replace h := z_ifn c1 h
    refine lv_iload_n hx hb dX12_above_9 rfl (lv_at hl 0 rfl) ?_
    refine lv_iconst (v := 5) hx hb dX12_above_10 (by decide) ?_
    refine lv_icmp_ne (tgt := 18) hx hb dX12_above_11 (by decide) (fun c2 => ?_) (fun c2 => ?_)
    · replace h := z_ifn c2 h
      refine lv_iload_n hx hb dX12_above_18 rfl (lv_at hl 0 rfl) ?_
      refine lv_bipush (v := 6) hx hb dX12_above_19 (by decide) ?_
      refine lv_icmp_ne (tgt := 28) hx hb dX12_above_21 (by decide) (fun c3 => ?_) (fun c3 => ?_)
      · replace h := z_ifn c3 h
        refine lv_iconst (v := 0) hx hb dX12_above_28 (by decide) ?_
        exact z_reti C0 hw hS (congrArg (fun z => (z, S)) (Option.some.inj h)) dX12_above_29
      · replace h := z_ifp c3 h
        refine lv_iconst (v := 1) hx hb dX12_above_24 (by decide) ?_
        refine lv_goto (tgt := 29) hx hb dX12_above_25 (by decide) ?_
        exact z_reti C0 hw hS (congrArg (fun z => (z, S)) (Option.some.inj h)) dX12_above_29
    · replace h := z_ifp c2 h
      refine lv_iconst (v := 4) hx hb dX12_above_14 (by decide) ?_
      refine lv_goto (tgt := 29) hx hb dX12_above_15 (by decide) ?_
      exact z_reti C0 hw hS (congrArg (fun z => (z, S)) (Option.some.inj h)) dX12_above_29
  · replace h := z_ifp c1 h
    refine lv_iconst (v := 2) hx hb dX12_above_5 (by decide) ?_
    refine lv_goto (tgt := 29) hx hb dX12_above_6 (by decide) ?_
    exact z_reti C0 hw hS (congrArg (fun z => (z, S)) (Option.some.inj h)) dX12_above_29
def M_X12_isUnder_B19 (S : zSt) (x1 : Int32) (x2 : Int32) : Option (Int32) :=
  (if x2 = x1 then some 1 else some 0)
set_option maxHeartbeats 4000000 in
set_option maxRecDepth 100000 in
theorem t_X12_isUnder_B19 {p : Program} {l : Launch} {e : Env} {s : State} {m : MethodId} {args : Array Value} {below : List Frame} {meth : Method} {c : Code} {D : va_G} {Y : Nat → ClassId} {F : Nat → Nat} {A : Nat → Prop} {G : zG} (C0 : zCx p s m args meth c D Y F A RX12 cX12_isUnder 3 (some .boolean) wsX12_isUnder) (S : zSt) (res : Int32) : ∀ (x1 : Int32) (x2 : Int32), M_X12_isUnder_B19 S x1 x2 = some res → ∀ (H : Heap) (locs : List Loc) (ls : Array Slot), zH D Y F A G S H → va_S A s.heap H locs → lv_has ls 3 [(1, .int x1), (2, .int x2)] → W p l e (zRm 1 20) s m args below meth c H locs 0 0 (MQ below (zQi D Y F A G (res, S)) args s 0 0 A) (F0 m 19 ls []) := by
  obtain ⟨hx, hb, hml, hr, hown, hts, hK, hA, hlk, hN⟩ := id C0
  intro x1 x2 h H locs ls hw hS hl
  unfold M_X12_isUnder_B19 at h
  refine lv_iload_n hx hb dX12_isUnder_19 rfl (lv_at hl 1 rfl) ?_
  refine lv_iload_n hx hb dX12_isUnder_20 rfl (lv_at hl 0 rfl) ?_
  refine lv_icmp_ne (tgt := 28) hx hb dX12_isUnder_21 (by decide) (fun c2 => ?_) (fun c2 => ?_)
  · replace h := z_ifn c2 h
    refine lv_iconst (v := 0) hx hb dX12_isUnder_28 (by decide) ?_
    exact z_retz C0 hw hS rfl (congrArg (fun z => (z, S)) (Option.some.inj h)) dX12_isUnder_29
  · replace h := z_ifp c2 h
    refine lv_iconst (v := 1) hx hb dX12_isUnder_24 (by decide) ?_
    refine lv_goto (tgt := 29) hx hb dX12_isUnder_25 (by decide) ?_
    exact z_retz C0 hw hS rfl (congrArg (fun z => (z, S)) (Option.some.inj h)) dX12_isUnder_29
def M_X12_isUnder_B2 (S : zSt) : Nat → Int32 → Int32 → Option (Int32)
  | 0, _, _ => none
  | n + 1, x1, x2 =>
  (if x2 = x1 then M_X12_isUnder_B19 S x1 x2 else (if x2 ≤ 0 then M_X12_isUnder_B19 S x1 x2 else Option.bind (M_X12_above S x2) (fun w4 => M_X12_isUnder_B2 S n x1 w4)))
set_option maxHeartbeats 4000000 in
set_option maxRecDepth 100000 in
theorem t_X12_isUnder_B2 {p : Program} {l : Launch} {e : Env} {s : State} {m : MethodId} {args : Array Value} {below : List Frame} {meth : Method} {c : Code} {D : va_G} {Y : Nat → ClassId} {F : Nat → Nat} {A : Nat → Prop} {G : zG} (C0 : zCx p s m args meth c D Y F A RX12 cX12_isUnder 3 (some .boolean) wsX12_isUnder) (S : zSt) (res : Int32) : ∀ (n : Nat), ∀ (x1 : Int32) (x2 : Int32), M_X12_isUnder_B2 S n x1 x2 = some res → ∀ (H : Heap) (locs : List Loc) (ls : Array Slot), zH D Y F A G S H → va_S A s.heap H locs → lv_has ls 3 [(1, .int x1), (2, .int x2)] → W p l e (zRm 1 20) s m args below meth c H locs 0 0 (MQ below (zQi D Y F A G (res, S)) args s 0 0 A) (F0 m 2 ls []) := by
  obtain ⟨hx, hb, hml, hr, hown, hts, hK, hA, hlk, hN⟩ := id C0
  intro n
  induction n with
  | zero =>
    intro x1 x2 h
    unfold M_X12_isUnder_B2 at h
    cases h
  | succ n ih =>
    intro x1 x2 h H locs ls hw hS hl
    rw [M_X12_isUnder_B2] at h
    refine lv_iload_n hx hb dX12_isUnder_2 rfl (lv_at hl 1 rfl) ?_
    refine lv_iload_n hx hb dX12_isUnder_3 rfl (lv_at hl 0 rfl) ?_
    refine lv_icmp_eq (tgt := 19) hx hb dX12_isUnder_4 (by decide) (fun c1 => ?_) (fun c1 => ?_)
    · replace h := z_ifp c1 h
      exact t_X12_isUnder_B19 C0 S res x1 x2 h _ _ _ hw hS (lv_sub hl [0, 1] rfl)
    · replace h := z_ifn c1 h
      refine lv_iload_n hx hb dX12_isUnder_7 rfl (lv_at hl 1 rfl) ?_
      refine lv_if_le (tgt := 19) hx hb dX12_isUnder_8 (by decide) (fun c3 => ?_) (fun c3 => ?_)
      · replace h := z_ifp c3 h
        exact t_X12_isUnder_B19 C0 S res x1 x2 h _ _ _ hw hS (lv_sub hl [0, 1] rfl)
      · replace h := z_ifn c3 h
        refine lv_iload_n hx hb dX12_isUnder_11 rfl (lv_at hl 1 rfl) ?_
        obtain ⟨w4, ew4, h⟩ := z_bd h
        refine z_callSip C0 hw hS (As := [.int x2]) (rest := []) (c_X12_above l D Y F G S _ x2 w4 ew4) (va_cwS 1 hts gX12_isUnder_X12_above rfl rfl rfl (by decide +kernel) ⟨Nat.le_of_ble_eq_true rfl, Nat.le_of_ble_eq_true rfl⟩) rfl hl.1 rfl (Nat.le_of_ble_eq_true rfl) dX12_isUnder_12 ⟨Nat.zero_le _, Nat.zero_le _⟩ (fun H locs hw hS => ?_)
        refine lv_istore_n (lv' := [(2, .int w4), (1, .int x1)]) hx hb dX12_isUnder_15 rfl hl (by decide) rfl (fun ls hl => ?_)
        refine lv_goto (tgt := 2) hx hb dX12_isUnder_16 (by decide) ?_
        exact ih x1 w4 h _ _ _ hw hS (lv_sub hl [1, 0] rfl)
def M_X12_isUnder (S : zSt) (x0 : Int32) (x1 : Int32) : Option (Int32) :=
  M_X12_isUnder_B2 S zF x1 x0
set_option maxHeartbeats 4000000 in
set_option maxRecDepth 100000 in
theorem c_X12_isUnder (l : Launch) (D : va_G) (Y : Nat → ClassId) (F : Nat → Nat) (G : zG) (S : zSt) (sz : Nat) (x0 : Int32) (x1 : Int32) (res : Int32) (h : M_X12_isUnder S x0 x1 = some res) : Met l yX12_isUnder wsX12_isUnder (zRm 1 20) (zPc D Y F G S sz [.int x0, .int x1]) (zQi D Y F (zAo F G sz) G (res, S)) 0 0 (zAo F G sz) := by
  unfold M_X12_isUnder at h
  refine zMet (cc := cX12_isUnder) (maxL := 3) (ret := (some .boolean)) (own := RX12) (by decide +kernel) rfl rfl (Nat.le_of_ble_eq_true rfl) ?_
  intro p e s m args below meth c C0 hin hw hS ls hl
  have hl : lv_has ls 3 [(0, .int x0), (1, .int x1)] := hl
  generalize zAo F G sz = A at C0 hw hS ⊢
  obtain ⟨hx, hb, hml, hr, hown, hts, hK, hA, hlk, hN⟩ := id C0
  refine lv_iload_n hx hb dX12_isUnder_0 rfl (lv_at hl 0 rfl) ?_
  refine lv_istore_n (lv' := [(2, .int x0), (0, .int x0), (1, .int x1)]) hx hb dX12_isUnder_1 rfl hl (by decide) rfl (fun ls hl => ?_)
  exact t_X12_isUnder_B2 C0 S res zF x1 x0 h _ _ _ hw hS (lv_sub hl [2, 0] rfl)
def M_X12_lossAt (S : zSt) (x1 : Int32) (x2 : Int32) : Option (Int32) :=
  zg (zin x1 6) ((if (zar S 4 (Int32.toNatClampNeg x1)) = 1 then (if x2 = 1 then some 0 else zg (zin x1 6) (some ((zar S 6 (Int32.toNatClampNeg x1))))) else (if (zar S 4 (Int32.toNatClampNeg x1)) = 2 then zg (zin x1 6) (some (((zar S 6 (Int32.toNatClampNeg x1)) + 2))) else (if (zar S 4 (Int32.toNatClampNeg x1)) = 3 then (if x2 = 5 then zg (zin x1 6) (some (((2 : Int32) * ((zar S 6 (Int32.toNatClampNeg x1)) + 2)))) else zg (zin x1 6) (some (((zar S 6 (Int32.toNatClampNeg x1)) + 2)))) else (if (zar S 4 (Int32.toNatClampNeg x1)) = 4 then zg (zin x1 6) (some (((zar S 6 (Int32.toNatClampNeg x1)) / 2))) else (if (zar S 4 (Int32.toNatClampNeg x1)) = 5 then zg (zin x1 6) (zg (zin x1 6) (some ((((zar S 6 (Int32.toNatClampNeg x1)) / 2) + ((zar S 5 (Int32.toNatClampNeg x1)) - (zar S 5 (Int32.toNatClampNeg x1)) / 2 * 2))))) else (if (zar S 4 (Int32.toNatClampNeg x1)) = 6 then (if x2 = 1 then some 0 else (if x2 = 3 then zg (zin x1 6) (zg (zin x1 6) (some (((zar S 6 (Int32.toNatClampNeg x1)) + (zar S 5 (Int32.toNatClampNeg x1)))))) else zg (zin x1 6) (some ((zar S 6 (Int32.toNatClampNeg x1)))))) else zg (zin x1 6) (some ((zar S 6 (Int32.toNatClampNeg x1)))))))))))
set_option maxHeartbeats 4000000 in
set_option maxRecDepth 100000 in
theorem c_X12_lossAt (l : Launch) (D : va_G) (Y : Nat → ClassId) (F : Nat → Nat) (G : zG) (S : zSt) (sz : Nat) (x1 : Int32) (x2 : Int32) (res : Int32) (h : M_X12_lossAt S x1 x2 = some res) : Met l yX12_lossAt wsX12_lossAt (zRm 0 0) (zPc D Y F G S sz [.ref (F 0), .int x1, .int x2]) (zQi D Y F (zAo F G sz) G (res, S)) 0 0 (zAo F G sz) := by
  unfold M_X12_lossAt at h
  refine zMet (cc := cX12_lossAt) (maxL := 3) (ret := (some .int)) (own := RX12) (by decide +kernel) rfl rfl (Nat.le_of_ble_eq_true rfl) ?_
  intro p e s m args below meth c C0 hin hw hS ls hl
  have hl : lv_has ls 3 [(0, .ref (F 0)), (1, .int x1), (2, .int x2)] := hl
  generalize zAo F G sz = A at C0 hw hS ⊢
  obtain ⟨hx, hb, hml, hr, hown, hts, hK, hA, hlk, hN⟩ := id C0
  refine lv_aload_n hx hb dX12_lossAt_0 rfl (lv_at hl 0 rfl) ?_
  refine z_get C0 in_X12_lossAt_X12 (C := RX12) (T := TX12) (N := 27) hw (k := 0) (ci := 12) (v := .ref (F 4)) rfl rfl rfl rfl 4 (by decide) rfl 1 rfl dX12_lossAt_1 ?_
  refine lv_iload_n hx hb dX12_lossAt_4 rfl (lv_at hl 1 rfl) ?_
  obtain ⟨b1, h⟩ := z_gd h
  refine z_iald C0 hw 4 rfl rfl zri_4 (zin_in b1) dX12_lossAt_5 ?_
  by_cases c2 : (zar S 4 (Int32.toNatClampNeg x1)) = 1
  · replace h := z_ifp c2 h
    refine z_top c2 ?_
    refine lv_tableIn (off := 38) (tgt := 44) hx hb dX12_lossAt_6 (by decide) (by decide) rfl (by decide) ?_
    refine lv_iload_n hx hb dX12_lossAt_44 rfl (lv_at hl 2 rfl) ?_
    refine lv_iconst (v := 1) hx hb dX12_lossAt_45 (by decide) ?_
    refine lv_icmp_ne (tgt := 53) hx hb dX12_lossAt_46 (by decide) (fun c3 => ?_) (fun c3 => ?_)
    · replace h := z_ifn c3 h
      refine lv_aload_n hx hb dX12_lossAt_53 rfl (lv_at hl 0 rfl) ?_
      refine z_get C0 in_X12_lossAt_X12 (C := RX12) (T := TX12) (N := 27) hw (k := 0) (ci := 12) (v := .ref (F 6)) rfl rfl rfl rfl 6 (by decide) rfl 2 rfl dX12_lossAt_54 ?_
      refine lv_iload_n hx hb dX12_lossAt_57 rfl (lv_at hl 1 rfl) ?_
      obtain ⟨b4, h⟩ := z_gd h
      refine z_iald C0 hw 6 rfl rfl zri_6 (zin_in b4) dX12_lossAt_58 ?_
      exact z_reti C0 hw hS (congrArg (fun z => (z, S)) (Option.some.inj h)) dX12_lossAt_59
    · replace h := z_ifp c3 h
      refine lv_iconst (v := 0) hx hb dX12_lossAt_49 (by decide) ?_
      refine lv_goto (tgt := 59) hx hb dX12_lossAt_50 (by decide) ?_
      exact z_reti C0 hw hS (congrArg (fun z => (z, S)) (Option.some.inj h)) dX12_lossAt_59
  · replace h := z_ifn c2 h
    by_cases c5 : (zar S 4 (Int32.toNatClampNeg x1)) = 2
    · replace h := z_ifp c5 h
      refine z_top c5 ?_
      refine lv_tableIn (off := 54) (tgt := 60) hx hb dX12_lossAt_6 (by decide) (by decide) rfl (by decide) ?_
      refine lv_aload_n hx hb dX12_lossAt_60 rfl (lv_at hl 0 rfl) ?_
      refine z_get C0 in_X12_lossAt_X12 (C := RX12) (T := TX12) (N := 27) hw (k := 0) (ci := 12) (v := .ref (F 6)) rfl rfl rfl rfl 6 (by decide) rfl 2 rfl dX12_lossAt_61 ?_
      refine lv_iload_n hx hb dX12_lossAt_64 rfl (lv_at hl 1 rfl) ?_
      obtain ⟨b6, h⟩ := z_gd h
      refine z_iald C0 hw 6 rfl rfl zri_6 (zin_in b6) dX12_lossAt_65 ?_
      refine lv_iconst (v := 2) hx hb dX12_lossAt_66 (by decide) ?_
      refine lv_iadd hx hb dX12_lossAt_67 ?_
      exact z_reti C0 hw hS (congrArg (fun z => (z, S)) (Option.some.inj h)) dX12_lossAt_68
    · replace h := z_ifn c5 h
      by_cases c7 : (zar S 4 (Int32.toNatClampNeg x1)) = 3
      · replace h := z_ifp c7 h
        refine z_top c7 ?_
        refine lv_tableIn (off := 63) (tgt := 69) hx hb dX12_lossAt_6 (by decide) (by decide) rfl (by decide) ?_
        refine lv_iload_n hx hb dX12_lossAt_69 rfl (lv_at hl 2 rfl) ?_
        refine lv_iconst (v := 5) hx hb dX12_lossAt_70 (by decide) ?_
        refine lv_icmp_ne (tgt := 87) hx hb dX12_lossAt_71 (by decide) (fun c8 => ?_) (fun c8 => ?_)
        · replace h := z_ifn c8 h
          refine lv_aload_n hx hb dX12_lossAt_87 rfl (lv_at hl 0 rfl) ?_
          refine z_get C0 in_X12_lossAt_X12 (C := RX12) (T := TX12) (N := 27) hw (k := 0) (ci := 12) (v := .ref (F 6)) rfl rfl rfl rfl 6 (by decide) rfl 2 rfl dX12_lossAt_88 ?_
          refine lv_iload_n hx hb dX12_lossAt_91 rfl (lv_at hl 1 rfl) ?_
          obtain ⟨b9, h⟩ := z_gd h
          refine z_iald C0 hw 6 rfl rfl zri_6 (zin_in b9) dX12_lossAt_92 ?_
          refine lv_iconst (v := 2) hx hb dX12_lossAt_93 (by decide) ?_
          refine lv_iadd hx hb dX12_lossAt_94 ?_
          exact z_reti C0 hw hS (congrArg (fun z => (z, S)) (Option.some.inj h)) dX12_lossAt_95
        · replace h := z_ifp c8 h
          refine lv_iconst (v := 2) hx hb dX12_lossAt_74 (by decide) ?_
          refine lv_aload_n hx hb dX12_lossAt_75 rfl (lv_at hl 0 rfl) ?_
          refine z_get C0 in_X12_lossAt_X12 (C := RX12) (T := TX12) (N := 27) hw (k := 0) (ci := 12) (v := .ref (F 6)) rfl rfl rfl rfl 6 (by decide) rfl 2 rfl dX12_lossAt_76 ?_
          refine lv_iload_n hx hb dX12_lossAt_79 rfl (lv_at hl 1 rfl) ?_
          obtain ⟨b10, h⟩ := z_gd h
          refine z_iald C0 hw 6 rfl rfl zri_6 (zin_in b10) dX12_lossAt_80 ?_
          refine lv_iconst (v := 2) hx hb dX12_lossAt_81 (by decide) ?_
          refine lv_iadd hx hb dX12_lossAt_82 ?_
          refine lv_imul hx hb dX12_lossAt_83 ?_
          refine lv_goto (tgt := 95) hx hb dX12_lossAt_84 (by decide) ?_
          exact z_reti C0 hw hS (congrArg (fun z => (z, S)) (Option.some.inj h)) dX12_lossAt_95
      · replace h := z_ifn c7 h
        by_cases c11 : (zar S 4 (Int32.toNatClampNeg x1)) = 4
        · replace h := z_ifp c11 h
          refine z_top c11 ?_
          refine lv_tableIn (off := 90) (tgt := 96) hx hb dX12_lossAt_6 (by decide) (by decide) rfl (by decide) ?_
          refine lv_aload_n hx hb dX12_lossAt_96 rfl (lv_at hl 0 rfl) ?_
          refine z_get C0 in_X12_lossAt_X12 (C := RX12) (T := TX12) (N := 27) hw (k := 0) (ci := 12) (v := .ref (F 6)) rfl rfl rfl rfl 6 (by decide) rfl 2 rfl dX12_lossAt_97 ?_
          refine lv_iload_n hx hb dX12_lossAt_100 rfl (lv_at hl 1 rfl) ?_
          obtain ⟨b12, h⟩ := z_gd h
          refine z_iald C0 hw 6 rfl rfl zri_6 (zin_in b12) dX12_lossAt_101 ?_
          refine lv_iconst (v := 2) hx hb dX12_lossAt_102 (by decide) ?_
          refine lv_idiv hx hb dX12_lossAt_103 (by decide) ?_
          exact z_reti C0 hw hS (congrArg (fun z => (z, S)) (Option.some.inj h)) dX12_lossAt_104
        · replace h := z_ifn c11 h
          by_cases c13 : (zar S 4 (Int32.toNatClampNeg x1)) = 5
          · replace h := z_ifp c13 h
            refine z_top c13 ?_
            refine lv_tableIn (off := 99) (tgt := 105) hx hb dX12_lossAt_6 (by decide) (by decide) rfl (by decide) ?_
            refine lv_aload_n hx hb dX12_lossAt_105 rfl (lv_at hl 0 rfl) ?_
            refine z_get C0 in_X12_lossAt_X12 (C := RX12) (T := TX12) (N := 27) hw (k := 0) (ci := 12) (v := .ref (F 6)) rfl rfl rfl rfl 6 (by decide) rfl 2 rfl dX12_lossAt_106 ?_
            refine lv_iload_n hx hb dX12_lossAt_109 rfl (lv_at hl 1 rfl) ?_
            obtain ⟨b14, h⟩ := z_gd h
            refine z_iald C0 hw 6 rfl rfl zri_6 (zin_in b14) dX12_lossAt_110 ?_
            refine lv_iconst (v := 2) hx hb dX12_lossAt_111 (by decide) ?_
            refine lv_idiv hx hb dX12_lossAt_112 (by decide) ?_
            refine lv_aload_n hx hb dX12_lossAt_113 rfl (lv_at hl 0 rfl) ?_
            refine z_get C0 in_X12_lossAt_X12 (C := RX12) (T := TX12) (N := 27) hw (k := 0) (ci := 12) (v := .ref (F 5)) rfl rfl rfl rfl 5 (by decide) rfl 3 rfl dX12_lossAt_114 ?_
            refine lv_iload_n hx hb dX12_lossAt_117 rfl (lv_at hl 1 rfl) ?_
            obtain ⟨b15, h⟩ := z_gd h
            refine z_iald C0 hw 5 rfl rfl zri_5 (zin_in b15) dX12_lossAt_118 ?_
            refine lv_iconst (v := 2) hx hb dX12_lossAt_119 (by decide) ?_
            refine lv_irem hx hb dX12_lossAt_120 (by decide) ?_
            refine lv_iadd hx hb dX12_lossAt_121 ?_
            exact z_reti C0 hw hS (congrArg (fun z => (z, S)) (Option.some.inj h)) dX12_lossAt_122
          · replace h := z_ifn c13 h
            by_cases c16 : (zar S 4 (Int32.toNatClampNeg x1)) = 6
            · replace h := z_ifp c16 h
              refine z_top c16 ?_
              refine lv_tableIn (off := 117) (tgt := 123) hx hb dX12_lossAt_6 (by decide) (by decide) rfl (by decide) ?_
              refine lv_iload_n hx hb dX12_lossAt_123 rfl (lv_at hl 2 rfl) ?_
              refine lv_iconst (v := 1) hx hb dX12_lossAt_124 (by decide) ?_
              refine lv_icmp_ne (tgt := 132) hx hb dX12_lossAt_125 (by decide) (fun c17 => ?_) (fun c17 => ?_)
              · replace h := z_ifn c17 h
                refine lv_iload_n hx hb dX12_lossAt_132 rfl (lv_at hl 2 rfl) ?_
                refine lv_iconst (v := 3) hx hb dX12_lossAt_133 (by decide) ?_
                refine lv_icmp_ne (tgt := 153) hx hb dX12_lossAt_134 (by decide) (fun c18 => ?_) (fun c18 => ?_)
                · replace h := z_ifn c18 h
                  refine lv_aload_n hx hb dX12_lossAt_153 rfl (lv_at hl 0 rfl) ?_
                  refine z_get C0 in_X12_lossAt_X12 (C := RX12) (T := TX12) (N := 27) hw (k := 0) (ci := 12) (v := .ref (F 6)) rfl rfl rfl rfl 6 (by decide) rfl 2 rfl dX12_lossAt_154 ?_
                  refine lv_iload_n hx hb dX12_lossAt_157 rfl (lv_at hl 1 rfl) ?_
                  obtain ⟨b19, h⟩ := z_gd h
                  refine z_iald C0 hw 6 rfl rfl zri_6 (zin_in b19) dX12_lossAt_158 ?_
                  exact z_reti C0 hw hS (congrArg (fun z => (z, S)) (Option.some.inj h)) dX12_lossAt_159
                · replace h := z_ifp c18 h
                  refine lv_aload_n hx hb dX12_lossAt_137 rfl (lv_at hl 0 rfl) ?_
                  refine z_get C0 in_X12_lossAt_X12 (C := RX12) (T := TX12) (N := 27) hw (k := 0) (ci := 12) (v := .ref (F 6)) rfl rfl rfl rfl 6 (by decide) rfl 2 rfl dX12_lossAt_138 ?_
                  refine lv_iload_n hx hb dX12_lossAt_141 rfl (lv_at hl 1 rfl) ?_
                  obtain ⟨b20, h⟩ := z_gd h
                  refine z_iald C0 hw 6 rfl rfl zri_6 (zin_in b20) dX12_lossAt_142 ?_
                  refine lv_aload_n hx hb dX12_lossAt_143 rfl (lv_at hl 0 rfl) ?_
                  refine z_get C0 in_X12_lossAt_X12 (C := RX12) (T := TX12) (N := 27) hw (k := 0) (ci := 12) (v := .ref (F 5)) rfl rfl rfl rfl 5 (by decide) rfl 3 rfl dX12_lossAt_144 ?_
                  refine lv_iload_n hx hb dX12_lossAt_147 rfl (lv_at hl 1 rfl) ?_
                  obtain ⟨b21, h⟩ := z_gd h
                  refine z_iald C0 hw 5 rfl rfl zri_5 (zin_in b21) dX12_lossAt_148 ?_
                  refine lv_iadd hx hb dX12_lossAt_149 ?_
                  refine lv_goto (tgt := 159) hx hb dX12_lossAt_150 (by decide) ?_
                  exact z_reti C0 hw hS (congrArg (fun z => (z, S)) (Option.some.inj h)) dX12_lossAt_159
              · replace h := z_ifp c17 h
                refine lv_iconst (v := 0) hx hb dX12_lossAt_128 (by decide) ?_
                refine lv_goto (tgt := 159) hx hb dX12_lossAt_129 (by decide) ?_
                exact z_reti C0 hw hS (congrArg (fun z => (z, S)) (Option.some.inj h)) dX12_lossAt_159
            · replace h := z_ifn c16 h
              have nc2 : Int32.toInt ((zar S 4 (Int32.toNatClampNeg x1))) ≠ 1 := fun q => c2 (Int32.toInt_inj.mp (q.trans (by decide)))
              have nc5 : Int32.toInt ((zar S 4 (Int32.toNatClampNeg x1))) ≠ 2 := fun q => c5 (Int32.toInt_inj.mp (q.trans (by decide)))
              have nc7 : Int32.toInt ((zar S 4 (Int32.toNatClampNeg x1))) ≠ 3 := fun q => c7 (Int32.toInt_inj.mp (q.trans (by decide)))
              have nc11 : Int32.toInt ((zar S 4 (Int32.toNatClampNeg x1))) ≠ 4 := fun q => c11 (Int32.toInt_inj.mp (q.trans (by decide)))
              have nc13 : Int32.toInt ((zar S 4 (Int32.toNatClampNeg x1))) ≠ 5 := fun q => c13 (Int32.toInt_inj.mp (q.trans (by decide)))
              have nc16 : Int32.toInt ((zar S 4 (Int32.toNatClampNeg x1))) ≠ 6 := fun q => c16 (Int32.toInt_inj.mp (q.trans (by decide)))
              refine lv_tableOut (tgt := 160) hx hb dX12_lossAt_6 (by omega) (by decide) ?_
              refine lv_aload_n hx hb dX12_lossAt_160 rfl (lv_at hl 0 rfl) ?_
              refine z_get C0 in_X12_lossAt_X12 (C := RX12) (T := TX12) (N := 27) hw (k := 0) (ci := 12) (v := .ref (F 6)) rfl rfl rfl rfl 6 (by decide) rfl 2 rfl dX12_lossAt_161 ?_
              refine lv_iload_n hx hb dX12_lossAt_164 rfl (lv_at hl 1 rfl) ?_
              obtain ⟨b22, h⟩ := z_gd h
              refine z_iald C0 hw 6 rfl rfl zri_6 (zin_in b22) dX12_lossAt_165 ?_
              exact z_reti C0 hw hS (congrArg (fun z => (z, S)) (Option.some.inj h)) dX12_lossAt_166
def M_X12_says_B20 (S : zSt) : Option (Int32 × zSt) :=
  Option.bind (M_X12_no S (-1)) (fun w3 => some (w3.1, w3.2))
set_option maxHeartbeats 4000000 in
set_option maxRecDepth 100000 in
theorem t_X12_says_B20 {p : Program} {l : Launch} {e : Env} {s : State} {m : MethodId} {args : Array Value} {below : List Frame} {meth : Method} {c : Code} {D : va_G} {Y : Nat → ClassId} {F : Nat → Nat} {A : Nat → Prop} {G : zG} (C0 : zCx p s m args meth c D Y F A RX12 cX12_says 4 (some .int) wsX12_says) (res : Int32 × zSt) : ∀ (S : zSt), M_X12_says_B20 S = some res → ∀ (H : Heap) (locs : List Loc) (ls : Array Slot), zH D Y F A G S H → va_S A s.heap H locs → lv_has ls 4 [(0, .ref (F 0))] → W p l e (zRm 2 42) s m args below meth c H locs 0 0 (MQ below (zQi D Y F A G res) args s 0 0 A) (F0 m 20 ls []) := by
  obtain ⟨hx, hb, hml, hr, hown, hts, hK, hA, hlk, hN⟩ := id C0
  intro S h H locs ls hw hS hl
  unfold M_X12_says_B20 at h
  refine lv_aload_n hx hb dX12_says_20 rfl (lv_at hl 0 rfl) ?_
  refine lv_iconst (v := (-1)) hx hb dX12_says_21 (by decide) ?_
  obtain ⟨w3, ew3, h⟩ := z_bd h
  refine z_callVi0 C0 hw hS (k := 0) (As := [.int (-1)]) (rest := []) rfl rfl rfl rfl (c_X12_no l D Y F G S _ (-1) w3 ew3) (cwV 1 hts gX12_says_X12_no rfl rfl rfl (by decide +kernel) ⟨Nat.le_of_ble_eq_true rfl, Nat.le_of_ble_eq_true rfl⟩) rfl hl.1 rfl (Nat.le_of_ble_eq_true rfl) dX12_says_22 ⟨Nat.zero_le _, Nat.zero_le _⟩ (fun H locs hw hS => ?_)
  exact z_reti C0 hw hS (Option.some.inj h) dX12_says_25
def M_X12_says_B127 (S : zSt) (x3 : Int32) : Option (Int32 × zSt) :=
  zg (zin x3 6) (some ((zar S 7 (Int32.toNatClampNeg x3)), S))
set_option maxHeartbeats 4000000 in
set_option maxRecDepth 100000 in
theorem t_X12_says_B127 {p : Program} {l : Launch} {e : Env} {s : State} {m : MethodId} {args : Array Value} {below : List Frame} {meth : Method} {c : Code} {D : va_G} {Y : Nat → ClassId} {F : Nat → Nat} {A : Nat → Prop} {G : zG} (C0 : zCx p s m args meth c D Y F A RX12 cX12_says 4 (some .int) wsX12_says) (res : Int32 × zSt) : ∀ (S : zSt) (x3 : Int32), M_X12_says_B127 S x3 = some res → ∀ (H : Heap) (locs : List Loc) (ls : Array Slot), zH D Y F A G S H → va_S A s.heap H locs → lv_has ls 4 [(0, .ref (F 0)), (3, .int x3)] → W p l e (zRm 2 42) s m args below meth c H locs 0 0 (MQ below (zQi D Y F A G res) args s 0 0 A) (F0 m 127 ls []) := by
  obtain ⟨hx, hb, hml, hr, hown, hts, hK, hA, hlk, hN⟩ := id C0
  intro S x3 h H locs ls hw hS hl
  unfold M_X12_says_B127 at h
  refine lv_aload_n hx hb dX12_says_127 rfl (lv_at hl 0 rfl) ?_
  refine z_get C0 in_X12_says_X12 (C := RX12) (T := TX12) (N := 27) hw (k := 0) (ci := 12) (v := .ref (F 7)) rfl rfl rfl rfl 7 (by decide) rfl 4 rfl dX12_says_128 ?_
  refine lv_iload_n hx hb dX12_says_131 rfl (lv_at hl 1 rfl) ?_
  obtain ⟨b13, h⟩ := z_gd h
  refine z_iald C0 hw 7 rfl rfl zri_7 (zin_in b13) dX12_says_132 ?_
  exact z_reti C0 hw hS (Option.some.inj h) dX12_says_133
def M_X12_says_B134 (S : zSt) (x3 : Int32) : Option (Int32 × zSt) :=
  Option.bind (M_X12_lossAt S x3 5) (fun w15 => some (w15, S))
set_option maxHeartbeats 4000000 in
set_option maxRecDepth 100000 in
theorem t_X12_says_B134 {p : Program} {l : Launch} {e : Env} {s : State} {m : MethodId} {args : Array Value} {below : List Frame} {meth : Method} {c : Code} {D : va_G} {Y : Nat → ClassId} {F : Nat → Nat} {A : Nat → Prop} {G : zG} (C0 : zCx p s m args meth c D Y F A RX12 cX12_says 4 (some .int) wsX12_says) (res : Int32 × zSt) : ∀ (S : zSt) (x3 : Int32), M_X12_says_B134 S x3 = some res → ∀ (H : Heap) (locs : List Loc) (ls : Array Slot), zH D Y F A G S H → va_S A s.heap H locs → lv_has ls 4 [(0, .ref (F 0)), (3, .int x3)] → W p l e (zRm 2 42) s m args below meth c H locs 0 0 (MQ below (zQi D Y F A G res) args s 0 0 A) (F0 m 134 ls []) := by
  obtain ⟨hx, hb, hml, hr, hown, hts, hK, hA, hlk, hN⟩ := id C0
  intro S x3 h H locs ls hw hS hl
  unfold M_X12_says_B134 at h
  refine lv_aload_n hx hb dX12_says_134 rfl (lv_at hl 0 rfl) ?_
  refine lv_iload_n hx hb dX12_says_135 rfl (lv_at hl 1 rfl) ?_
  refine lv_iconst (v := 5) hx hb dX12_says_136 (by decide) ?_
  obtain ⟨w15, ew15, h⟩ := z_bd h
  refine z_callVip C0 hw hS (k := 0) (As := [.int x3, .int 5]) (rest := []) rfl rfl rfl rfl (c_X12_lossAt l D Y F G S _ x3 5 w15 ew15) (cwV 2 hts gX12_says_X12_lossAt rfl rfl rfl (by decide +kernel) ⟨Nat.le_of_ble_eq_true rfl, Nat.le_of_ble_eq_true rfl⟩) rfl hl.1 rfl (Nat.le_of_ble_eq_true rfl) dX12_says_137 ⟨Nat.zero_le _, Nat.zero_le _⟩ (fun H locs hw hS => ?_)
  exact z_reti C0 hw hS (Option.some.inj h) dX12_says_140
def M_X12_says_B141 (S : zSt) (x3 : Int32) : Option (Int32 × zSt) :=
  Option.bind (M_X12_lossAt S x3 1) (fun w18 => some (w18, S))
set_option maxHeartbeats 4000000 in
set_option maxRecDepth 100000 in
theorem t_X12_says_B141 {p : Program} {l : Launch} {e : Env} {s : State} {m : MethodId} {args : Array Value} {below : List Frame} {meth : Method} {c : Code} {D : va_G} {Y : Nat → ClassId} {F : Nat → Nat} {A : Nat → Prop} {G : zG} (C0 : zCx p s m args meth c D Y F A RX12 cX12_says 4 (some .int) wsX12_says) (res : Int32 × zSt) : ∀ (S : zSt) (x3 : Int32), M_X12_says_B141 S x3 = some res → ∀ (H : Heap) (locs : List Loc) (ls : Array Slot), zH D Y F A G S H → va_S A s.heap H locs → lv_has ls 4 [(0, .ref (F 0)), (3, .int x3)] → W p l e (zRm 2 42) s m args below meth c H locs 0 0 (MQ below (zQi D Y F A G res) args s 0 0 A) (F0 m 141 ls []) := by
  obtain ⟨hx, hb, hml, hr, hown, hts, hK, hA, hlk, hN⟩ := id C0
  intro S x3 h H locs ls hw hS hl
  unfold M_X12_says_B141 at h
  refine lv_aload_n hx hb dX12_says_141 rfl (lv_at hl 0 rfl) ?_
  refine lv_iload_n hx hb dX12_says_142 rfl (lv_at hl 1 rfl) ?_
  refine lv_iconst (v := 1) hx hb dX12_says_143 (by decide) ?_
  obtain ⟨w18, ew18, h⟩ := z_bd h
  refine z_callVip C0 hw hS (k := 0) (As := [.int x3, .int 1]) (rest := []) rfl rfl rfl rfl (c_X12_lossAt l D Y F G S _ x3 1 w18 ew18) (cwV 2 hts gX12_says_X12_lossAt rfl rfl rfl (by decide +kernel) ⟨Nat.le_of_ble_eq_true rfl, Nat.le_of_ble_eq_true rfl⟩) rfl hl.1 rfl (Nat.le_of_ble_eq_true rfl) dX12_says_144 ⟨Nat.zero_le _, Nat.zero_le _⟩ (fun H locs hw hS => ?_)
  exact z_reti C0 hw hS (Option.some.inj h) dX12_says_147
def M_X12_says_B65 (S : zSt) (x2 : Int32) (x3 : Int32) : Option (Int32 × zSt) :=
  (if 0 ≤ x3 then (if x2 = 0 then zg (zin x3 6) (some ((zar S 6 (Int32.toNatClampNeg x3)), S)) else (if x2 = 1 then M_X12_says_B127 S x3 else (if x2 = 2 then M_X12_says_B134 S x3 else (if x2 = 3 then M_X12_says_B134 S x3 else (if x2 = 4 then M_X12_says_B141 S x3 else (if x2 = 5 then M_X12_says_B141 S x3 else (if x2 = 6 then M_X12_says_B127 S x3 else M_X12_says_B141 S x3))))))) else Option.bind (M_X12_no S (-3)) (fun w21 => some (w21.1, w21.2)))
set_option maxHeartbeats 4000000 in
set_option maxRecDepth 100000 in
theorem t_X12_says_B65 {p : Program} {l : Launch} {e : Env} {s : State} {m : MethodId} {args : Array Value} {below : List Frame} {meth : Method} {c : Code} {D : va_G} {Y : Nat → ClassId} {F : Nat → Nat} {A : Nat → Prop} {G : zG} (C0 : zCx p s m args meth c D Y F A RX12 cX12_says 4 (some .int) wsX12_says) (res : Int32 × zSt) : ∀ (S : zSt) (x2 : Int32) (x3 : Int32), M_X12_says_B65 S x2 x3 = some res → ∀ (H : Heap) (locs : List Loc) (ls : Array Slot), zH D Y F A G S H → va_S A s.heap H locs → lv_has ls 4 [(0, .ref (F 0)), (2, .int x2), (3, .int x3)] → W p l e (zRm 2 42) s m args below meth c H locs 0 0 (MQ below (zQi D Y F A G res) args s 0 0 A) (F0 m 65 ls []) := by
  obtain ⟨hx, hb, hml, hr, hown, hts, hK, hA, hlk, hN⟩ := id C0
  intro S x2 x3 h H locs ls hw hS hl
  unfold M_X12_says_B65 at h
  refine lv_iload_n hx hb dX12_says_65 rfl (lv_at hl 2 rfl) ?_
  refine lv_if_ge (tgt := 76) hx hb dX12_says_66 (by decide) (fun c9 => ?_) (fun c9 => ?_)
  · replace h := z_ifp c9 h
    refine lv_iload_n hx hb dX12_says_76 rfl (lv_at hl 1 rfl) ?_
    by_cases c10 : x2 = 0
    · replace h := z_ifp c10 h
      refine z_top c10 ?_
      refine lv_tableIn (off := 43) (tgt := 120) hx hb dX12_says_77 (by decide) (by decide) rfl (by decide) ?_
      refine lv_aload_n hx hb dX12_says_120 rfl (lv_at hl 0 rfl) ?_
      refine z_get C0 in_X12_says_X12 (C := RX12) (T := TX12) (N := 27) hw (k := 0) (ci := 12) (v := .ref (F 6)) rfl rfl rfl rfl 6 (by decide) rfl 3 rfl dX12_says_121 ?_
      refine lv_iload_n hx hb dX12_says_124 rfl (lv_at hl 2 rfl) ?_
      obtain ⟨b11, h⟩ := z_gd h
      refine z_iald C0 hw 6 rfl rfl zri_6 (zin_in b11) dX12_says_125 ?_
      exact z_reti C0 hw hS (Option.some.inj h) dX12_says_126
    · replace h := z_ifn c10 h
      by_cases c12 : x2 = 1
      · replace h := z_ifp c12 h
        refine z_top c12 ?_
        refine lv_tableIn (off := 50) (tgt := 127) hx hb dX12_says_77 (by decide) (by decide) rfl (by decide) ?_
        exact t_X12_says_B127 C0 res S x3 h _ _ _ hw hS (lv_sub hl [0, 2] rfl)
      · replace h := z_ifn c12 h
        by_cases c14 : x2 = 2
        · replace h := z_ifp c14 h
          refine z_top c14 ?_
          refine lv_tableIn (off := 57) (tgt := 134) hx hb dX12_says_77 (by decide) (by decide) rfl (by decide) ?_
          exact t_X12_says_B134 C0 res S x3 h _ _ _ hw hS (lv_sub hl [0, 2] rfl)
        · replace h := z_ifn c14 h
          by_cases c16 : x2 = 3
          · replace h := z_ifp c16 h
            refine z_top c16 ?_
            refine lv_tableIn (off := 57) (tgt := 134) hx hb dX12_says_77 (by decide) (by decide) rfl (by decide) ?_
            exact t_X12_says_B134 C0 res S x3 h _ _ _ hw hS (lv_sub hl [0, 2] rfl)
          · replace h := z_ifn c16 h
            by_cases c17 : x2 = 4
            · replace h := z_ifp c17 h
              refine z_top c17 ?_
              refine lv_tableIn (off := 64) (tgt := 141) hx hb dX12_says_77 (by decide) (by decide) rfl (by decide) ?_
              exact t_X12_says_B141 C0 res S x3 h _ _ _ hw hS (lv_sub hl [0, 2] rfl)
            · replace h := z_ifn c17 h
              by_cases c19 : x2 = 5
              · replace h := z_ifp c19 h
                refine z_top c19 ?_
                refine lv_tableIn (off := 64) (tgt := 141) hx hb dX12_says_77 (by decide) (by decide) rfl (by decide) ?_
                exact t_X12_says_B141 C0 res S x3 h _ _ _ hw hS (lv_sub hl [0, 2] rfl)
              · replace h := z_ifn c19 h
                by_cases c20 : x2 = 6
                · replace h := z_ifp c20 h
                  refine z_top c20 ?_
                  refine lv_tableIn (off := 50) (tgt := 127) hx hb dX12_says_77 (by decide) (by decide) rfl (by decide) ?_
                  exact t_X12_says_B127 C0 res S x3 h _ _ _ hw hS (lv_sub hl [0, 2] rfl)
                · replace h := z_ifn c20 h
                  have nc10 : Int32.toInt x2 ≠ 0 := fun q => c10 (Int32.toInt_inj.mp (q.trans (by decide)))
                  have nc12 : Int32.toInt x2 ≠ 1 := fun q => c12 (Int32.toInt_inj.mp (q.trans (by decide)))
                  have nc14 : Int32.toInt x2 ≠ 2 := fun q => c14 (Int32.toInt_inj.mp (q.trans (by decide)))
                  have nc16 : Int32.toInt x2 ≠ 3 := fun q => c16 (Int32.toInt_inj.mp (q.trans (by decide)))
                  have nc17 : Int32.toInt x2 ≠ 4 := fun q => c17 (Int32.toInt_inj.mp (q.trans (by decide)))
                  have nc19 : Int32.toInt x2 ≠ 5 := fun q => c19 (Int32.toInt_inj.mp (q.trans (by decide)))
                  have nc20 : Int32.toInt x2 ≠ 6 := fun q => c20 (Int32.toInt_inj.mp (q.trans (by decide)))
                  refine lv_tableOut (tgt := 141) hx hb dX12_says_77 (by omega) (by decide) ?_
                  exact t_X12_says_B141 C0 res S x3 h _ _ _ hw hS (lv_sub hl [0, 2] rfl)
  · replace h := z_ifn c9 h
    refine lv_aload_n hx hb dX12_says_69 rfl (lv_at hl 0 rfl) ?_
    refine lv_bipush (v := (-3)) hx hb dX12_says_70 (by decide) ?_
    obtain ⟨w21, ew21, h⟩ := z_bd h
    refine z_callVi0 C0 hw hS (k := 0) (As := [.int (-3)]) (rest := []) rfl rfl rfl rfl (c_X12_no l D Y F G S _ (-3) w21 ew21) (cwV 1 hts gX12_says_X12_no rfl rfl rfl (by decide +kernel) ⟨Nat.le_of_ble_eq_true rfl, Nat.le_of_ble_eq_true rfl⟩) rfl hl.1 rfl (Nat.le_of_ble_eq_true rfl) dX12_says_72 ⟨Nat.zero_le _, Nat.zero_le _⟩ (fun H locs hw hS => ?_)
    exact z_reti C0 hw hS (Option.some.inj h) dX12_says_75
def M_X12_says_B58 (S : zSt) : Option (Int32 × zSt) :=
  Option.bind (M_X12_no S (-2)) (fun w24 => some (w24.1, w24.2))
set_option maxHeartbeats 4000000 in
set_option maxRecDepth 100000 in
theorem t_X12_says_B58 {p : Program} {l : Launch} {e : Env} {s : State} {m : MethodId} {args : Array Value} {below : List Frame} {meth : Method} {c : Code} {D : va_G} {Y : Nat → ClassId} {F : Nat → Nat} {A : Nat → Prop} {G : zG} (C0 : zCx p s m args meth c D Y F A RX12 cX12_says 4 (some .int) wsX12_says) (res : Int32 × zSt) : ∀ (S : zSt), M_X12_says_B58 S = some res → ∀ (H : Heap) (locs : List Loc) (ls : Array Slot), zH D Y F A G S H → va_S A s.heap H locs → lv_has ls 4 [(0, .ref (F 0))] → W p l e (zRm 2 42) s m args below meth c H locs 0 0 (MQ below (zQi D Y F A G res) args s 0 0 A) (F0 m 58 ls []) := by
  obtain ⟨hx, hb, hml, hr, hown, hts, hK, hA, hlk, hN⟩ := id C0
  intro S h H locs ls hw hS hl
  unfold M_X12_says_B58 at h
  refine lv_aload_n hx hb dX12_says_58 rfl (lv_at hl 0 rfl) ?_
  refine lv_bipush (v := (-2)) hx hb dX12_says_59 (by decide) ?_
  obtain ⟨w24, ew24, h⟩ := z_bd h
  refine z_callVi0 C0 hw hS (k := 0) (As := [.int (-2)]) (rest := []) rfl rfl rfl rfl (c_X12_no l D Y F G S _ (-2) w24 ew24) (cwV 1 hts gX12_says_X12_no rfl rfl rfl (by decide +kernel) ⟨Nat.le_of_ble_eq_true rfl, Nat.le_of_ble_eq_true rfl⟩) rfl hl.1 rfl (Nat.le_of_ble_eq_true rfl) dX12_says_61 ⟨Nat.zero_le _, Nat.zero_le _⟩ (fun H locs hw hS => ?_)
  exact z_reti C0 hw hS (Option.some.inj h) dX12_says_64
def M_X12_says (S : zSt) (x1 : Int32) (x2 : Int32) : Option (Int32 × zSt) :=
  Option.bind (M_X12_within S x1 0 7) (fun w1 => (if w1 = 0 then M_X12_says_B20 S else Option.bind (M_X12_within S x2 0 6) (fun w4 => (if w4 = 0 then M_X12_says_B20 S else zg (zin x1 8) (Option.bind (some ((zar S 1 (Int32.toNatClampNeg x1)))) (fun v7 => (if v7 < 0 then M_X12_says_B65 S x2 v7 else Option.bind (M_X12_isRow S x1) (fun w22 => (if w22 = 0 then zg (zin v7 6) (Option.bind (M_X12_isUnder S ((zar S 4 (Int32.toNatClampNeg v7))) x2) (fun w26 => (if w26 = 0 then M_X12_says_B58 S else M_X12_says_B65 S x2 v7))) else M_X12_says_B58 S)))))))))
set_option maxHeartbeats 4000000 in
set_option maxRecDepth 100000 in
theorem c_X12_says (l : Launch) (D : va_G) (Y : Nat → ClassId) (F : Nat → Nat) (G : zG) (S : zSt) (sz : Nat) (x1 : Int32) (x2 : Int32) (res : Int32 × zSt) (h : M_X12_says S x1 x2 = some res) : Met l yX12_says wsX12_says (zRm 2 42) (zPc D Y F G S sz [.ref (F 0), .int x1, .int x2]) (zQi D Y F (zAo F G sz) G res) 0 0 (zAo F G sz) := by
  unfold M_X12_says at h
  refine zMet (cc := cX12_says) (maxL := 4) (ret := (some .int)) (own := RX12) (by decide +kernel) rfl rfl (Nat.le_of_ble_eq_true rfl) ?_
  intro p e s m args below meth c C0 hin hw hS ls hl
  have hl : lv_has ls 4 [(0, .ref (F 0)), (1, .int x1), (2, .int x2)] := hl
  generalize zAo F G sz = A at C0 hw hS ⊢
  obtain ⟨hx, hb, hml, hr, hown, hts, hK, hA, hlk, hN⟩ := id C0
  refine lv_iload_n hx hb dX12_says_0 rfl (lv_at hl 1 rfl) ?_
  refine lv_iconst (v := 0) hx hb dX12_says_1 (by decide) ?_
  refine lv_bipush (v := 7) hx hb dX12_says_2 (by decide) ?_
  obtain ⟨w1, ew1, h⟩ := z_bd h
  refine z_callSip C0 hw hS (As := [.int x1, .int 0, .int 7]) (rest := []) (c_X12_within l D Y F G S _ x1 0 7 w1 ew1) (va_cwS 3 hts gX12_says_X12_within rfl rfl rfl (by decide +kernel) ⟨Nat.le_of_ble_eq_true rfl, Nat.le_of_ble_eq_true rfl⟩) rfl hl.1 rfl (Nat.le_of_ble_eq_true rfl) dX12_says_4 ⟨Nat.zero_le _, Nat.zero_le _⟩ (fun H locs hw hS => ?_)
  refine lv_if_eq (tgt := 20) hx hb dX12_says_7 (by decide) (fun c2 => ?_) (fun c2 => ?_)
  · replace h := z_ifp c2 h
    exact t_X12_says_B20 C0 res S h _ _ _ hw hS (lv_sub hl [0] rfl)
  · replace h := z_ifn c2 h
    refine lv_iload_n hx hb dX12_says_10 rfl (lv_at hl 2 rfl) ?_
    refine lv_iconst (v := 0) hx hb dX12_says_11 (by decide) ?_
    refine lv_bipush (v := 6) hx hb dX12_says_12 (by decide) ?_
    obtain ⟨w4, ew4, h⟩ := z_bd h
    refine z_callSip C0 hw hS (As := [.int x2, .int 0, .int 6]) (rest := []) (c_X12_within l D Y F G S _ x2 0 6 w4 ew4) (va_cwS 3 hts gX12_says_X12_within rfl rfl rfl (by decide +kernel) ⟨Nat.le_of_ble_eq_true rfl, Nat.le_of_ble_eq_true rfl⟩) rfl hl.1 rfl (Nat.le_of_ble_eq_true rfl) dX12_says_14 ⟨Nat.zero_le _, Nat.zero_le _⟩ (fun H locs hw hS => ?_)
    refine lv_if_ne (tgt := 26) hx hb dX12_says_17 (by decide) (fun c5 => ?_) (fun c5 => ?_)
    · replace h := z_ifn c5 h
      refine lv_aload_n hx hb dX12_says_26 rfl (lv_at hl 0 rfl) ?_
      refine z_get C0 in_X12_says_X12 (C := RX12) (T := TX12) (N := 27) hw (k := 0) (ci := 12) (v := .ref (F 1)) rfl rfl rfl rfl 0 (by decide) rfl 1 rfl dX12_says_27 ?_
      refine lv_iload_n hx hb dX12_says_30 rfl (lv_at hl 1 rfl) ?_
      obtain ⟨b6, h⟩ := z_gd h
      refine z_iald C0 hw 1 rfl rfl zri_1 (zin_in b6) dX12_says_31 ?_
      obtain ⟨v7, ev7, h⟩ := z_bd h
      refine z_top (Option.some.inj ev7) ?_
      refine lv_istore_n (lv' := [(3, .int v7), (0, .ref (F 0)), (1, .int x1), (2, .int x2)]) hx hb dX12_says_32 rfl hl (by decide) rfl (fun ls hl => ?_)
      refine lv_iload_n hx hb dX12_says_33 rfl (lv_at hl 0 rfl) ?_
      refine lv_if_lt (tgt := 65) hx hb dX12_says_34 (by decide) (fun c8 => ?_) (fun c8 => ?_)
      · replace h := z_ifp c8 h
        exact t_X12_says_B65 C0 res S x2 v7 h _ _ _ hw hS (lv_sub hl [1, 3, 0] rfl)
      · replace h := z_ifn c8 h
        refine lv_aload_n hx hb dX12_says_37 rfl (lv_at hl 1 rfl) ?_
        refine lv_iload_n hx hb dX12_says_38 rfl (lv_at hl 2 rfl) ?_
        obtain ⟨w22, ew22, h⟩ := z_bd h
        refine z_callVip C0 hw hS (k := 0) (As := [.int x1]) (rest := []) rfl rfl rfl rfl (c_X12_isRow l D Y F G S _ x1 w22 ew22) (cwV 1 hts gX12_says_X12_isRow rfl rfl rfl (by decide +kernel) ⟨Nat.le_of_ble_eq_true rfl, Nat.le_of_ble_eq_true rfl⟩) rfl hl.1 rfl (Nat.le_of_ble_eq_true rfl) dX12_says_39 ⟨Nat.zero_le _, Nat.zero_le _⟩ (fun H locs hw hS => ?_)
        refine lv_if_ne (tgt := 58) hx hb dX12_says_42 (by decide) (fun c23 => ?_) (fun c23 => ?_)
        · replace h := z_ifn c23 h
          exact t_X12_says_B58 C0 res S h _ _ _ hw hS (lv_sub hl [1] rfl)
        · replace h := z_ifp c23 h
          refine lv_aload_n hx hb dX12_says_45 rfl (lv_at hl 1 rfl) ?_
          refine z_get C0 in_X12_says_X12 (C := RX12) (T := TX12) (N := 27) hw (k := 0) (ci := 12) (v := .ref (F 4)) rfl rfl rfl rfl 4 (by decide) rfl 2 rfl dX12_says_46 ?_
          refine lv_iload_n hx hb dX12_says_49 rfl (lv_at hl 0 rfl) ?_
          obtain ⟨b25, h⟩ := z_gd h
          refine z_iald C0 hw 4 rfl rfl zri_4 (zin_in b25) dX12_says_50 ?_
          refine lv_iload_n hx hb dX12_says_51 rfl (lv_at hl 3 rfl) ?_
          obtain ⟨w26, ew26, h⟩ := z_bd h
          refine z_callSip C0 hw hS (As := [.int ((zar S 4 (Int32.toNatClampNeg v7))), .int x2]) (rest := []) (c_X12_isUnder l D Y F G S _ ((zar S 4 (Int32.toNatClampNeg v7))) x2 w26 ew26) (va_cwS 2 hts gX12_says_X12_isUnder rfl rfl rfl (by decide +kernel) ⟨Nat.le_of_ble_eq_true rfl, Nat.le_of_ble_eq_true rfl⟩) rfl hl.1 rfl (Nat.le_of_ble_eq_true rfl) dX12_says_52 ⟨Nat.zero_le _, Nat.zero_le _⟩ (fun H locs hw hS => ?_)
          refine lv_if_ne (tgt := 65) hx hb dX12_says_55 (by decide) (fun c27 => ?_) (fun c27 => ?_)
          · replace h := z_ifn c27 h
            exact t_X12_says_B65 C0 res S x2 v7 h _ _ _ hw hS (lv_sub hl [1, 3, 0] rfl)
          · replace h := z_ifp c27 h
            exact t_X12_says_B58 C0 res S h _ _ _ hw hS (lv_sub hl [1] rfl)
    · replace h := z_ifp c5 h
      exact t_X12_says_B20 C0 res S h _ _ _ hw hS (lv_sub hl [0] rfl)
