set_option maxRecDepth 20000 in
theorem in_X11_all_X11 : ∀ w ∈ u_ws RX11 TX11 14, w ∈ wsX11_all := by decide +kernel
set_option maxRecDepth 20000 in
theorem in_X11_all_X4 : ∀ w ∈ u_ws RX4 TX4 6, w ∈ wsX11_all := by decide +kernel
set_option maxRecDepth 20000 in
theorem in_X11_ask_X11 : ∀ w ∈ u_ws RX11 TX11 14, w ∈ wsX11_ask := by decide +kernel
set_option maxRecDepth 20000 in
theorem in_X11_ask_X4 : ∀ w ∈ u_ws RX4 TX4 6, w ∈ wsX11_ask := by decide +kernel
set_option maxRecDepth 20000 in
theorem in_X11_copyOf_X11 : ∀ w ∈ u_ws RX11 TX11 14, w ∈ wsX11_copyOf := by decide +kernel
set_option maxRecDepth 20000 in
theorem in_X11_copyOf_X4 : ∀ w ∈ u_ws RX4 TX4 6, w ∈ wsX11_copyOf := by decide +kernel
set_option maxRecDepth 20000 in
theorem in_X11_drift_X11 : ∀ w ∈ u_ws RX11 TX11 14, w ∈ wsX11_drift := by decide +kernel
set_option maxRecDepth 20000 in
theorem in_X11_fault_X11 : ∀ w ∈ u_ws RX11 TX11 14, w ∈ wsX11_fault := by decide +kernel
set_option maxRecDepth 20000 in
theorem in_X11_force_X11 : ∀ w ∈ u_ws RX11 TX11 14, w ∈ wsX11_force := by decide +kernel
set_option maxRecDepth 20000 in
theorem in_X11_have_X11 : ∀ w ∈ u_ws RX11 TX11 14, w ∈ wsX11_have := by decide +kernel
set_option maxRecDepth 20000 in
theorem in_X11_have_X4 : ∀ w ∈ u_ws RX4 TX4 6, w ∈ wsX11_have := by decide +kernel
set_option maxRecDepth 20000 in
theorem in_X11_leastForce_X11 : ∀ w ∈ u_ws RX11 TX11 14, w ∈ wsX11_leastForce := by decide +kernel
set_option maxRecDepth 20000 in
theorem in_X11_leastForce_X4 : ∀ w ∈ u_ws RX4 TX4 6, w ∈ wsX11_leastForce := by decide +kernel
set_option maxRecDepth 20000 in
theorem in_X11_loss_X11 : ∀ w ∈ u_ws RX11 TX11 14, w ∈ wsX11_loss := by decide +kernel
set_option maxRecDepth 20000 in
theorem in_X11_personOf_X11 : ∀ w ∈ u_ws RX11 TX11 14, w ∈ wsX11_personOf := by decide +kernel
set_option maxRecDepth 20000 in
theorem in_X11_says_X11 : ∀ w ∈ u_ws RX11 TX11 14, w ∈ wsX11_says := by decide +kernel
set_option maxRecDepth 20000 in
theorem in_X11_says_X7 : ∀ w ∈ u_ws RX7 TX7 3, w ∈ wsX11_says := by decide +kernel
set_option maxRecDepth 20000 in
theorem in_X11_strength_X11 : ∀ w ∈ u_ws RX11 TX11 14, w ∈ wsX11_strength := by decide +kernel
set_option maxRecDepth 20000 in
theorem inP_X11_copyOf : ∀ w ∈ wsPers, w ∈ wsX11_copyOf := by decide +kernel
set_option maxRecDepth 20000 in
theorem inP_X11_drift : ∀ w ∈ wsPers, w ∈ wsX11_drift := by decide +kernel
set_option maxRecDepth 20000 in
theorem inP_X11_leastForce : ∀ w ∈ wsPers, w ∈ wsX11_leastForce := by decide +kernel
set_option maxRecDepth 20000 in
theorem inP_X11_personOf : ∀ w ∈ wsPers, w ∈ wsX11_personOf := by decide +kernel
set_option maxRecDepth 20000 in
theorem inP_X11_says : ∀ w ∈ wsPers, w ∈ wsX11_says := by decide +kernel
def M_X11_says_B20 (pk : Nat → Nat) (S : zSt) : Option (Int32 × zSt) :=
  Option.bind (M_X11_refuse pk S (-1)) (fun w3 => some (w3.1, w3.2))
set_option maxHeartbeats 4000000 in
set_option maxRecDepth 100000 in
theorem t_X11_says_B20 {p : Program} {l : Launch} {e : Env} {s : State} {m : MethodId} {args : Array Value} {below : List Frame} {meth : Method} {c : Code} {D : va_G} {Y : Nat → ClassId} {F : Nat → Nat} {A : Nat → Prop} {G : zG} (C0 : zCx p s m args meth c D Y F A RX11 cX11_says 5 (some .int) wsX11_says) (res : Int32 × zSt) : ∀ (S : zSt), M_X11_says_B20 (zpk G) S = some res → ∀ (H : Heap) (locs : List Loc) (ls : Array Slot), zH D Y F A G S H → va_S A s.heap H locs → lv_has ls 5 [(0, .ref (F 20))] → W p l e (zRm 3 64) s m args below meth c H locs 0 0 (MQ below (zQi D Y F A G res) args s 0 0 A) (F0 m 20 ls []) := by
  obtain ⟨hx, hb, hml, hr, hown, hts, hK, hA, hlk, hN⟩ := id C0
  intro S h H locs ls hw hS hl
  unfold M_X11_says_B20 at h
  refine lv_aload_n hx hb dX11_says_20 rfl (lv_at hl 0 rfl) ?_
  refine lv_iconst (v := (-1)) hx hb dX11_says_21 (by decide) ?_
  obtain ⟨w3, ew3, h⟩ := z_bd h
  refine z_goi C0 hw hS (res := w3) (rest := []) (arr := (Value.ref (F 20) :: [.int (-1)]).toArray) ?_ (fun H locs hw hS => ?_)
  · exact va_runV (z_fix C0) (c_X11_refuse l D Y F G S _ (-1) w3 ew3) (cwV 1 hts gX11_says_X11_refuse rfl rfl rfl (by decide +kernel) ⟨Nat.le_of_ble_eq_true rfl, Nat.le_of_ble_eq_true rfl⟩) ⟨zPc_blind, z_rv C0 hw (k := 20) rfl rfl rfl rfl, z_give C0 hw hS _⟩ rfl rfl hl.1 rfl (lv_room (Nat.le_of_ble_eq_true rfl)) dX11_says_22 ⟨Nat.zero_le _, Nat.zero_le _⟩
  exact z_reti C0 hw hS (Option.some.inj h) dX11_says_25
def M_X11_says_B130 (pk : Nat → Nat) (S : zSt) (o4 : Option Nat) : Option (Int32 × zSt) :=
  (zm o4 (none) (fun q15 => zg (zOKb pk q15) (some ((zsc S (100 + 4 * q15) 8), S))))
set_option maxHeartbeats 4000000 in
set_option maxRecDepth 100000 in
theorem t_X11_says_B130 {p : Program} {l : Launch} {e : Env} {s : State} {m : MethodId} {args : Array Value} {below : List Frame} {meth : Method} {c : Code} {D : va_G} {Y : Nat → ClassId} {F : Nat → Nat} {A : Nat → Prop} {G : zG} (C0 : zCx p s m args meth c D Y F A RX11 cX11_says 5 (some .int) wsX11_says) (res : Int32 × zSt) : ∀ (S : zSt) (o4 : Option Nat), M_X11_says_B130 (zpk G) S o4 = some res → ∀ (H : Heap) (locs : List Loc) (ls : Array Slot), zH D Y F A G S H → va_S A s.heap H locs → lv_has ls 5 [(4, va_rf (Option.map (zpa F G) o4))] → W p l e (zRm 3 64) s m args below meth c H locs 0 0 (MQ below (zQi D Y F A G res) args s 0 0 A) (F0 m 130 ls []) := by
  obtain ⟨hx, hb, hml, hr, hown, hts, hK, hA, hlk, hN⟩ := id C0
  intro S o4 h H locs ls hw hS hl
  unfold M_X11_says_B130 at h
  rcases o4 with _ | q15
  · replace h := zm_n h
    have hl : lv_has ls 5 [(4, .null)] := hl
    cases h
  · replace h := zm_s h
    obtain ⟨bq15, h⟩ := z_gd h
    have hq15 := bq15
    have hl : lv_has ls 5 [(4, .ref (zad F G (100 + 4 * q15)))] := hl
    refine lv_aload hx hb dX11_says_130 (lv_at hl 0 rfl) ?_
    refine z_getP C0 inP_X11_says hw hq15 8 (by decide) (v := .int ((zsc S (100 + 4 * q15) 8))) rfl 4 rfl (Or.inl rfl) dX11_says_132 ?_
    exact z_reti C0 hw hS (Option.some.inj h) dX11_says_135
def M_X11_says_B136 (pk : Nat → Nat) (S : zSt) (o4 : Option Nat) : Option (Int32 × zSt) :=
  (zm o4 (none) (fun q17 => zg (zOKb pk q17) (Option.bind (V_lossAt pk S q17 5) (fun w18 => some (w18, S)))))
set_option maxHeartbeats 4000000 in
set_option maxRecDepth 100000 in
theorem t_X11_says_B136 {p : Program} {l : Launch} {e : Env} {s : State} {m : MethodId} {args : Array Value} {below : List Frame} {meth : Method} {c : Code} {D : va_G} {Y : Nat → ClassId} {F : Nat → Nat} {A : Nat → Prop} {G : zG} (C0 : zCx p s m args meth c D Y F A RX11 cX11_says 5 (some .int) wsX11_says) (res : Int32 × zSt) : ∀ (S : zSt) (o4 : Option Nat), M_X11_says_B136 (zpk G) S o4 = some res → ∀ (H : Heap) (locs : List Loc) (ls : Array Slot), zH D Y F A G S H → va_S A s.heap H locs → lv_has ls 5 [(4, va_rf (Option.map (zpa F G) o4))] → W p l e (zRm 3 64) s m args below meth c H locs 0 0 (MQ below (zQi D Y F A G res) args s 0 0 A) (F0 m 136 ls []) := by
  obtain ⟨hx, hb, hml, hr, hown, hts, hK, hA, hlk, hN⟩ := id C0
  intro S o4 h H locs ls hw hS hl
  unfold M_X11_says_B136 at h
  rcases o4 with _ | q17
  · replace h := zm_n h
    have hl : lv_has ls 5 [(4, .null)] := hl
    cases h
  · replace h := zm_s h
    obtain ⟨bq17, h⟩ := z_gd h
    have hq17 := bq17
    have hl : lv_has ls 5 [(4, .ref (zad F G (100 + 4 * q17)))] := hl
    refine lv_aload hx hb dX11_says_136 (lv_at hl 0 rfl) ?_
    refine lv_iconst (v := 5) hx hb dX11_says_138 (by decide) ?_
    obtain ⟨w18, ew18, h⟩ := z_bd h
    refine z_goi C0 hw hS (res := (w18, S)) (rest := []) (arr := (Value.ref (zad F G (100 + 4 * q17)) :: [.int 5]).toArray) ?_ (fun H locs hw hS => ?_)
    · rcases zOK_cases hq17 with zz | zz | zz | zz | zz | zz | zz
      · exact va_runU (z_fix C0) (c_X0_lossAt l D Y F G S _ q17 hq17 5 w18 (V_lossAt_X0 zz ew18)) (va_cwO 1 hts gX11_says_X0_lossAt_u145X0 rfl rfl rfl (List.mem_of_getElem? (i := 61) rfl) (by decide +kernel) ⟨Nat.le_of_ble_eq_true rfl, Nat.le_of_ble_eq_true rfl⟩) ⟨zPc_blind, z_prec C0 hw hq17 (ci := 0) zz rfl, z_give C0 hw hS _⟩ rfl rfl hl.1 rfl (lv_room (Nat.le_of_ble_eq_true rfl)) dX11_says_139 ⟨Nat.zero_le _, Nat.zero_le _⟩
      · exact va_runU (z_fix C0) (c_X1_lossAt l D Y F G S _ q17 hq17 5 w18 (V_lossAt_X1 zz ew18)) (va_cwO 1 hts gX11_says_X1_lossAt_u145X1 rfl rfl rfl (List.mem_of_getElem? (i := 61) rfl) (by decide +kernel) ⟨Nat.le_of_ble_eq_true rfl, Nat.le_of_ble_eq_true rfl⟩) ⟨zPc_blind, z_prec C0 hw hq17 (ci := 1) zz rfl, z_give C0 hw hS _⟩ rfl rfl hl.1 rfl (lv_room (Nat.le_of_ble_eq_true rfl)) dX11_says_139 ⟨Nat.zero_le _, Nat.zero_le _⟩
      · exact va_runU (z_fix C0) (c_X2_lossAt l D Y F G S _ q17 hq17 5 w18 (V_lossAt_X2 zz ew18)) (va_cwO 1 hts gX11_says_X2_lossAt_u145X2 rfl rfl rfl (List.mem_of_getElem? (i := 61) rfl) (by decide +kernel) ⟨Nat.le_of_ble_eq_true rfl, Nat.le_of_ble_eq_true rfl⟩) ⟨zPc_blind, z_prec C0 hw hq17 (ci := 2) zz rfl, z_give C0 hw hS _⟩ rfl rfl hl.1 rfl (lv_room (Nat.le_of_ble_eq_true rfl)) dX11_says_139 ⟨Nat.zero_le _, Nat.zero_le _⟩
      · exact va_runU (z_fix C0) (c_X3_lossAt l D Y F G S _ q17 hq17 5 w18 (V_lossAt_X3 zz ew18)) (va_cwO 1 hts gX11_says_X3_lossAt_u145X3 rfl rfl rfl (List.mem_of_getElem? (i := 61) rfl) (by decide +kernel) ⟨Nat.le_of_ble_eq_true rfl, Nat.le_of_ble_eq_true rfl⟩) ⟨zPc_blind, z_prec C0 hw hq17 (ci := 3) zz rfl, z_give C0 hw hS _⟩ rfl rfl hl.1 rfl (lv_room (Nat.le_of_ble_eq_true rfl)) dX11_says_139 ⟨Nat.zero_le _, Nat.zero_le _⟩
      · exact va_runV (z_fix C0) (c_X5_lossAt l D Y F G S _ q17 hq17 5 w18 (V_lossAt_X5 zz ew18)) (cwV 1 hts gX11_says_X5_lossAt rfl rfl rfl (by decide +kernel) ⟨Nat.le_of_ble_eq_true rfl, Nat.le_of_ble_eq_true rfl⟩) ⟨zPc_blind, z_prec C0 hw hq17 (ci := 5) zz rfl, z_give C0 hw hS _⟩ rfl rfl hl.1 rfl (lv_room (Nat.le_of_ble_eq_true rfl)) dX11_says_139 ⟨Nat.zero_le _, Nat.zero_le _⟩
      · exact va_runU (z_fix C0) (c_X8_lossAt l D Y F G S _ q17 hq17 5 w18 (V_lossAt_X8 zz ew18)) (va_cwO 1 hts gX11_says_X8_lossAt_u145X8 rfl rfl rfl (List.mem_of_getElem? (i := 61) rfl) (by decide +kernel) ⟨Nat.le_of_ble_eq_true rfl, Nat.le_of_ble_eq_true rfl⟩) ⟨zPc_blind, z_prec C0 hw hq17 (ci := 8) zz rfl, z_give C0 hw hS _⟩ rfl rfl hl.1 rfl (lv_room (Nat.le_of_ble_eq_true rfl)) dX11_says_139 ⟨Nat.zero_le _, Nat.zero_le _⟩
      · exact va_runU (z_fix C0) (c_X10_lossAt l D Y F G S _ q17 hq17 5 w18 (V_lossAt_X10 zz ew18)) (va_cwO 1 hts gX11_says_X10_lossAt_u145X10 rfl rfl rfl (List.mem_of_getElem? (i := 61) rfl) (by decide +kernel) ⟨Nat.le_of_ble_eq_true rfl, Nat.le_of_ble_eq_true rfl⟩) ⟨zPc_blind, z_prec C0 hw hq17 (ci := 10) zz rfl, z_give C0 hw hS _⟩ rfl rfl hl.1 rfl (lv_room (Nat.le_of_ble_eq_true rfl)) dX11_says_139 ⟨Nat.zero_le _, Nat.zero_le _⟩
    exact z_reti C0 hw hS (Option.some.inj h) dX11_says_142
def M_X11_says_B143 (pk : Nat → Nat) (S : zSt) (o4 : Option Nat) : Option (Int32 × zSt) :=
  (zm o4 (none) (fun q21 => zg (zOKb pk q21) (Option.bind (V_lossAt pk S q21 1) (fun w22 => some (w22, S)))))
set_option maxHeartbeats 4000000 in
set_option maxRecDepth 100000 in
theorem t_X11_says_B143 {p : Program} {l : Launch} {e : Env} {s : State} {m : MethodId} {args : Array Value} {below : List Frame} {meth : Method} {c : Code} {D : va_G} {Y : Nat → ClassId} {F : Nat → Nat} {A : Nat → Prop} {G : zG} (C0 : zCx p s m args meth c D Y F A RX11 cX11_says 5 (some .int) wsX11_says) (res : Int32 × zSt) : ∀ (S : zSt) (o4 : Option Nat), M_X11_says_B143 (zpk G) S o4 = some res → ∀ (H : Heap) (locs : List Loc) (ls : Array Slot), zH D Y F A G S H → va_S A s.heap H locs → lv_has ls 5 [(4, va_rf (Option.map (zpa F G) o4))] → W p l e (zRm 3 64) s m args below meth c H locs 0 0 (MQ below (zQi D Y F A G res) args s 0 0 A) (F0 m 143 ls []) := by
  obtain ⟨hx, hb, hml, hr, hown, hts, hK, hA, hlk, hN⟩ := id C0
  intro S o4 h H locs ls hw hS hl
  unfold M_X11_says_B143 at h
  rcases o4 with _ | q21
  · replace h := zm_n h
    have hl : lv_has ls 5 [(4, .null)] := hl
    cases h
  · replace h := zm_s h
    obtain ⟨bq21, h⟩ := z_gd h
    have hq21 := bq21
    have hl : lv_has ls 5 [(4, .ref (zad F G (100 + 4 * q21)))] := hl
    refine lv_aload hx hb dX11_says_143 (lv_at hl 0 rfl) ?_
    refine lv_iconst (v := 1) hx hb dX11_says_145 (by decide) ?_
    obtain ⟨w22, ew22, h⟩ := z_bd h
    refine z_goi C0 hw hS (res := (w22, S)) (rest := []) (arr := (Value.ref (zad F G (100 + 4 * q21)) :: [.int 1]).toArray) ?_ (fun H locs hw hS => ?_)
    · rcases zOK_cases hq21 with zz | zz | zz | zz | zz | zz | zz
      · exact va_runU (z_fix C0) (c_X0_lossAt l D Y F G S _ q21 hq21 1 w22 (V_lossAt_X0 zz ew22)) (va_cwO 1 hts gX11_says_X0_lossAt_u145X0 rfl rfl rfl (List.mem_of_getElem? (i := 61) rfl) (by decide +kernel) ⟨Nat.le_of_ble_eq_true rfl, Nat.le_of_ble_eq_true rfl⟩) ⟨zPc_blind, z_prec C0 hw hq21 (ci := 0) zz rfl, z_give C0 hw hS _⟩ rfl rfl hl.1 rfl (lv_room (Nat.le_of_ble_eq_true rfl)) dX11_says_146 ⟨Nat.zero_le _, Nat.zero_le _⟩
      · exact va_runU (z_fix C0) (c_X1_lossAt l D Y F G S _ q21 hq21 1 w22 (V_lossAt_X1 zz ew22)) (va_cwO 1 hts gX11_says_X1_lossAt_u145X1 rfl rfl rfl (List.mem_of_getElem? (i := 61) rfl) (by decide +kernel) ⟨Nat.le_of_ble_eq_true rfl, Nat.le_of_ble_eq_true rfl⟩) ⟨zPc_blind, z_prec C0 hw hq21 (ci := 1) zz rfl, z_give C0 hw hS _⟩ rfl rfl hl.1 rfl (lv_room (Nat.le_of_ble_eq_true rfl)) dX11_says_146 ⟨Nat.zero_le _, Nat.zero_le _⟩
      · exact va_runU (z_fix C0) (c_X2_lossAt l D Y F G S _ q21 hq21 1 w22 (V_lossAt_X2 zz ew22)) (va_cwO 1 hts gX11_says_X2_lossAt_u145X2 rfl rfl rfl (List.mem_of_getElem? (i := 61) rfl) (by decide +kernel) ⟨Nat.le_of_ble_eq_true rfl, Nat.le_of_ble_eq_true rfl⟩) ⟨zPc_blind, z_prec C0 hw hq21 (ci := 2) zz rfl, z_give C0 hw hS _⟩ rfl rfl hl.1 rfl (lv_room (Nat.le_of_ble_eq_true rfl)) dX11_says_146 ⟨Nat.zero_le _, Nat.zero_le _⟩
      · exact va_runU (z_fix C0) (c_X3_lossAt l D Y F G S _ q21 hq21 1 w22 (V_lossAt_X3 zz ew22)) (va_cwO 1 hts gX11_says_X3_lossAt_u145X3 rfl rfl rfl (List.mem_of_getElem? (i := 61) rfl) (by decide +kernel) ⟨Nat.le_of_ble_eq_true rfl, Nat.le_of_ble_eq_true rfl⟩) ⟨zPc_blind, z_prec C0 hw hq21 (ci := 3) zz rfl, z_give C0 hw hS _⟩ rfl rfl hl.1 rfl (lv_room (Nat.le_of_ble_eq_true rfl)) dX11_says_146 ⟨Nat.zero_le _, Nat.zero_le _⟩
      · exact va_runV (z_fix C0) (c_X5_lossAt l D Y F G S _ q21 hq21 1 w22 (V_lossAt_X5 zz ew22)) (cwV 1 hts gX11_says_X5_lossAt rfl rfl rfl (by decide +kernel) ⟨Nat.le_of_ble_eq_true rfl, Nat.le_of_ble_eq_true rfl⟩) ⟨zPc_blind, z_prec C0 hw hq21 (ci := 5) zz rfl, z_give C0 hw hS _⟩ rfl rfl hl.1 rfl (lv_room (Nat.le_of_ble_eq_true rfl)) dX11_says_146 ⟨Nat.zero_le _, Nat.zero_le _⟩
      · exact va_runU (z_fix C0) (c_X8_lossAt l D Y F G S _ q21 hq21 1 w22 (V_lossAt_X8 zz ew22)) (va_cwO 1 hts gX11_says_X8_lossAt_u145X8 rfl rfl rfl (List.mem_of_getElem? (i := 61) rfl) (by decide +kernel) ⟨Nat.le_of_ble_eq_true rfl, Nat.le_of_ble_eq_true rfl⟩) ⟨zPc_blind, z_prec C0 hw hq21 (ci := 8) zz rfl, z_give C0 hw hS _⟩ rfl rfl hl.1 rfl (lv_room (Nat.le_of_ble_eq_true rfl)) dX11_says_146 ⟨Nat.zero_le _, Nat.zero_le _⟩
      · exact va_runU (z_fix C0) (c_X10_lossAt l D Y F G S _ q21 hq21 1 w22 (V_lossAt_X10 zz ew22)) (va_cwO 1 hts gX11_says_X10_lossAt_u145X10 rfl rfl rfl (List.mem_of_getElem? (i := 61) rfl) (by decide +kernel) ⟨Nat.le_of_ble_eq_true rfl, Nat.le_of_ble_eq_true rfl⟩) ⟨zPc_blind, z_prec C0 hw hq21 (ci := 10) zz rfl, z_give C0 hw hS _⟩ rfl rfl hl.1 rfl (lv_room (Nat.le_of_ble_eq_true rfl)) dX11_says_146 ⟨Nat.zero_le _, Nat.zero_le _⟩
    exact z_reti C0 hw hS (Option.some.inj h) dX11_says_149
def M_X11_says (pk : Nat → Nat) (S : zSt) (x1 : Int32) (x2 : Int32) : Option (Int32 × zSt) :=
  Option.bind (M_X11_shelfAt pk S x1) (fun w1 => (zm w1 (M_X11_says_B20 pk S) (fun q2 => zg (decide (q2 < 8)) ((if x2 < 0 then M_X11_says_B20 pk S else (if x2 < 7 then Option.bind (M_X7_hasRow pk S q2) (fun w6 => (if w6 = 0 then Option.bind (M_X4_personAt pk S 0 ((zsc S (40 + 2 * q2) 1))) (fun w8 => (zm w8 (Option.bind (M_X11_refuse pk S (-3)) (fun w10 => some (w10.1, w10.2))) (fun q9 => zg (zOKb pk q9) (Option.bind (M_X11_isOfKind pk S q9 x2) (fun w11 => (if w11 = 0 then Option.bind (M_X11_refuse pk S (-2)) (fun w25 => some (w25.1, w25.2)) else (if x2 = 0 then some ((zsc S (100 + 4 * q9) 7), S) else (if x2 = 1 then M_X11_says_B130 pk S (some q9) else (if x2 = 2 then M_X11_says_B136 pk S (some q9) else (if x2 = 3 then M_X11_says_B136 pk S (some q9) else (if x2 = 4 then M_X11_says_B143 pk S (some q9) else (if x2 = 5 then M_X11_says_B143 pk S (some q9) else (if x2 = 6 then M_X11_says_B130 pk S (some q9) else M_X11_says_B143 pk S (some q9)))))))))))))) else Option.bind (M_X11_refuse pk S (-2)) (fun w26 => some (w26.1, w26.2)))) else M_X11_says_B20 pk S))))))
set_option maxHeartbeats 4000000 in
set_option maxRecDepth 100000 in
theorem c_X11_says (l : Launch) (D : va_G) (Y : Nat → ClassId) (F : Nat → Nat) (G : zG) (S : zSt) (sz : Nat) (x1 : Int32) (x2 : Int32) (res : Int32 × zSt) (h : M_X11_says (zpk G) S x1 x2 = some res) : Met l yX11_says wsX11_says (zRm 3 64) (zPc D Y F G S sz [.ref (F 20), .int x1, .int x2]) (zQi D Y F (zAo F G sz) G res) 0 0 (zAo F G sz) := by
  unfold M_X11_says at h
  refine zMet (cc := cX11_says) (maxL := 5) (ret := (some .int)) (own := RX11) (by decide +kernel) rfl rfl (Nat.le_of_ble_eq_true rfl) ?_
  intro p e s m args below meth c C0 hin hw hS ls hl
  have hl : lv_has ls 5 [(0, .ref (F 20)), (1, .int x1), (2, .int x2)] := hl
  generalize zAo F G sz = A at C0 hw hS ⊢
  obtain ⟨hx, hb, hml, hr, hown, hts, hK, hA, hlk, hN⟩ := id C0
  refine lv_aload_n hx hb dX11_says_0 rfl (lv_at hl 0 rfl) ?_
  refine lv_iload_n hx hb dX11_says_1 rfl (lv_at hl 1 rfl) ?_
  obtain ⟨w1, ew1, h⟩ := z_bd h
  refine z_goq C0 hw hS (r0 := w1.map (zsa F G)) (rest := []) (arr := (Value.ref (F 20) :: [.int x1]).toArray) ?_ (fun H locs hw hS => ?_)
  · exact va_runV (z_fix C0) (c_X11_shelfAt l D Y F G S _ x1 w1 ew1) (cwV 1 hts gX11_says_X11_shelfAt rfl rfl rfl (by decide +kernel) ⟨Nat.le_of_ble_eq_true rfl, Nat.le_of_ble_eq_true rfl⟩) ⟨zPc_blind, z_rv C0 hw (k := 20) rfl rfl rfl rfl, z_give C0 hw hS _⟩ rfl rfl hl.1 rfl (lv_room (Nat.le_of_ble_eq_true rfl)) dX11_says_2 ⟨Nat.zero_le _, Nat.zero_le _⟩
  rcases w1 with _ | q2
  · replace h := zm_n h
    refine z_topv (y := .null) rfl ?_
    refine lv_astore_nN (lv' := [(3, .null), (0, .ref (F 20)), (1, .int x1), (2, .int x2)]) hx hb dX11_says_5 rfl hl (by decide) rfl (fun ls hl => ?_)
    refine lv_aload_nN hx hb dX11_says_6 rfl (lv_at hl 0 rfl) ?_
    refine lv_ifnullN (tgt := 20) hx hb dX11_says_7 (by decide) ?_
    exact t_X11_says_B20 C0 res S h _ _ _ hw hS (lv_sub hl [1] rfl)
  · replace h := zm_s h
    obtain ⟨bq2, h⟩ := z_gd h
    have hq2 : q2 < 8 := of_decide_eq_true bq2
    refine z_topv (y := .ref (zad F G (40 + 2 * q2))) rfl ?_
    refine lv_astore_n (lv' := [(3, .ref (zad F G (40 + 2 * q2))), (0, .ref (F 20)), (1, .int x1), (2, .int x2)]) hx hb dX11_says_5 rfl hl (by decide) rfl (fun ls hl => ?_)
    refine lv_aload_n hx hb dX11_says_6 rfl (lv_at hl 0 rfl) ?_
    refine lv_ifnull hx hb dX11_says_7 ?_
    refine lv_iload_n hx hb dX11_says_10 rfl (lv_at hl 3 rfl) ?_
    refine lv_if_lt (tgt := 20) hx hb dX11_says_11 (by decide) (fun c4 => ?_) (fun c4 => ?_)
    · replace h := z_ifp c4 h
      exact t_X11_says_B20 C0 res S h _ _ _ hw hS (lv_sub hl [1] rfl)
    · replace h := z_ifn c4 h
      refine lv_iload_n hx hb dX11_says_14 rfl (lv_at hl 3 rfl) ?_
      refine lv_bipush (v := 7) hx hb dX11_says_15 (by decide) ?_
      refine lv_icmp_lt (tgt := 26) hx hb dX11_says_17 (by decide) (fun c5 => ?_) (fun c5 => ?_)
      · replace h := z_ifp c5 h
        refine lv_aload_n hx hb dX11_says_26 rfl (lv_at hl 0 rfl) ?_
        obtain ⟨w6, ew6, h⟩ := z_bd h
        refine z_goi C0 hw hS (res := (w6, S)) (rest := []) (arr := (Value.ref (zad F G (40 + 2 * q2)) :: []).toArray) ?_ (fun H locs hw hS => ?_)
        · exact va_runV (z_fix C0) (c_X7_hasRow l D Y F G S _ q2 hq2 w6 ew6) (cwV 0 hts gX11_says_X7_hasRow rfl rfl rfl (by decide +kernel) ⟨Nat.le_of_ble_eq_true rfl, Nat.le_of_ble_eq_true rfl⟩) ⟨zPc_blind, z_rv C0 hw (k := (40 + 2 * q2)) (zsh_E hq2) rfl (zsh_B hq2) rfl, z_give C0 hw hS _⟩ rfl rfl hl.1 rfl (lv_room (Nat.le_of_ble_eq_true rfl)) dX11_says_27 ⟨Nat.zero_le _, Nat.zero_le _⟩
        refine lv_if_eq (tgt := 40) hx hb dX11_says_30 (by decide) (fun c7 => ?_) (fun c7 => ?_)
        · replace h := z_ifp c7 h
          refine lv_aload_n hx hb dX11_says_40 rfl (lv_at hl 1 rfl) ?_
          refine z_getU C0 in_X11_says_X11 (C := RX11) (T := TX11) (N := 14) hw (k := 20) (ci := 11) (v := .ref (F 60)) rfl rfl rfl rfl 3 (by decide) rfl 1 rfl (Or.inl rfl) dX11_says_41 ?_
          refine lv_aload_n hx hb dX11_says_44 rfl (lv_at hl 0 rfl) ?_
          refine z_getU C0 in_X11_says_X7 (C := RX7) (T := TX7) (N := 3) hw (k := (40 + 2 * q2)) (ci := 7) (v := .int ((zsc S (40 + 2 * q2) 1))) (zsh_E hq2) rfl (zsh_B hq2) rfl 1 (by decide) rfl 2 rfl (Or.inl rfl) dX11_says_45 ?_
          obtain ⟨w8, ew8, h⟩ := z_bd h
          refine z_goq C0 hw hS (r0 := w8.map (zpa F G)) (rest := []) (arr := (Value.ref (F 60) :: [.int ((zsc S (40 + 2 * q2) 1))]).toArray) ?_ (fun H locs hw hS => ?_)
          · exact va_runV (z_fix C0) (c_X4_personAt l D Y F G S _ 0 (by decide) ((zsc S (40 + 2 * q2) 1)) w8 ew8) (cwV 1 hts gX11_says_X4_personAt rfl rfl rfl (by decide +kernel) ⟨Nat.le_of_ble_eq_true rfl, Nat.le_of_ble_eq_true rfl⟩) ⟨zPc_blind, z_rv C0 hw (k := 60) rfl rfl rfl rfl, z_give C0 hw hS _⟩ rfl rfl hl.1 rfl (lv_room (Nat.le_of_ble_eq_true rfl)) dX11_says_48 ⟨Nat.zero_le _, Nat.zero_le _⟩
          rcases w8 with _ | q9
          · replace h := zm_n h
            refine z_topv (y := .null) rfl ?_
            refine lv_astoreN (lv' := [(4, .null), (3, .ref (zad F G (40 + 2 * q2))), (0, .ref (F 20)), (1, .int x1), (2, .int x2)]) hx hb dX11_says_51 hl (by decide) rfl (fun ls hl => ?_)
            refine lv_aloadN hx hb dX11_says_53 (lv_at hl 0 rfl) ?_
            refine lv_ifnonnullN hx hb dX11_says_55 ?_
            refine lv_aload_n hx hb dX11_says_58 rfl (lv_at hl 2 rfl) ?_
            refine lv_bipush (v := (-3)) hx hb dX11_says_59 (by decide) ?_
            obtain ⟨w10, ew10, h⟩ := z_bd h
            refine z_goi C0 hw hS (res := w10) (rest := []) (arr := (Value.ref (F 20) :: [.int (-3)]).toArray) ?_ (fun H locs hw hS => ?_)
            · exact va_runV (z_fix C0) (c_X11_refuse l D Y F G S _ (-3) w10 ew10) (cwV 1 hts gX11_says_X11_refuse rfl rfl rfl (by decide +kernel) ⟨Nat.le_of_ble_eq_true rfl, Nat.le_of_ble_eq_true rfl⟩) ⟨zPc_blind, z_rv C0 hw (k := 20) rfl rfl rfl rfl, z_give C0 hw hS _⟩ rfl rfl hl.1 rfl (lv_room (Nat.le_of_ble_eq_true rfl)) dX11_says_61 ⟨Nat.zero_le _, Nat.zero_le _⟩
            exact z_reti C0 hw hS (Option.some.inj h) dX11_says_64
          · replace h := zm_s h
            obtain ⟨bq9, h⟩ := z_gd h
            have hq9 := bq9
            refine z_topv (y := .ref (zad F G (100 + 4 * q9))) rfl ?_
            refine lv_astore (lv' := [(4, .ref (zad F G (100 + 4 * q9))), (3, .ref (zad F G (40 + 2 * q2))), (0, .ref (F 20)), (1, .int x1), (2, .int x2)]) hx hb dX11_says_51 hl (by decide) rfl (fun ls hl => ?_)
            refine lv_aload hx hb dX11_says_53 (lv_at hl 0 rfl) ?_
            refine lv_ifnonnull (tgt := 65) hx hb dX11_says_55 (by decide) ?_
            refine lv_aload hx hb dX11_says_65 (lv_at hl 0 rfl) ?_
            refine lv_iload_n hx hb dX11_says_67 rfl (lv_at hl 4 rfl) ?_
            obtain ⟨w11, ew11, h⟩ := z_bd h
            refine z_goi C0 hw hS (res := (w11, S)) (rest := []) (arr := ([.ref (zad F G (100 + 4 * q9)), .int x2] : List Value).toArray) ?_ (fun H locs hw hS => ?_)
            · exact va_runS (z_fix C0) (c_X11_isOfKind l D Y F G S _ q9 hq9 x2 w11 ew11) (va_cwS 2 hts gX11_says_X11_isOfKind rfl rfl rfl (by decide +kernel) ⟨Nat.le_of_ble_eq_true rfl, Nat.le_of_ble_eq_true rfl⟩) ⟨zPc_blind, z_give C0 hw hS _⟩ rfl rfl hl.1 rfl (lv_room (Nat.le_of_ble_eq_true rfl)) dX11_says_68 ⟨Nat.zero_le _, Nat.zero_le _⟩
            refine lv_if_ne (tgt := 81) hx hb dX11_says_71 (by decide) (fun c12 => ?_) (fun c12 => ?_)
            · replace h := z_ifn c12 h
              refine lv_iload_n hx hb dX11_says_81 rfl (lv_at hl 4 rfl) ?_
              by_cases c13 : x2 = 0
              · replace h := z_ifp c13 h
                refine z_top c13 ?_
                refine lv_tableIn (off := 42) (tgt := 124) hx hb dX11_says_82 (by decide) (by decide) rfl (by decide) ?_
                refine lv_aload hx hb dX11_says_124 (lv_at hl 0 rfl) ?_
                refine z_getP C0 inP_X11_says hw hq9 7 (by decide) (v := .int ((zsc S (100 + 4 * q9) 7))) rfl 3 rfl (Or.inl rfl) dX11_says_126 ?_
                exact z_reti C0 hw hS (Option.some.inj h) dX11_says_129
              · replace h := z_ifn c13 h
                by_cases c14 : x2 = 1
                · replace h := z_ifp c14 h
                  refine z_top c14 ?_
                  refine lv_tableIn (off := 48) (tgt := 130) hx hb dX11_says_82 (by decide) (by decide) rfl (by decide) ?_
                  exact t_X11_says_B130 C0 res S (some q9) h _ _ _ hw hS (lv_sub hl [0] rfl)
                · replace h := z_ifn c14 h
                  by_cases c16 : x2 = 2
                  · replace h := z_ifp c16 h
                    refine z_top c16 ?_
                    refine lv_tableIn (off := 54) (tgt := 136) hx hb dX11_says_82 (by decide) (by decide) rfl (by decide) ?_
                    exact t_X11_says_B136 C0 res S (some q9) h _ _ _ hw hS (lv_sub hl [0] rfl)
                  · replace h := z_ifn c16 h
                    by_cases c19 : x2 = 3
                    · replace h := z_ifp c19 h
                      refine z_top c19 ?_
                      refine lv_tableIn (off := 54) (tgt := 136) hx hb dX11_says_82 (by decide) (by decide) rfl (by decide) ?_
                      exact t_X11_says_B136 C0 res S (some q9) h _ _ _ hw hS (lv_sub hl [0] rfl)
                    · replace h := z_ifn c19 h
                      by_cases c20 : x2 = 4
                      · replace h := z_ifp c20 h
                        refine z_top c20 ?_
                        refine lv_tableIn (off := 61) (tgt := 143) hx hb dX11_says_82 (by decide) (by decide) rfl (by decide) ?_
                        exact t_X11_says_B143 C0 res S (some q9) h _ _ _ hw hS (lv_sub hl [0] rfl)
                      · replace h := z_ifn c20 h
                        by_cases c23 : x2 = 5
                        · replace h := z_ifp c23 h
                          refine z_top c23 ?_
                          refine lv_tableIn (off := 61) (tgt := 143) hx hb dX11_says_82 (by decide) (by decide) rfl (by decide) ?_
                          exact t_X11_says_B143 C0 res S (some q9) h _ _ _ hw hS (lv_sub hl [0] rfl)
                        · replace h := z_ifn c23 h
                          by_cases c24 : x2 = 6
                          · replace h := z_ifp c24 h
                            refine z_top c24 ?_
                            refine lv_tableIn (off := 48) (tgt := 130) hx hb dX11_says_82 (by decide) (by decide) rfl (by decide) ?_
                            exact t_X11_says_B130 C0 res S (some q9) h _ _ _ hw hS (lv_sub hl [0] rfl)
                          · replace h := z_ifn c24 h
                            have nc13 : Int32.toInt x2 ≠ 0 := fun q => c13 (Int32.toInt_inj.mp (q.trans (by decide)))
                            have nc14 : Int32.toInt x2 ≠ 1 := fun q => c14 (Int32.toInt_inj.mp (q.trans (by decide)))
                            have nc16 : Int32.toInt x2 ≠ 2 := fun q => c16 (Int32.toInt_inj.mp (q.trans (by decide)))
                            have nc19 : Int32.toInt x2 ≠ 3 := fun q => c19 (Int32.toInt_inj.mp (q.trans (by decide)))
                            have nc20 : Int32.toInt x2 ≠ 4 := fun q => c20 (Int32.toInt_inj.mp (q.trans (by decide)))
                            have nc23 : Int32.toInt x2 ≠ 5 := fun q => c23 (Int32.toInt_inj.mp (q.trans (by decide)))
                            have nc24 : Int32.toInt x2 ≠ 6 := fun q => c24 (Int32.toInt_inj.mp (q.trans (by decide)))
                            refine lv_tableOut (tgt := 143) hx hb dX11_says_82 (by omega) (by decide) ?_
                            exact t_X11_says_B143 C0 res S (some q9) h _ _ _ hw hS (lv_sub hl [0] rfl)
            · replace h := z_ifp c12 h
              refine lv_aload_n hx hb dX11_says_74 rfl (lv_at hl 2 rfl) ?_
              refine lv_bipush (v := (-2)) hx hb dX11_says_75 (by decide) ?_
              obtain ⟨w25, ew25, h⟩ := z_bd h
              refine z_goi C0 hw hS (res := w25) (rest := []) (arr := (Value.ref (F 20) :: [.int (-2)]).toArray) ?_ (fun H locs hw hS => ?_)
              · exact va_runV (z_fix C0) (c_X11_refuse l D Y F G S _ (-2) w25 ew25) (cwV 1 hts gX11_says_X11_refuse rfl rfl rfl (by decide +kernel) ⟨Nat.le_of_ble_eq_true rfl, Nat.le_of_ble_eq_true rfl⟩) ⟨zPc_blind, z_rv C0 hw (k := 20) rfl rfl rfl rfl, z_give C0 hw hS _⟩ rfl rfl hl.1 rfl (lv_room (Nat.le_of_ble_eq_true rfl)) dX11_says_77 ⟨Nat.zero_le _, Nat.zero_le _⟩
              exact z_reti C0 hw hS (Option.some.inj h) dX11_says_80
        · replace h := z_ifn c7 h
          refine lv_aload_n hx hb dX11_says_33 rfl (lv_at hl 1 rfl) ?_
          refine lv_bipush (v := (-2)) hx hb dX11_says_34 (by decide) ?_
          obtain ⟨w26, ew26, h⟩ := z_bd h
          refine z_goi C0 hw hS (res := w26) (rest := []) (arr := (Value.ref (F 20) :: [.int (-2)]).toArray) ?_ (fun H locs hw hS => ?_)
          · exact va_runV (z_fix C0) (c_X11_refuse l D Y F G S _ (-2) w26 ew26) (cwV 1 hts gX11_says_X11_refuse rfl rfl rfl (by decide +kernel) ⟨Nat.le_of_ble_eq_true rfl, Nat.le_of_ble_eq_true rfl⟩) ⟨zPc_blind, z_rv C0 hw (k := 20) rfl rfl rfl rfl, z_give C0 hw hS _⟩ rfl rfl hl.1 rfl (lv_room (Nat.le_of_ble_eq_true rfl)) dX11_says_36 ⟨Nat.zero_le _, Nat.zero_le _⟩
          exact z_reti C0 hw hS (Option.some.inj h) dX11_says_39
      · replace h := z_ifn c5 h
        exact t_X11_says_B20 C0 res S h _ _ _ hw hS (lv_sub hl [1] rfl)
def M_X11_ask_B11 (pk : Nat → Nat) (S : zSt) : Option (Int32 × zSt) :=
  Option.bind (M_X11_refuse pk S (-6)) (fun w2 => some (w2.1, w2.2))
set_option maxHeartbeats 4000000 in
set_option maxRecDepth 100000 in
theorem t_X11_ask_B11 {p : Program} {l : Launch} {e : Env} {s : State} {m : MethodId} {args : Array Value} {below : List Frame} {meth : Method} {c : Code} {D : va_G} {Y : Nat → ClassId} {F : Nat → Nat} {A : Nat → Prop} {G : zG} (C0 : zCx p s m args meth c D Y F A RX11 cX11_ask 3 (some .int) wsX11_ask) (res : Int32 × zSt) : ∀ (S : zSt), M_X11_ask_B11 (zpk G) S = some res → ∀ (H : Heap) (locs : List Loc) (ls : Array Slot), zH D Y F A G S H → va_S A s.heap H locs → lv_has ls 3 [(0, .ref (F 20))] → W p l e (zRm 2 43) s m args below meth c H locs 0 0 (MQ below (zQi D Y F A G res) args s 0 0 A) (F0 m 11 ls []) := by
  obtain ⟨hx, hb, hml, hr, hown, hts, hK, hA, hlk, hN⟩ := id C0
  intro S h H locs ls hw hS hl
  unfold M_X11_ask_B11 at h
  refine lv_aload_n hx hb dX11_ask_11 rfl (lv_at hl 0 rfl) ?_
  refine lv_bipush (v := (-6)) hx hb dX11_ask_12 (by decide) ?_
  obtain ⟨w2, ew2, h⟩ := z_bd h
  refine z_goi C0 hw hS (res := w2) (rest := []) (arr := (Value.ref (F 20) :: [.int (-6)]).toArray) ?_ (fun H locs hw hS => ?_)
  · exact va_runV (z_fix C0) (c_X11_refuse l D Y F G S _ (-6) w2 ew2) (cwV 1 hts gX11_ask_X11_refuse rfl rfl rfl (by decide +kernel) ⟨Nat.le_of_ble_eq_true rfl, Nat.le_of_ble_eq_true rfl⟩) ⟨zPc_blind, z_rv C0 hw (k := 20) rfl rfl rfl rfl, z_give C0 hw hS _⟩ rfl rfl hl.1 rfl (lv_room (Nat.le_of_ble_eq_true rfl)) dX11_ask_14 ⟨Nat.zero_le _, Nat.zero_le _⟩
  exact z_reti C0 hw hS (Option.some.inj h) dX11_ask_17
def M_X11_ask (pk : Nat → Nat) (S : zSt) (x1 : Int32) : Option (Int32 × zSt) :=
  (if x1 < 1 then M_X11_ask_B11 pk S else (if x1 ≤ 99 then some ((zsc S 60 4), (zP S 60 4 x1)) else M_X11_ask_B11 pk S))
set_option maxHeartbeats 4000000 in
set_option maxRecDepth 100000 in
theorem c_X11_ask (l : Launch) (D : va_G) (Y : Nat → ClassId) (F : Nat → Nat) (G : zG) (S : zSt) (sz : Nat) (x1 : Int32) (res : Int32 × zSt) (h : M_X11_ask (zpk G) S x1 = some res) : Met l yX11_ask wsX11_ask (zRm 2 43) (zPc D Y F G S sz [.ref (F 20), .int x1]) (zQi D Y F (zAo F G sz) G res) 0 0 (zAo F G sz) := by
  unfold M_X11_ask at h
  refine zMet (cc := cX11_ask) (maxL := 3) (ret := (some .int)) (own := RX11) (by decide +kernel) rfl rfl (Nat.le_of_ble_eq_true rfl) ?_
  intro p e s m args below meth c C0 hin hw hS ls hl
  have hl : lv_has ls 3 [(0, .ref (F 20)), (1, .int x1)] := hl
  generalize zAo F G sz = A at C0 hw hS ⊢
  obtain ⟨hx, hb, hml, hr, hown, hts, hK, hA, hlk, hN⟩ := id C0
  refine lv_iload_n hx hb dX11_ask_0 rfl (lv_at hl 1 rfl) ?_
  refine lv_iconst (v := 1) hx hb dX11_ask_1 (by decide) ?_
  refine lv_icmp_lt (tgt := 11) hx hb dX11_ask_2 (by decide) (fun c1 => ?_) (fun c1 => ?_)
  · replace h := z_ifp c1 h
    exact t_X11_ask_B11 C0 res S h _ _ _ hw hS (lv_sub hl [0] rfl)
  · replace h := z_ifn c1 h
    refine lv_iload_n hx hb dX11_ask_5 rfl (lv_at hl 1 rfl) ?_
    refine lv_bipush (v := 99) hx hb dX11_ask_6 (by decide) ?_
    refine lv_icmp_le (tgt := 18) hx hb dX11_ask_8 (by decide) (fun c3 => ?_) (fun c3 => ?_)
    · replace h := z_ifp c3 h
      refine lv_aload_n hx hb dX11_ask_18 rfl (lv_at hl 0 rfl) ?_
      refine z_getU C0 in_X11_ask_X11 (C := RX11) (T := TX11) (N := 14) hw (k := 20) (ci := 11) (v := .ref (F 60)) rfl rfl rfl rfl 3 (by decide) rfl 1 rfl (Or.inl rfl) dX11_ask_19 ?_
      refine z_getU C0 in_X11_ask_X4 (C := RX4) (T := TX4) (N := 6) hw (k := 60) (ci := 4) (v := .int ((zsc S 60 4))) rfl rfl rfl rfl 4 (by decide) rfl 2 rfl (Or.inl rfl) dX11_ask_22 ?_
      refine lv_istore_n (lv' := [(2, .int ((zsc S 60 4))), (0, .ref (F 20)), (1, .int x1)]) hx hb dX11_ask_25 rfl hl (by decide) rfl (fun ls hl => ?_)
      refine lv_aload_n hx hb dX11_ask_26 rfl (lv_at hl 1 rfl) ?_
      refine z_getU C0 in_X11_ask_X11 (C := RX11) (T := TX11) (N := 14) hw (k := 20) (ci := 11) (v := .ref (F 60)) rfl rfl rfl rfl 3 (by decide) rfl 1 rfl (Or.inl rfl) dX11_ask_27 ?_
      refine lv_iload_n hx hb dX11_ask_30 rfl (lv_at hl 2 rfl) ?_
      refine z_putU C0 in_X11_ask_X4 tyX4 tyX4_ok nmX4 (C := RX4) (T := TX4) (N := 6) hw hS (k := 60) (ci := 4) (v := x1) rfl rfl rfl rfl 4 (by decide) 2 rfl rfl rfl rfl (Nat.le_of_ble_eq_true rfl) rfl dX11_ask_31 (fun H locs hw hS => ?_)
      refine lv_iload_n hx hb dX11_ask_34 rfl (lv_at hl 0 rfl) ?_
      exact z_reti C0 hw hS (Option.some.inj h) dX11_ask_35
    · replace h := z_ifn c3 h
      exact t_X11_ask_B11 C0 res S h _ _ _ hw hS (lv_sub hl [0] rfl)
def M_X11_personOf (pk : Nat → Nat) (S : zSt) (x1 : Int32) (x2 : Int32) : Option (Int32 × zSt) :=
  Option.bind (M_X4_personAt pk S 0 x1) (fun w1 => (zm w1 (Option.bind (M_X11_refuse pk S (-5)) (fun w3 => some (w3.1, w3.2))) (fun q2 => zg (zOKb pk q2) ((if x2 = 0 then some ((zsc S (100 + 4 * q2) 0), S) else (if x2 = 1 then some ((zsc S (100 + 4 * q2) 6), S) else (if x2 = 2 then some ((zsc S (100 + 4 * q2) 7), S) else (if x2 = 3 then some ((zsc S (100 + 4 * q2) 8), S) else (if x2 = 4 then Option.bind (M_X5_readSum pk S q2) (fun w9 => some (w9, S)) else (if x2 = 5 then Option.bind (M_X5_smearSum pk S q2) (fun w11 => some (w11, S)) else Option.bind (M_X11_refuse pk S (-5)) (fun w12 => some (w12.1, w12.2))))))))))))
set_option maxHeartbeats 4000000 in
set_option maxRecDepth 100000 in
theorem c_X11_personOf (l : Launch) (D : va_G) (Y : Nat → ClassId) (F : Nat → Nat) (G : zG) (S : zSt) (sz : Nat) (x1 : Int32) (x2 : Int32) (res : Int32 × zSt) (h : M_X11_personOf (zpk G) S x1 x2 = some res) : Met l yX11_personOf wsX11_personOf (zRm 3 64) (zPc D Y F G S sz [.ref (F 20), .int x1, .int x2]) (zQi D Y F (zAo F G sz) G res) 0 0 (zAo F G sz) := by
  unfold M_X11_personOf at h
  refine zMet (cc := cX11_personOf) (maxL := 4) (ret := (some .int)) (own := RX11) (by decide +kernel) rfl rfl (Nat.le_of_ble_eq_true rfl) ?_
  intro p e s m args below meth c C0 hin hw hS ls hl
  have hl : lv_has ls 4 [(0, .ref (F 20)), (1, .int x1), (2, .int x2)] := hl
  generalize zAo F G sz = A at C0 hw hS ⊢
  obtain ⟨hx, hb, hml, hr, hown, hts, hK, hA, hlk, hN⟩ := id C0
  refine lv_aload_n hx hb dX11_personOf_0 rfl (lv_at hl 0 rfl) ?_
  refine z_getU C0 in_X11_personOf_X11 (C := RX11) (T := TX11) (N := 14) hw (k := 20) (ci := 11) (v := .ref (F 60)) rfl rfl rfl rfl 3 (by decide) rfl 1 rfl (Or.inl rfl) dX11_personOf_1 ?_
  refine lv_iload_n hx hb dX11_personOf_4 rfl (lv_at hl 1 rfl) ?_
  obtain ⟨w1, ew1, h⟩ := z_bd h
  refine z_goq C0 hw hS (r0 := w1.map (zpa F G)) (rest := []) (arr := (Value.ref (F 60) :: [.int x1]).toArray) ?_ (fun H locs hw hS => ?_)
  · exact va_runV (z_fix C0) (c_X4_personAt l D Y F G S _ 0 (by decide) x1 w1 ew1) (cwV 1 hts gX11_personOf_X4_personAt rfl rfl rfl (by decide +kernel) ⟨Nat.le_of_ble_eq_true rfl, Nat.le_of_ble_eq_true rfl⟩) ⟨zPc_blind, z_rv C0 hw (k := 60) rfl rfl rfl rfl, z_give C0 hw hS _⟩ rfl rfl hl.1 rfl (lv_room (Nat.le_of_ble_eq_true rfl)) dX11_personOf_5 ⟨Nat.zero_le _, Nat.zero_le _⟩
  rcases w1 with _ | q2
  · replace h := zm_n h
    refine z_topv (y := .null) rfl ?_
    refine lv_astore_nN (lv' := [(3, .null), (0, .ref (F 20)), (1, .int x1), (2, .int x2)]) hx hb dX11_personOf_8 rfl hl (by decide) rfl (fun ls hl => ?_)
    refine lv_aload_nN hx hb dX11_personOf_9 rfl (lv_at hl 0 rfl) ?_
    refine lv_ifnonnullN hx hb dX11_personOf_10 ?_
    refine lv_aload_n hx hb dX11_personOf_13 rfl (lv_at hl 1 rfl) ?_
    refine lv_bipush (v := (-5)) hx hb dX11_personOf_14 (by decide) ?_
    obtain ⟨w3, ew3, h⟩ := z_bd h
    refine z_goi C0 hw hS (res := w3) (rest := []) (arr := (Value.ref (F 20) :: [.int (-5)]).toArray) ?_ (fun H locs hw hS => ?_)
    · exact va_runV (z_fix C0) (c_X11_refuse l D Y F G S _ (-5) w3 ew3) (cwV 1 hts gX11_personOf_X11_refuse rfl rfl rfl (by decide +kernel) ⟨Nat.le_of_ble_eq_true rfl, Nat.le_of_ble_eq_true rfl⟩) ⟨zPc_blind, z_rv C0 hw (k := 20) rfl rfl rfl rfl, z_give C0 hw hS _⟩ rfl rfl hl.1 rfl (lv_room (Nat.le_of_ble_eq_true rfl)) dX11_personOf_16 ⟨Nat.zero_le _, Nat.zero_le _⟩
    exact z_reti C0 hw hS (Option.some.inj h) dX11_personOf_19
  · replace h := zm_s h
    obtain ⟨bq2, h⟩ := z_gd h
    have hq2 := bq2
    refine z_topv (y := .ref (zad F G (100 + 4 * q2))) rfl ?_
    refine lv_astore_n (lv' := [(3, .ref (zad F G (100 + 4 * q2))), (0, .ref (F 20)), (1, .int x1), (2, .int x2)]) hx hb dX11_personOf_8 rfl hl (by decide) rfl (fun ls hl => ?_)
    refine lv_aload_n hx hb dX11_personOf_9 rfl (lv_at hl 0 rfl) ?_
    refine lv_ifnonnull (tgt := 20) hx hb dX11_personOf_10 (by decide) ?_
    refine lv_iload_n hx hb dX11_personOf_20 rfl (lv_at hl 3 rfl) ?_
    by_cases c4 : x2 = 0
    · replace h := z_ifp c4 h
      refine z_top c4 ?_
      refine lv_tableIn (off := 39) (tgt := 60) hx hb dX11_personOf_21 (by decide) (by decide) rfl (by decide) ?_
      refine lv_aload_n hx hb dX11_personOf_60 rfl (lv_at hl 0 rfl) ?_
      refine z_getP C0 inP_X11_personOf hw hq2 0 (by decide) (v := .int ((zsc S (100 + 4 * q2) 0))) rfl 2 rfl (Or.inl rfl) dX11_personOf_61 ?_
      exact z_reti C0 hw hS (Option.some.inj h) dX11_personOf_64
    · replace h := z_ifn c4 h
      by_cases c5 : x2 = 1
      · replace h := z_ifp c5 h
        refine z_top c5 ?_
        refine lv_tableIn (off := 44) (tgt := 65) hx hb dX11_personOf_21 (by decide) (by decide) rfl (by decide) ?_
        refine lv_aload_n hx hb dX11_personOf_65 rfl (lv_at hl 0 rfl) ?_
        refine z_getP C0 inP_X11_personOf hw hq2 6 (by decide) (v := .int ((zsc S (100 + 4 * q2) 6))) rfl 3 rfl (Or.inl rfl) dX11_personOf_66 ?_
        exact z_reti C0 hw hS (Option.some.inj h) dX11_personOf_69
      · replace h := z_ifn c5 h
        by_cases c6 : x2 = 2
        · replace h := z_ifp c6 h
          refine z_top c6 ?_
          refine lv_tableIn (off := 49) (tgt := 70) hx hb dX11_personOf_21 (by decide) (by decide) rfl (by decide) ?_
          refine lv_aload_n hx hb dX11_personOf_70 rfl (lv_at hl 0 rfl) ?_
          refine z_getP C0 inP_X11_personOf hw hq2 7 (by decide) (v := .int ((zsc S (100 + 4 * q2) 7))) rfl 4 rfl (Or.inl rfl) dX11_personOf_71 ?_
          exact z_reti C0 hw hS (Option.some.inj h) dX11_personOf_74
        · replace h := z_ifn c6 h
          by_cases c7 : x2 = 3
          · replace h := z_ifp c7 h
            refine z_top c7 ?_
            refine lv_tableIn (off := 54) (tgt := 75) hx hb dX11_personOf_21 (by decide) (by decide) rfl (by decide) ?_
            refine lv_aload_n hx hb dX11_personOf_75 rfl (lv_at hl 0 rfl) ?_
            refine z_getP C0 inP_X11_personOf hw hq2 8 (by decide) (v := .int ((zsc S (100 + 4 * q2) 8))) rfl 5 rfl (Or.inl rfl) dX11_personOf_76 ?_
            exact z_reti C0 hw hS (Option.some.inj h) dX11_personOf_79
          · replace h := z_ifn c7 h
            by_cases c8 : x2 = 4
            · replace h := z_ifp c8 h
              refine z_top c8 ?_
              refine lv_tableIn (off := 59) (tgt := 80) hx hb dX11_personOf_21 (by decide) (by decide) rfl (by decide) ?_
              refine lv_aload_n hx hb dX11_personOf_80 rfl (lv_at hl 0 rfl) ?_
              obtain ⟨w9, ew9, h⟩ := z_bd h
              refine z_goi C0 hw hS (res := (w9, S)) (rest := []) (arr := (Value.ref (zad F G (100 + 4 * q2)) :: []).toArray) ?_ (fun H locs hw hS => ?_)
              · rcases zOK_cases hq2 with zz | zz | zz | zz | zz | zz | zz
                · exact va_runU (z_fix C0) (c_X5_readSum l D Y F G S _ q2 hq2 w9 ew9) (va_cwU 0 hts gX11_personOf_X5_readSum_u164X0 rfl rfl rfl rfl (by decide +kernel) ⟨Nat.le_of_ble_eq_true rfl, Nat.le_of_ble_eq_true rfl⟩) ⟨zPc_blind, z_prec C0 hw hq2 (ci := 0) zz rfl, z_give C0 hw hS _⟩ rfl rfl hl.1 rfl (lv_room (Nat.le_of_ble_eq_true rfl)) dX11_personOf_81 ⟨Nat.zero_le _, Nat.zero_le _⟩
                · exact va_runU (z_fix C0) (c_X5_readSum l D Y F G S _ q2 hq2 w9 ew9) (va_cwU 0 hts gX11_personOf_X5_readSum_u164X1 rfl rfl rfl rfl (by decide +kernel) ⟨Nat.le_of_ble_eq_true rfl, Nat.le_of_ble_eq_true rfl⟩) ⟨zPc_blind, z_prec C0 hw hq2 (ci := 1) zz rfl, z_give C0 hw hS _⟩ rfl rfl hl.1 rfl (lv_room (Nat.le_of_ble_eq_true rfl)) dX11_personOf_81 ⟨Nat.zero_le _, Nat.zero_le _⟩
                · exact va_runU (z_fix C0) (c_X5_readSum l D Y F G S _ q2 hq2 w9 ew9) (va_cwU 0 hts gX11_personOf_X5_readSum_u164X2 rfl rfl rfl rfl (by decide +kernel) ⟨Nat.le_of_ble_eq_true rfl, Nat.le_of_ble_eq_true rfl⟩) ⟨zPc_blind, z_prec C0 hw hq2 (ci := 2) zz rfl, z_give C0 hw hS _⟩ rfl rfl hl.1 rfl (lv_room (Nat.le_of_ble_eq_true rfl)) dX11_personOf_81 ⟨Nat.zero_le _, Nat.zero_le _⟩
                · exact va_runU (z_fix C0) (c_X5_readSum l D Y F G S _ q2 hq2 w9 ew9) (va_cwU 0 hts gX11_personOf_X5_readSum_u164X3 rfl rfl rfl rfl (by decide +kernel) ⟨Nat.le_of_ble_eq_true rfl, Nat.le_of_ble_eq_true rfl⟩) ⟨zPc_blind, z_prec C0 hw hq2 (ci := 3) zz rfl, z_give C0 hw hS _⟩ rfl rfl hl.1 rfl (lv_room (Nat.le_of_ble_eq_true rfl)) dX11_personOf_81 ⟨Nat.zero_le _, Nat.zero_le _⟩
                · exact va_runV (z_fix C0) (c_X5_readSum l D Y F G S _ q2 hq2 w9 ew9) (cwV 0 hts gX11_personOf_X5_readSum rfl rfl rfl (by decide +kernel) ⟨Nat.le_of_ble_eq_true rfl, Nat.le_of_ble_eq_true rfl⟩) ⟨zPc_blind, z_prec C0 hw hq2 (ci := 5) zz rfl, z_give C0 hw hS _⟩ rfl rfl hl.1 rfl (lv_room (Nat.le_of_ble_eq_true rfl)) dX11_personOf_81 ⟨Nat.zero_le _, Nat.zero_le _⟩
                · exact va_runU (z_fix C0) (c_X5_readSum l D Y F G S _ q2 hq2 w9 ew9) (va_cwU 0 hts gX11_personOf_X5_readSum_u164X8 rfl rfl rfl rfl (by decide +kernel) ⟨Nat.le_of_ble_eq_true rfl, Nat.le_of_ble_eq_true rfl⟩) ⟨zPc_blind, z_prec C0 hw hq2 (ci := 8) zz rfl, z_give C0 hw hS _⟩ rfl rfl hl.1 rfl (lv_room (Nat.le_of_ble_eq_true rfl)) dX11_personOf_81 ⟨Nat.zero_le _, Nat.zero_le _⟩
                · exact va_runU (z_fix C0) (c_X5_readSum l D Y F G S _ q2 hq2 w9 ew9) (va_cwU 0 hts gX11_personOf_X5_readSum_u164X10 rfl rfl rfl rfl (by decide +kernel) ⟨Nat.le_of_ble_eq_true rfl, Nat.le_of_ble_eq_true rfl⟩) ⟨zPc_blind, z_prec C0 hw hq2 (ci := 10) zz rfl, z_give C0 hw hS _⟩ rfl rfl hl.1 rfl (lv_room (Nat.le_of_ble_eq_true rfl)) dX11_personOf_81 ⟨Nat.zero_le _, Nat.zero_le _⟩
              exact z_reti C0 hw hS (Option.some.inj h) dX11_personOf_84
            · replace h := z_ifn c8 h
              by_cases c10 : x2 = 5
              · replace h := z_ifp c10 h
                refine z_top c10 ?_
                refine lv_tableIn (off := 64) (tgt := 85) hx hb dX11_personOf_21 (by decide) (by decide) rfl (by decide) ?_
                refine lv_aload_n hx hb dX11_personOf_85 rfl (lv_at hl 0 rfl) ?_
                obtain ⟨w11, ew11, h⟩ := z_bd h
                refine z_goi C0 hw hS (res := (w11, S)) (rest := []) (arr := (Value.ref (zad F G (100 + 4 * q2)) :: []).toArray) ?_ (fun H locs hw hS => ?_)
                · rcases zOK_cases hq2 with zz | zz | zz | zz | zz | zz | zz
                  · exact va_runU (z_fix C0) (c_X5_smearSum l D Y F G S _ q2 hq2 w11 ew11) (va_cwU 0 hts gX11_personOf_X5_smearSum_u168X0 rfl rfl rfl rfl (by decide +kernel) ⟨Nat.le_of_ble_eq_true rfl, Nat.le_of_ble_eq_true rfl⟩) ⟨zPc_blind, z_prec C0 hw hq2 (ci := 0) zz rfl, z_give C0 hw hS _⟩ rfl rfl hl.1 rfl (lv_room (Nat.le_of_ble_eq_true rfl)) dX11_personOf_86 ⟨Nat.zero_le _, Nat.zero_le _⟩
                  · exact va_runU (z_fix C0) (c_X5_smearSum l D Y F G S _ q2 hq2 w11 ew11) (va_cwU 0 hts gX11_personOf_X5_smearSum_u168X1 rfl rfl rfl rfl (by decide +kernel) ⟨Nat.le_of_ble_eq_true rfl, Nat.le_of_ble_eq_true rfl⟩) ⟨zPc_blind, z_prec C0 hw hq2 (ci := 1) zz rfl, z_give C0 hw hS _⟩ rfl rfl hl.1 rfl (lv_room (Nat.le_of_ble_eq_true rfl)) dX11_personOf_86 ⟨Nat.zero_le _, Nat.zero_le _⟩
                  · exact va_runU (z_fix C0) (c_X5_smearSum l D Y F G S _ q2 hq2 w11 ew11) (va_cwU 0 hts gX11_personOf_X5_smearSum_u168X2 rfl rfl rfl rfl (by decide +kernel) ⟨Nat.le_of_ble_eq_true rfl, Nat.le_of_ble_eq_true rfl⟩) ⟨zPc_blind, z_prec C0 hw hq2 (ci := 2) zz rfl, z_give C0 hw hS _⟩ rfl rfl hl.1 rfl (lv_room (Nat.le_of_ble_eq_true rfl)) dX11_personOf_86 ⟨Nat.zero_le _, Nat.zero_le _⟩
                  · exact va_runU (z_fix C0) (c_X5_smearSum l D Y F G S _ q2 hq2 w11 ew11) (va_cwU 0 hts gX11_personOf_X5_smearSum_u168X3 rfl rfl rfl rfl (by decide +kernel) ⟨Nat.le_of_ble_eq_true rfl, Nat.le_of_ble_eq_true rfl⟩) ⟨zPc_blind, z_prec C0 hw hq2 (ci := 3) zz rfl, z_give C0 hw hS _⟩ rfl rfl hl.1 rfl (lv_room (Nat.le_of_ble_eq_true rfl)) dX11_personOf_86 ⟨Nat.zero_le _, Nat.zero_le _⟩
                  · exact va_runV (z_fix C0) (c_X5_smearSum l D Y F G S _ q2 hq2 w11 ew11) (cwV 0 hts gX11_personOf_X5_smearSum rfl rfl rfl (by decide +kernel) ⟨Nat.le_of_ble_eq_true rfl, Nat.le_of_ble_eq_true rfl⟩) ⟨zPc_blind, z_prec C0 hw hq2 (ci := 5) zz rfl, z_give C0 hw hS _⟩ rfl rfl hl.1 rfl (lv_room (Nat.le_of_ble_eq_true rfl)) dX11_personOf_86 ⟨Nat.zero_le _, Nat.zero_le _⟩
                  · exact va_runU (z_fix C0) (c_X5_smearSum l D Y F G S _ q2 hq2 w11 ew11) (va_cwU 0 hts gX11_personOf_X5_smearSum_u168X8 rfl rfl rfl rfl (by decide +kernel) ⟨Nat.le_of_ble_eq_true rfl, Nat.le_of_ble_eq_true rfl⟩) ⟨zPc_blind, z_prec C0 hw hq2 (ci := 8) zz rfl, z_give C0 hw hS _⟩ rfl rfl hl.1 rfl (lv_room (Nat.le_of_ble_eq_true rfl)) dX11_personOf_86 ⟨Nat.zero_le _, Nat.zero_le _⟩
                  · exact va_runU (z_fix C0) (c_X5_smearSum l D Y F G S _ q2 hq2 w11 ew11) (va_cwU 0 hts gX11_personOf_X5_smearSum_u168X10 rfl rfl rfl rfl (by decide +kernel) ⟨Nat.le_of_ble_eq_true rfl, Nat.le_of_ble_eq_true rfl⟩) ⟨zPc_blind, z_prec C0 hw hq2 (ci := 10) zz rfl, z_give C0 hw hS _⟩ rfl rfl hl.1 rfl (lv_room (Nat.le_of_ble_eq_true rfl)) dX11_personOf_86 ⟨Nat.zero_le _, Nat.zero_le _⟩
                exact z_reti C0 hw hS (Option.some.inj h) dX11_personOf_89
              · replace h := z_ifn c10 h
                have nc4 : Int32.toInt x2 ≠ 0 := fun q => c4 (Int32.toInt_inj.mp (q.trans (by decide)))
                have nc5 : Int32.toInt x2 ≠ 1 := fun q => c5 (Int32.toInt_inj.mp (q.trans (by decide)))
                have nc6 : Int32.toInt x2 ≠ 2 := fun q => c6 (Int32.toInt_inj.mp (q.trans (by decide)))
                have nc7 : Int32.toInt x2 ≠ 3 := fun q => c7 (Int32.toInt_inj.mp (q.trans (by decide)))
                have nc8 : Int32.toInt x2 ≠ 4 := fun q => c8 (Int32.toInt_inj.mp (q.trans (by decide)))
                have nc10 : Int32.toInt x2 ≠ 5 := fun q => c10 (Int32.toInt_inj.mp (q.trans (by decide)))
                refine lv_tableOut (tgt := 90) hx hb dX11_personOf_21 (by omega) (by decide) ?_
                refine lv_aload_n hx hb dX11_personOf_90 rfl (lv_at hl 1 rfl) ?_
                refine lv_bipush (v := (-5)) hx hb dX11_personOf_91 (by decide) ?_
                obtain ⟨w12, ew12, h⟩ := z_bd h
                refine z_goi C0 hw hS (res := w12) (rest := []) (arr := (Value.ref (F 20) :: [.int (-5)]).toArray) ?_ (fun H locs hw hS => ?_)
                · exact va_runV (z_fix C0) (c_X11_refuse l D Y F G S _ (-5) w12 ew12) (cwV 1 hts gX11_personOf_X11_refuse rfl rfl rfl (by decide +kernel) ⟨Nat.le_of_ble_eq_true rfl, Nat.le_of_ble_eq_true rfl⟩) ⟨zPc_blind, z_rv C0 hw (k := 20) rfl rfl rfl rfl, z_give C0 hw hS _⟩ rfl rfl hl.1 rfl (lv_room (Nat.le_of_ble_eq_true rfl)) dX11_personOf_93 ⟨Nat.zero_le _, Nat.zero_le _⟩
                exact z_reti C0 hw hS (Option.some.inj h) dX11_personOf_96
def M_X11_copyOf_B22 (pk : Nat → Nat) (S : zSt) : Option (Int32 × zSt) :=
  Option.bind (M_X11_refuse pk S (-5)) (fun w3 => some (w3.1, w3.2))
set_option maxHeartbeats 4000000 in
set_option maxRecDepth 100000 in
theorem t_X11_copyOf_B22 {p : Program} {l : Launch} {e : Env} {s : State} {m : MethodId} {args : Array Value} {below : List Frame} {meth : Method} {c : Code} {D : va_G} {Y : Nat → ClassId} {F : Nat → Nat} {A : Nat → Prop} {G : zG} (C0 : zCx p s m args meth c D Y F A RX11 cX11_copyOf 5 (some .int) wsX11_copyOf) (res : Int32 × zSt) : ∀ (S : zSt), M_X11_copyOf_B22 (zpk G) S = some res → ∀ (H : Heap) (locs : List Loc) (ls : Array Slot), zH D Y F A G S H → va_S A s.heap H locs → lv_has ls 5 [(0, .ref (F 20))] → W p l e (zRm 3 66) s m args below meth c H locs 0 0 (MQ below (zQi D Y F A G res) args s 0 0 A) (F0 m 22 ls []) := by
  obtain ⟨hx, hb, hml, hr, hown, hts, hK, hA, hlk, hN⟩ := id C0
  intro S h H locs ls hw hS hl
  unfold M_X11_copyOf_B22 at h
  refine lv_aload_n hx hb dX11_copyOf_22 rfl (lv_at hl 0 rfl) ?_
  refine lv_bipush (v := (-5)) hx hb dX11_copyOf_23 (by decide) ?_
  obtain ⟨w3, ew3, h⟩ := z_bd h
  refine z_goi C0 hw hS (res := w3) (rest := []) (arr := (Value.ref (F 20) :: [.int (-5)]).toArray) ?_ (fun H locs hw hS => ?_)
  · exact va_runV (z_fix C0) (c_X11_refuse l D Y F G S _ (-5) w3 ew3) (cwV 1 hts gX11_copyOf_X11_refuse rfl rfl rfl (by decide +kernel) ⟨Nat.le_of_ble_eq_true rfl, Nat.le_of_ble_eq_true rfl⟩) ⟨zPc_blind, z_rv C0 hw (k := 20) rfl rfl rfl rfl, z_give C0 hw hS _⟩ rfl rfl hl.1 rfl (lv_room (Nat.le_of_ble_eq_true rfl)) dX11_copyOf_25 ⟨Nat.zero_le _, Nat.zero_le _⟩
  exact z_reti C0 hw hS (Option.some.inj h) dX11_copyOf_28
def M_X11_copyOf (pk : Nat → Nat) (S : zSt) (x1 : Int32) (x2 : Int32) (x3 : Int32) : Option (Int32 × zSt) :=
  Option.bind (M_X4_personAt pk S 0 x1) (fun w1 => (zm w1 (M_X11_copyOf_B22 pk S) (fun q2 => zg (zOKb pk q2) (Option.bind (M_X11_isCopy pk S x2) (fun w4 => (if w4 = 0 then M_X11_copyOf_B22 pk S else (if x3 = 0 then zg (zin x2 6) (some ((zar S ((100 + 4 * q2 + 2)) (Int32.toNatClampNeg x2)), S)) else (if x3 = 1 then Option.bind (M_X5_hasBits pk S q2 x2 ((zsc S 60 4))) (fun w9 => some (w9, S)) else (if x3 = 2 then Option.bind (M_X5_isLeft pk S q2 x2) (fun w11 => (if w11 = 0 then some (1, S) else some (0, S))) else Option.bind (M_X11_refuse pk S (-5)) (fun w13 => some (w13.1, w13.2)))))))))))
set_option maxHeartbeats 4000000 in
set_option maxRecDepth 100000 in
theorem c_X11_copyOf (l : Launch) (D : va_G) (Y : Nat → ClassId) (F : Nat → Nat) (G : zG) (S : zSt) (sz : Nat) (x1 : Int32) (x2 : Int32) (x3 : Int32) (res : Int32 × zSt) (h : M_X11_copyOf (zpk G) S x1 x2 x3 = some res) : Met l yX11_copyOf wsX11_copyOf (zRm 3 66) (zPc D Y F G S sz [.ref (F 20), .int x1, .int x2, .int x3]) (zQi D Y F (zAo F G sz) G res) 0 0 (zAo F G sz) := by
  unfold M_X11_copyOf at h
  refine zMet (cc := cX11_copyOf) (maxL := 5) (ret := (some .int)) (own := RX11) (by decide +kernel) rfl rfl (Nat.le_of_ble_eq_true rfl) ?_
  intro p e s m args below meth c C0 hin hw hS ls hl
  have hl : lv_has ls 5 [(0, .ref (F 20)), (1, .int x1), (2, .int x2), (3, .int x3)] := hl
  generalize zAo F G sz = A at C0 hw hS ⊢
  obtain ⟨hx, hb, hml, hr, hown, hts, hK, hA, hlk, hN⟩ := id C0
  refine lv_aload_n hx hb dX11_copyOf_0 rfl (lv_at hl 0 rfl) ?_
  refine z_getU C0 in_X11_copyOf_X11 (C := RX11) (T := TX11) (N := 14) hw (k := 20) (ci := 11) (v := .ref (F 60)) rfl rfl rfl rfl 3 (by decide) rfl 1 rfl (Or.inl rfl) dX11_copyOf_1 ?_
  refine lv_iload_n hx hb dX11_copyOf_4 rfl (lv_at hl 1 rfl) ?_
  obtain ⟨w1, ew1, h⟩ := z_bd h
  refine z_goq C0 hw hS (r0 := w1.map (zpa F G)) (rest := []) (arr := (Value.ref (F 60) :: [.int x1]).toArray) ?_ (fun H locs hw hS => ?_)
  · exact va_runV (z_fix C0) (c_X4_personAt l D Y F G S _ 0 (by decide) x1 w1 ew1) (cwV 1 hts gX11_copyOf_X4_personAt rfl rfl rfl (by decide +kernel) ⟨Nat.le_of_ble_eq_true rfl, Nat.le_of_ble_eq_true rfl⟩) ⟨zPc_blind, z_rv C0 hw (k := 60) rfl rfl rfl rfl, z_give C0 hw hS _⟩ rfl rfl hl.1 rfl (lv_room (Nat.le_of_ble_eq_true rfl)) dX11_copyOf_5 ⟨Nat.zero_le _, Nat.zero_le _⟩
  rcases w1 with _ | q2
  · replace h := zm_n h
    refine z_topv (y := .null) rfl ?_
    refine lv_astoreN (lv' := [(4, .null), (0, .ref (F 20)), (1, .int x1), (2, .int x2), (3, .int x3)]) hx hb dX11_copyOf_8 hl (by decide) rfl (fun ls hl => ?_)
    refine lv_aloadN hx hb dX11_copyOf_10 (lv_at hl 0 rfl) ?_
    refine lv_ifnullN (tgt := 22) hx hb dX11_copyOf_12 (by decide) ?_
    exact t_X11_copyOf_B22 C0 res S h _ _ _ hw hS (lv_sub hl [1] rfl)
  · replace h := zm_s h
    obtain ⟨bq2, h⟩ := z_gd h
    have hq2 := bq2
    refine z_topv (y := .ref (zad F G (100 + 4 * q2))) rfl ?_
    refine lv_astore (lv' := [(4, .ref (zad F G (100 + 4 * q2))), (0, .ref (F 20)), (1, .int x1), (2, .int x2), (3, .int x3)]) hx hb dX11_copyOf_8 hl (by decide) rfl (fun ls hl => ?_)
    refine lv_aload hx hb dX11_copyOf_10 (lv_at hl 0 rfl) ?_
    refine lv_ifnull hx hb dX11_copyOf_12 ?_
    refine lv_iload_n hx hb dX11_copyOf_15 rfl (lv_at hl 3 rfl) ?_
    obtain ⟨w4, ew4, h⟩ := z_bd h
    refine z_goi C0 hw hS (res := (w4, S)) (rest := []) (arr := ([.int x2] : List Value).toArray) ?_ (fun H locs hw hS => ?_)
    · exact va_runS (z_fix C0) (c_X11_isCopy l D Y F G S _ x2 w4 ew4) (va_cwS 1 hts gX11_copyOf_X11_isCopy rfl rfl rfl (by decide +kernel) ⟨Nat.le_of_ble_eq_true rfl, Nat.le_of_ble_eq_true rfl⟩) ⟨zPc_blind, z_give C0 hw hS _⟩ rfl rfl hl.1 rfl (lv_room (Nat.le_of_ble_eq_true rfl)) dX11_copyOf_16 ⟨Nat.zero_le _, Nat.zero_le _⟩
    refine lv_if_ne (tgt := 29) hx hb dX11_copyOf_19 (by decide) (fun c5 => ?_) (fun c5 => ?_)
    · replace h := z_ifn c5 h
      refine lv_iload_n hx hb dX11_copyOf_29 rfl (lv_at hl 4 rfl) ?_
      by_cases c6 : x3 = 0
      · replace h := z_ifp c6 h
        refine z_top c6 ?_
        refine lv_tableIn (off := 26) (tgt := 56) hx hb dX11_copyOf_30 (by decide) (by decide) rfl (by decide) ?_
        refine lv_aload hx hb dX11_copyOf_56 (lv_at hl 0 rfl) ?_
        refine z_getP C0 inP_X11_copyOf hw hq2 4 (by decide) (v := .ref (zad F G (100 + 4 * q2 + 2))) rfl 2 rfl (Or.inl rfl) dX11_copyOf_58 ?_
        refine lv_iload_n hx hb dX11_copyOf_61 rfl (lv_at hl 3 rfl) ?_
        obtain ⟨b7, h⟩ := z_gd h
        refine z_iald C0 hw ((100 + 4 * q2 + 2)) (zOK_E hq2 2 (by decide)) rfl (zPR2 q2) (zin_in b7) dX11_copyOf_62 ?_
        exact z_reti C0 hw hS (Option.some.inj h) dX11_copyOf_63
      · replace h := z_ifn c6 h
        by_cases c8 : x3 = 1
        · replace h := z_ifp c8 h
          refine z_top c8 ?_
          refine lv_tableIn (off := 34) (tgt := 64) hx hb dX11_copyOf_30 (by decide) (by decide) rfl (by decide) ?_
          refine lv_aload hx hb dX11_copyOf_64 (lv_at hl 0 rfl) ?_
          refine lv_iload_n hx hb dX11_copyOf_66 rfl (lv_at hl 3 rfl) ?_
          refine lv_aload_n hx hb dX11_copyOf_67 rfl (lv_at hl 1 rfl) ?_
          refine z_getU C0 in_X11_copyOf_X11 (C := RX11) (T := TX11) (N := 14) hw (k := 20) (ci := 11) (v := .ref (F 60)) rfl rfl rfl rfl 3 (by decide) rfl 1 rfl (Or.inl rfl) dX11_copyOf_68 ?_
          refine z_getU C0 in_X11_copyOf_X4 (C := RX4) (T := TX4) (N := 6) hw (k := 60) (ci := 4) (v := .int ((zsc S 60 4))) rfl rfl rfl rfl 4 (by decide) rfl 3 rfl (Or.inl rfl) dX11_copyOf_71 ?_
          obtain ⟨w9, ew9, h⟩ := z_bd h
          refine z_goi C0 hw hS (res := (w9, S)) (rest := []) (arr := (Value.ref (zad F G (100 + 4 * q2)) :: [.int x2, .int ((zsc S 60 4))]).toArray) ?_ (fun H locs hw hS => ?_)
          · rcases zOK_cases hq2 with zz | zz | zz | zz | zz | zz | zz
            · exact va_runU (z_fix C0) (c_X5_hasBits l D Y F G S _ q2 hq2 x2 ((zsc S 60 4)) w9 ew9) (va_cwU 2 hts gX11_copyOf_X5_hasBits_u177X0 rfl rfl rfl rfl (by decide +kernel) ⟨Nat.le_of_ble_eq_true rfl, Nat.le_of_ble_eq_true rfl⟩) ⟨zPc_blind, z_prec C0 hw hq2 (ci := 0) zz rfl, z_give C0 hw hS _⟩ rfl rfl hl.1 rfl (lv_room (Nat.le_of_ble_eq_true rfl)) dX11_copyOf_74 ⟨Nat.zero_le _, Nat.zero_le _⟩
            · exact va_runU (z_fix C0) (c_X5_hasBits l D Y F G S _ q2 hq2 x2 ((zsc S 60 4)) w9 ew9) (va_cwU 2 hts gX11_copyOf_X5_hasBits_u177X1 rfl rfl rfl rfl (by decide +kernel) ⟨Nat.le_of_ble_eq_true rfl, Nat.le_of_ble_eq_true rfl⟩) ⟨zPc_blind, z_prec C0 hw hq2 (ci := 1) zz rfl, z_give C0 hw hS _⟩ rfl rfl hl.1 rfl (lv_room (Nat.le_of_ble_eq_true rfl)) dX11_copyOf_74 ⟨Nat.zero_le _, Nat.zero_le _⟩
            · exact va_runU (z_fix C0) (c_X5_hasBits l D Y F G S _ q2 hq2 x2 ((zsc S 60 4)) w9 ew9) (va_cwU 2 hts gX11_copyOf_X5_hasBits_u177X2 rfl rfl rfl rfl (by decide +kernel) ⟨Nat.le_of_ble_eq_true rfl, Nat.le_of_ble_eq_true rfl⟩) ⟨zPc_blind, z_prec C0 hw hq2 (ci := 2) zz rfl, z_give C0 hw hS _⟩ rfl rfl hl.1 rfl (lv_room (Nat.le_of_ble_eq_true rfl)) dX11_copyOf_74 ⟨Nat.zero_le _, Nat.zero_le _⟩
            · exact va_runU (z_fix C0) (c_X5_hasBits l D Y F G S _ q2 hq2 x2 ((zsc S 60 4)) w9 ew9) (va_cwU 2 hts gX11_copyOf_X5_hasBits_u177X3 rfl rfl rfl rfl (by decide +kernel) ⟨Nat.le_of_ble_eq_true rfl, Nat.le_of_ble_eq_true rfl⟩) ⟨zPc_blind, z_prec C0 hw hq2 (ci := 3) zz rfl, z_give C0 hw hS _⟩ rfl rfl hl.1 rfl (lv_room (Nat.le_of_ble_eq_true rfl)) dX11_copyOf_74 ⟨Nat.zero_le _, Nat.zero_le _⟩
            · exact va_runV (z_fix C0) (c_X5_hasBits l D Y F G S _ q2 hq2 x2 ((zsc S 60 4)) w9 ew9) (cwV 2 hts gX11_copyOf_X5_hasBits rfl rfl rfl (by decide +kernel) ⟨Nat.le_of_ble_eq_true rfl, Nat.le_of_ble_eq_true rfl⟩) ⟨zPc_blind, z_prec C0 hw hq2 (ci := 5) zz rfl, z_give C0 hw hS _⟩ rfl rfl hl.1 rfl (lv_room (Nat.le_of_ble_eq_true rfl)) dX11_copyOf_74 ⟨Nat.zero_le _, Nat.zero_le _⟩
            · exact va_runU (z_fix C0) (c_X5_hasBits l D Y F G S _ q2 hq2 x2 ((zsc S 60 4)) w9 ew9) (va_cwU 2 hts gX11_copyOf_X5_hasBits_u177X8 rfl rfl rfl rfl (by decide +kernel) ⟨Nat.le_of_ble_eq_true rfl, Nat.le_of_ble_eq_true rfl⟩) ⟨zPc_blind, z_prec C0 hw hq2 (ci := 8) zz rfl, z_give C0 hw hS _⟩ rfl rfl hl.1 rfl (lv_room (Nat.le_of_ble_eq_true rfl)) dX11_copyOf_74 ⟨Nat.zero_le _, Nat.zero_le _⟩
            · exact va_runU (z_fix C0) (c_X5_hasBits l D Y F G S _ q2 hq2 x2 ((zsc S 60 4)) w9 ew9) (va_cwU 2 hts gX11_copyOf_X5_hasBits_u177X10 rfl rfl rfl rfl (by decide +kernel) ⟨Nat.le_of_ble_eq_true rfl, Nat.le_of_ble_eq_true rfl⟩) ⟨zPc_blind, z_prec C0 hw hq2 (ci := 10) zz rfl, z_give C0 hw hS _⟩ rfl rfl hl.1 rfl (lv_room (Nat.le_of_ble_eq_true rfl)) dX11_copyOf_74 ⟨Nat.zero_le _, Nat.zero_le _⟩
          exact z_reti C0 hw hS (Option.some.inj h) dX11_copyOf_77
        · replace h := z_ifn c8 h
          by_cases c10 : x3 = 2
          · replace h := z_ifp c10 h
            refine z_top c10 ?_
            refine lv_tableIn (off := 48) (tgt := 78) hx hb dX11_copyOf_30 (by decide) (by decide) rfl (by decide) ?_
            refine lv_aload hx hb dX11_copyOf_78 (lv_at hl 0 rfl) ?_
            refine lv_iload_n hx hb dX11_copyOf_80 rfl (lv_at hl 3 rfl) ?_
            obtain ⟨w11, ew11, h⟩ := z_bd h
            refine z_goi C0 hw hS (res := (w11, S)) (rest := []) (arr := (Value.ref (zad F G (100 + 4 * q2)) :: [.int x2]).toArray) ?_ (fun H locs hw hS => ?_)
            · rcases zOK_cases hq2 with zz | zz | zz | zz | zz | zz | zz
              · exact va_runU (z_fix C0) (c_X5_isLeft l D Y F G S _ q2 hq2 x2 w11 ew11) (va_cwU 1 hts gX11_copyOf_X5_isLeft_u181X0 rfl rfl rfl rfl (by decide +kernel) ⟨Nat.le_of_ble_eq_true rfl, Nat.le_of_ble_eq_true rfl⟩) ⟨zPc_blind, z_prec C0 hw hq2 (ci := 0) zz rfl, z_give C0 hw hS _⟩ rfl rfl hl.1 rfl (lv_room (Nat.le_of_ble_eq_true rfl)) dX11_copyOf_81 ⟨Nat.zero_le _, Nat.zero_le _⟩
              · exact va_runU (z_fix C0) (c_X5_isLeft l D Y F G S _ q2 hq2 x2 w11 ew11) (va_cwU 1 hts gX11_copyOf_X5_isLeft_u181X1 rfl rfl rfl rfl (by decide +kernel) ⟨Nat.le_of_ble_eq_true rfl, Nat.le_of_ble_eq_true rfl⟩) ⟨zPc_blind, z_prec C0 hw hq2 (ci := 1) zz rfl, z_give C0 hw hS _⟩ rfl rfl hl.1 rfl (lv_room (Nat.le_of_ble_eq_true rfl)) dX11_copyOf_81 ⟨Nat.zero_le _, Nat.zero_le _⟩
              · exact va_runU (z_fix C0) (c_X5_isLeft l D Y F G S _ q2 hq2 x2 w11 ew11) (va_cwU 1 hts gX11_copyOf_X5_isLeft_u181X2 rfl rfl rfl rfl (by decide +kernel) ⟨Nat.le_of_ble_eq_true rfl, Nat.le_of_ble_eq_true rfl⟩) ⟨zPc_blind, z_prec C0 hw hq2 (ci := 2) zz rfl, z_give C0 hw hS _⟩ rfl rfl hl.1 rfl (lv_room (Nat.le_of_ble_eq_true rfl)) dX11_copyOf_81 ⟨Nat.zero_le _, Nat.zero_le _⟩
              · exact va_runU (z_fix C0) (c_X5_isLeft l D Y F G S _ q2 hq2 x2 w11 ew11) (va_cwU 1 hts gX11_copyOf_X5_isLeft_u181X3 rfl rfl rfl rfl (by decide +kernel) ⟨Nat.le_of_ble_eq_true rfl, Nat.le_of_ble_eq_true rfl⟩) ⟨zPc_blind, z_prec C0 hw hq2 (ci := 3) zz rfl, z_give C0 hw hS _⟩ rfl rfl hl.1 rfl (lv_room (Nat.le_of_ble_eq_true rfl)) dX11_copyOf_81 ⟨Nat.zero_le _, Nat.zero_le _⟩
              · exact va_runV (z_fix C0) (c_X5_isLeft l D Y F G S _ q2 hq2 x2 w11 ew11) (cwV 1 hts gX11_copyOf_X5_isLeft rfl rfl rfl (by decide +kernel) ⟨Nat.le_of_ble_eq_true rfl, Nat.le_of_ble_eq_true rfl⟩) ⟨zPc_blind, z_prec C0 hw hq2 (ci := 5) zz rfl, z_give C0 hw hS _⟩ rfl rfl hl.1 rfl (lv_room (Nat.le_of_ble_eq_true rfl)) dX11_copyOf_81 ⟨Nat.zero_le _, Nat.zero_le _⟩
              · exact va_runU (z_fix C0) (c_X5_isLeft l D Y F G S _ q2 hq2 x2 w11 ew11) (va_cwU 1 hts gX11_copyOf_X5_isLeft_u181X8 rfl rfl rfl rfl (by decide +kernel) ⟨Nat.le_of_ble_eq_true rfl, Nat.le_of_ble_eq_true rfl⟩) ⟨zPc_blind, z_prec C0 hw hq2 (ci := 8) zz rfl, z_give C0 hw hS _⟩ rfl rfl hl.1 rfl (lv_room (Nat.le_of_ble_eq_true rfl)) dX11_copyOf_81 ⟨Nat.zero_le _, Nat.zero_le _⟩
              · exact va_runU (z_fix C0) (c_X5_isLeft l D Y F G S _ q2 hq2 x2 w11 ew11) (va_cwU 1 hts gX11_copyOf_X5_isLeft_u181X10 rfl rfl rfl rfl (by decide +kernel) ⟨Nat.le_of_ble_eq_true rfl, Nat.le_of_ble_eq_true rfl⟩) ⟨zPc_blind, z_prec C0 hw hq2 (ci := 10) zz rfl, z_give C0 hw hS _⟩ rfl rfl hl.1 rfl (lv_room (Nat.le_of_ble_eq_true rfl)) dX11_copyOf_81 ⟨Nat.zero_le _, Nat.zero_le _⟩
            refine lv_if_eq (tgt := 91) hx hb dX11_copyOf_84 (by decide) (fun c12 => ?_) (fun c12 => ?_)
            · replace h := z_ifp c12 h
              refine lv_iconst (v := 1) hx hb dX11_copyOf_91 (by decide) ?_
              exact z_reti C0 hw hS (Option.some.inj h) dX11_copyOf_92
            · replace h := z_ifn c12 h
              refine lv_iconst (v := 0) hx hb dX11_copyOf_87 (by decide) ?_
              refine lv_goto (tgt := 92) hx hb dX11_copyOf_88 (by decide) ?_
              exact z_reti C0 hw hS (Option.some.inj h) dX11_copyOf_92
          · replace h := z_ifn c10 h
            have nc6 : Int32.toInt x3 ≠ 0 := fun q => c6 (Int32.toInt_inj.mp (q.trans (by decide)))
            have nc8 : Int32.toInt x3 ≠ 1 := fun q => c8 (Int32.toInt_inj.mp (q.trans (by decide)))
            have nc10 : Int32.toInt x3 ≠ 2 := fun q => c10 (Int32.toInt_inj.mp (q.trans (by decide)))
            refine lv_tableOut (tgt := 93) hx hb dX11_copyOf_30 (by omega) (by decide) ?_
            refine lv_aload_n hx hb dX11_copyOf_93 rfl (lv_at hl 1 rfl) ?_
            refine lv_bipush (v := (-5)) hx hb dX11_copyOf_94 (by decide) ?_
            obtain ⟨w13, ew13, h⟩ := z_bd h
            refine z_goi C0 hw hS (res := w13) (rest := []) (arr := (Value.ref (F 20) :: [.int (-5)]).toArray) ?_ (fun H locs hw hS => ?_)
            · exact va_runV (z_fix C0) (c_X11_refuse l D Y F G S _ (-5) w13 ew13) (cwV 1 hts gX11_copyOf_X11_refuse rfl rfl rfl (by decide +kernel) ⟨Nat.le_of_ble_eq_true rfl, Nat.le_of_ble_eq_true rfl⟩) ⟨zPc_blind, z_rv C0 hw (k := 20) rfl rfl rfl rfl, z_give C0 hw hS _⟩ rfl rfl hl.1 rfl (lv_room (Nat.le_of_ble_eq_true rfl)) dX11_copyOf_96 ⟨Nat.zero_le _, Nat.zero_le _⟩
            exact z_reti C0 hw hS (Option.some.inj h) dX11_copyOf_99
    · replace h := z_ifp c5 h
      exact t_X11_copyOf_B22 C0 res S h _ _ _ hw hS (lv_sub hl [1] rfl)
def M_X11_strength_B29 (pk : Nat → Nat) (S : zSt) : Option (Int32 × zSt) :=
  Option.bind (M_X11_refuse pk S (-5)) (fun w3 => some (w3.1, w3.2))
set_option maxHeartbeats 4000000 in
set_option maxRecDepth 100000 in
theorem t_X11_strength_B29 {p : Program} {l : Launch} {e : Env} {s : State} {m : MethodId} {args : Array Value} {below : List Frame} {meth : Method} {c : Code} {D : va_G} {Y : Nat → ClassId} {F : Nat → Nat} {A : Nat → Prop} {G : zG} (C0 : zCx p s m args meth c D Y F A RX11 cX11_strength 5 (some .int) wsX11_strength) (res : Int32 × zSt) : ∀ (S : zSt), M_X11_strength_B29 (zpk G) S = some res → ∀ (H : Heap) (locs : List Loc) (ls : Array Slot), zH D Y F A G S H → va_S A s.heap H locs → lv_has ls 5 [(0, .ref (F 20))] → W p l e (zRm 2 43) s m args below meth c H locs 0 0 (MQ below (zQi D Y F A G res) args s 0 0 A) (F0 m 29 ls []) := by
  obtain ⟨hx, hb, hml, hr, hown, hts, hK, hA, hlk, hN⟩ := id C0
  intro S h H locs ls hw hS hl
  unfold M_X11_strength_B29 at h
  refine lv_aload_n hx hb dX11_strength_29 rfl (lv_at hl 0 rfl) ?_
  refine lv_bipush (v := (-5)) hx hb dX11_strength_30 (by decide) ?_
  obtain ⟨w3, ew3, h⟩ := z_bd h
  refine z_goi C0 hw hS (res := w3) (rest := []) (arr := (Value.ref (F 20) :: [.int (-5)]).toArray) ?_ (fun H locs hw hS => ?_)
  · exact va_runV (z_fix C0) (c_X11_refuse l D Y F G S _ (-5) w3 ew3) (cwV 1 hts gX11_strength_X11_refuse rfl rfl rfl (by decide +kernel) ⟨Nat.le_of_ble_eq_true rfl, Nat.le_of_ble_eq_true rfl⟩) ⟨zPc_blind, z_rv C0 hw (k := 20) rfl rfl rfl rfl, z_give C0 hw hS _⟩ rfl rfl hl.1 rfl (lv_room (Nat.le_of_ble_eq_true rfl)) dX11_strength_32 ⟨Nat.zero_le _, Nat.zero_le _⟩
  exact z_reti C0 hw hS (Option.some.inj h) dX11_strength_35
def M_X11_strength (pk : Nat → Nat) (S : zSt) (x1 : Int32) (x2 : Int32) (x3 : Int32) : Option (Int32 × zSt) :=
  Option.bind (M_X4_personAt pk S 0 x1) (fun w1 => (zm w1 (M_X11_strength_B29 pk S) (fun q2 => zg (zOKb pk q2) (Option.bind (M_X11_isCopy pk S x2) (fun w4 => (if w4 = 0 then M_X11_strength_B29 pk S else Option.bind (M_X11_isDeed pk S x3) (fun w6 => (if w6 = 0 then M_X11_strength_B29 pk S else Option.bind (M_X5_strengthOf pk S q2 x2 x3) (fun w8 => some (w8, S))))))))))
set_option maxHeartbeats 4000000 in
set_option maxRecDepth 100000 in
theorem c_X11_strength (l : Launch) (D : va_G) (Y : Nat → ClassId) (F : Nat → Nat) (G : zG) (S : zSt) (sz : Nat) (x1 : Int32) (x2 : Int32) (x3 : Int32) (res : Int32 × zSt) (h : M_X11_strength (zpk G) S x1 x2 x3 = some res) : Met l yX11_strength wsX11_strength (zRm 2 43) (zPc D Y F G S sz [.ref (F 20), .int x1, .int x2, .int x3]) (zQi D Y F (zAo F G sz) G res) 0 0 (zAo F G sz) := by
  unfold M_X11_strength at h
  refine zMet (cc := cX11_strength) (maxL := 5) (ret := (some .int)) (own := RX11) (by decide +kernel) rfl rfl (Nat.le_of_ble_eq_true rfl) ?_
  intro p e s m args below meth c C0 hin hw hS ls hl
  have hl : lv_has ls 5 [(0, .ref (F 20)), (1, .int x1), (2, .int x2), (3, .int x3)] := hl
  generalize zAo F G sz = A at C0 hw hS ⊢
  obtain ⟨hx, hb, hml, hr, hown, hts, hK, hA, hlk, hN⟩ := id C0
  refine lv_aload_n hx hb dX11_strength_0 rfl (lv_at hl 0 rfl) ?_
  refine z_getU C0 in_X11_strength_X11 (C := RX11) (T := TX11) (N := 14) hw (k := 20) (ci := 11) (v := .ref (F 60)) rfl rfl rfl rfl 3 (by decide) rfl 1 rfl (Or.inl rfl) dX11_strength_1 ?_
  refine lv_iload_n hx hb dX11_strength_4 rfl (lv_at hl 1 rfl) ?_
  obtain ⟨w1, ew1, h⟩ := z_bd h
  refine z_goq C0 hw hS (r0 := w1.map (zpa F G)) (rest := []) (arr := (Value.ref (F 60) :: [.int x1]).toArray) ?_ (fun H locs hw hS => ?_)
  · exact va_runV (z_fix C0) (c_X4_personAt l D Y F G S _ 0 (by decide) x1 w1 ew1) (cwV 1 hts gX11_strength_X4_personAt rfl rfl rfl (by decide +kernel) ⟨Nat.le_of_ble_eq_true rfl, Nat.le_of_ble_eq_true rfl⟩) ⟨zPc_blind, z_rv C0 hw (k := 60) rfl rfl rfl rfl, z_give C0 hw hS _⟩ rfl rfl hl.1 rfl (lv_room (Nat.le_of_ble_eq_true rfl)) dX11_strength_5 ⟨Nat.zero_le _, Nat.zero_le _⟩
  rcases w1 with _ | q2
  · replace h := zm_n h
    refine z_topv (y := .null) rfl ?_
    refine lv_astoreN (lv' := [(4, .null), (0, .ref (F 20)), (1, .int x1), (2, .int x2), (3, .int x3)]) hx hb dX11_strength_8 hl (by decide) rfl (fun ls hl => ?_)
    refine lv_aloadN hx hb dX11_strength_10 (lv_at hl 0 rfl) ?_
    refine lv_ifnullN (tgt := 29) hx hb dX11_strength_12 (by decide) ?_
    exact t_X11_strength_B29 C0 res S h _ _ _ hw hS (lv_sub hl [1] rfl)
  · replace h := zm_s h
    obtain ⟨bq2, h⟩ := z_gd h
    have hq2 := bq2
    refine z_topv (y := .ref (zad F G (100 + 4 * q2))) rfl ?_
    refine lv_astore (lv' := [(4, .ref (zad F G (100 + 4 * q2))), (0, .ref (F 20)), (1, .int x1), (2, .int x2), (3, .int x3)]) hx hb dX11_strength_8 hl (by decide) rfl (fun ls hl => ?_)
    refine lv_aload hx hb dX11_strength_10 (lv_at hl 0 rfl) ?_
    refine lv_ifnull hx hb dX11_strength_12 ?_
    refine lv_iload_n hx hb dX11_strength_15 rfl (lv_at hl 3 rfl) ?_
    obtain ⟨w4, ew4, h⟩ := z_bd h
    refine z_goi C0 hw hS (res := (w4, S)) (rest := []) (arr := ([.int x2] : List Value).toArray) ?_ (fun H locs hw hS => ?_)
    · exact va_runS (z_fix C0) (c_X11_isCopy l D Y F G S _ x2 w4 ew4) (va_cwS 1 hts gX11_strength_X11_isCopy rfl rfl rfl (by decide +kernel) ⟨Nat.le_of_ble_eq_true rfl, Nat.le_of_ble_eq_true rfl⟩) ⟨zPc_blind, z_give C0 hw hS _⟩ rfl rfl hl.1 rfl (lv_room (Nat.le_of_ble_eq_true rfl)) dX11_strength_16 ⟨Nat.zero_le _, Nat.zero_le _⟩
    refine lv_if_eq (tgt := 29) hx hb dX11_strength_19 (by decide) (fun c5 => ?_) (fun c5 => ?_)
    · replace h := z_ifp c5 h
      exact t_X11_strength_B29 C0 res S h _ _ _ hw hS (lv_sub hl [1] rfl)
    · replace h := z_ifn c5 h
      refine lv_iload_n hx hb dX11_strength_22 rfl (lv_at hl 4 rfl) ?_
      obtain ⟨w6, ew6, h⟩ := z_bd h
      refine z_goi C0 hw hS (res := (w6, S)) (rest := []) (arr := ([.int x3] : List Value).toArray) ?_ (fun H locs hw hS => ?_)
      · exact va_runS (z_fix C0) (c_X11_isDeed l D Y F G S _ x3 w6 ew6) (va_cwS 1 hts gX11_strength_X11_isDeed rfl rfl rfl (by decide +kernel) ⟨Nat.le_of_ble_eq_true rfl, Nat.le_of_ble_eq_true rfl⟩) ⟨zPc_blind, z_give C0 hw hS _⟩ rfl rfl hl.1 rfl (lv_room (Nat.le_of_ble_eq_true rfl)) dX11_strength_23 ⟨Nat.zero_le _, Nat.zero_le _⟩
      refine lv_if_ne (tgt := 36) hx hb dX11_strength_26 (by decide) (fun c7 => ?_) (fun c7 => ?_)
      · replace h := z_ifn c7 h
        refine lv_aload hx hb dX11_strength_36 (lv_at hl 0 rfl) ?_
        refine lv_iload_n hx hb dX11_strength_38 rfl (lv_at hl 3 rfl) ?_
        refine lv_iload_n hx hb dX11_strength_39 rfl (lv_at hl 4 rfl) ?_
        obtain ⟨w8, ew8, h⟩ := z_bd h
        refine z_goi C0 hw hS (res := (w8, S)) (rest := []) (arr := (Value.ref (zad F G (100 + 4 * q2)) :: [.int x2, .int x3]).toArray) ?_ (fun H locs hw hS => ?_)
        · rcases zOK_cases hq2 with zz | zz | zz | zz | zz | zz | zz
          · exact va_runU (z_fix C0) (c_X5_strengthOf l D Y F G S _ q2 hq2 x2 x3 w8 ew8) (va_cwU 2 hts gX11_strength_X5_strengthOf_u187X0 rfl rfl rfl rfl (by decide +kernel) ⟨Nat.le_of_ble_eq_true rfl, Nat.le_of_ble_eq_true rfl⟩) ⟨zPc_blind, z_prec C0 hw hq2 (ci := 0) zz rfl, z_give C0 hw hS _⟩ rfl rfl hl.1 rfl (lv_room (Nat.le_of_ble_eq_true rfl)) dX11_strength_40 ⟨Nat.zero_le _, Nat.zero_le _⟩
          · exact va_runU (z_fix C0) (c_X5_strengthOf l D Y F G S _ q2 hq2 x2 x3 w8 ew8) (va_cwU 2 hts gX11_strength_X5_strengthOf_u187X1 rfl rfl rfl rfl (by decide +kernel) ⟨Nat.le_of_ble_eq_true rfl, Nat.le_of_ble_eq_true rfl⟩) ⟨zPc_blind, z_prec C0 hw hq2 (ci := 1) zz rfl, z_give C0 hw hS _⟩ rfl rfl hl.1 rfl (lv_room (Nat.le_of_ble_eq_true rfl)) dX11_strength_40 ⟨Nat.zero_le _, Nat.zero_le _⟩
          · exact va_runU (z_fix C0) (c_X5_strengthOf l D Y F G S _ q2 hq2 x2 x3 w8 ew8) (va_cwU 2 hts gX11_strength_X5_strengthOf_u187X2 rfl rfl rfl rfl (by decide +kernel) ⟨Nat.le_of_ble_eq_true rfl, Nat.le_of_ble_eq_true rfl⟩) ⟨zPc_blind, z_prec C0 hw hq2 (ci := 2) zz rfl, z_give C0 hw hS _⟩ rfl rfl hl.1 rfl (lv_room (Nat.le_of_ble_eq_true rfl)) dX11_strength_40 ⟨Nat.zero_le _, Nat.zero_le _⟩
          · exact va_runU (z_fix C0) (c_X5_strengthOf l D Y F G S _ q2 hq2 x2 x3 w8 ew8) (va_cwU 2 hts gX11_strength_X5_strengthOf_u187X3 rfl rfl rfl rfl (by decide +kernel) ⟨Nat.le_of_ble_eq_true rfl, Nat.le_of_ble_eq_true rfl⟩) ⟨zPc_blind, z_prec C0 hw hq2 (ci := 3) zz rfl, z_give C0 hw hS _⟩ rfl rfl hl.1 rfl (lv_room (Nat.le_of_ble_eq_true rfl)) dX11_strength_40 ⟨Nat.zero_le _, Nat.zero_le _⟩
          · exact va_runV (z_fix C0) (c_X5_strengthOf l D Y F G S _ q2 hq2 x2 x3 w8 ew8) (cwV 2 hts gX11_strength_X5_strengthOf rfl rfl rfl (by decide +kernel) ⟨Nat.le_of_ble_eq_true rfl, Nat.le_of_ble_eq_true rfl⟩) ⟨zPc_blind, z_prec C0 hw hq2 (ci := 5) zz rfl, z_give C0 hw hS _⟩ rfl rfl hl.1 rfl (lv_room (Nat.le_of_ble_eq_true rfl)) dX11_strength_40 ⟨Nat.zero_le _, Nat.zero_le _⟩
          · exact va_runU (z_fix C0) (c_X5_strengthOf l D Y F G S _ q2 hq2 x2 x3 w8 ew8) (va_cwU 2 hts gX11_strength_X5_strengthOf_u187X8 rfl rfl rfl rfl (by decide +kernel) ⟨Nat.le_of_ble_eq_true rfl, Nat.le_of_ble_eq_true rfl⟩) ⟨zPc_blind, z_prec C0 hw hq2 (ci := 8) zz rfl, z_give C0 hw hS _⟩ rfl rfl hl.1 rfl (lv_room (Nat.le_of_ble_eq_true rfl)) dX11_strength_40 ⟨Nat.zero_le _, Nat.zero_le _⟩
          · exact va_runU (z_fix C0) (c_X5_strengthOf l D Y F G S _ q2 hq2 x2 x3 w8 ew8) (va_cwU 2 hts gX11_strength_X5_strengthOf_u187X10 rfl rfl rfl rfl (by decide +kernel) ⟨Nat.le_of_ble_eq_true rfl, Nat.le_of_ble_eq_true rfl⟩) ⟨zPc_blind, z_prec C0 hw hq2 (ci := 10) zz rfl, z_give C0 hw hS _⟩ rfl rfl hl.1 rfl (lv_room (Nat.le_of_ble_eq_true rfl)) dX11_strength_40 ⟨Nat.zero_le _, Nat.zero_le _⟩
        exact z_reti C0 hw hS (Option.some.inj h) dX11_strength_43
      · replace h := z_ifp c7 h
        exact t_X11_strength_B29 C0 res S h _ _ _ hw hS (lv_sub hl [1] rfl)
def M_X11_drift_B20 (pk : Nat → Nat) (S : zSt) : Option (Int32 × zSt) :=
  Option.bind (M_X11_refuseLess pk S (-5) 10000) (fun w3 => some (w3.1, w3.2))
set_option maxHeartbeats 4000000 in
set_option maxRecDepth 100000 in
theorem t_X11_drift_B20 {p : Program} {l : Launch} {e : Env} {s : State} {m : MethodId} {args : Array Value} {below : List Frame} {meth : Method} {c : Code} {D : va_G} {Y : Nat → ClassId} {F : Nat → Nat} {A : Nat → Prop} {G : zG} (C0 : zCx p s m args meth c D Y F A RX11 cX11_drift 4 (some .int) wsX11_drift) (res : Int32 × zSt) : ∀ (S : zSt), M_X11_drift_B20 (zpk G) S = some res → ∀ (H : Heap) (locs : List Loc) (ls : Array Slot), zH D Y F A G S H → va_S A s.heap H locs → lv_has ls 4 [(0, .ref (F 20))] → W p l e (zRm 1 22) s m args below meth c H locs 0 0 (MQ below (zQi D Y F A G res) args s 0 0 A) (F0 m 20 ls []) := by
  obtain ⟨hx, hb, hml, hr, hown, hts, hK, hA, hlk, hN⟩ := id C0
  intro S h H locs ls hw hS hl
  unfold M_X11_drift_B20 at h
  refine lv_aload_n hx hb dX11_drift_20 rfl (lv_at hl 0 rfl) ?_
  refine lv_bipush (v := (-5)) hx hb dX11_drift_21 (by decide) ?_
  refine lv_sipush (v := 10000) hx hb dX11_drift_23 (by decide) ?_
  obtain ⟨w3, ew3, h⟩ := z_bd h
  refine z_goi C0 hw hS (res := w3) (rest := []) (arr := (Value.ref (F 20) :: [.int (-5), .int 10000]).toArray) ?_ (fun H locs hw hS => ?_)
  · exact va_runV (z_fix C0) (c_X11_refuseLess l D Y F G S _ (-5) 10000 w3 ew3) (cwV 2 hts gX11_drift_X11_refuseLess rfl rfl rfl (by decide +kernel) ⟨Nat.le_of_ble_eq_true rfl, Nat.le_of_ble_eq_true rfl⟩) ⟨zPc_blind, z_rv C0 hw (k := 20) rfl rfl rfl rfl, z_give C0 hw hS _⟩ rfl rfl hl.1 rfl (lv_room (Nat.le_of_ble_eq_true rfl)) dX11_drift_26 ⟨Nat.zero_le _, Nat.zero_le _⟩
  exact z_reti C0 hw hS (Option.some.inj h) dX11_drift_29
def M_X11_drift (pk : Nat → Nat) (S : zSt) (x1 : Int32) (x2 : Int32) : Option (Int32 × zSt) :=
  Option.bind (M_X4_personAt pk S 0 x1) (fun w1 => (zm w1 (M_X11_drift_B20 pk S) (fun q2 => zg (zOKb pk q2) (Option.bind (M_X11_isCopy pk S x2) (fun w4 => (if w4 = 0 then M_X11_drift_B20 pk S else zg (zin x2 6) (some ((zar S ((100 + 4 * q2 + 3)) (Int32.toNatClampNeg x2)), S))))))))
set_option maxHeartbeats 4000000 in
set_option maxRecDepth 100000 in
theorem c_X11_drift (l : Launch) (D : va_G) (Y : Nat → ClassId) (F : Nat → Nat) (G : zG) (S : zSt) (sz : Nat) (x1 : Int32) (x2 : Int32) (res : Int32 × zSt) (h : M_X11_drift (zpk G) S x1 x2 = some res) : Met l yX11_drift wsX11_drift (zRm 1 22) (zPc D Y F G S sz [.ref (F 20), .int x1, .int x2]) (zQi D Y F (zAo F G sz) G res) 0 0 (zAo F G sz) := by
  unfold M_X11_drift at h
  refine zMet (cc := cX11_drift) (maxL := 4) (ret := (some .int)) (own := RX11) (by decide +kernel) rfl rfl (Nat.le_of_ble_eq_true rfl) ?_
  intro p e s m args below meth c C0 hin hw hS ls hl
  have hl : lv_has ls 4 [(0, .ref (F 20)), (1, .int x1), (2, .int x2)] := hl
  generalize zAo F G sz = A at C0 hw hS ⊢
  obtain ⟨hx, hb, hml, hr, hown, hts, hK, hA, hlk, hN⟩ := id C0
  refine lv_aload_n hx hb dX11_drift_0 rfl (lv_at hl 0 rfl) ?_
  refine z_getU C0 in_X11_drift_X11 (C := RX11) (T := TX11) (N := 14) hw (k := 20) (ci := 11) (v := .ref (F 60)) rfl rfl rfl rfl 3 (by decide) rfl 1 rfl (Or.inl rfl) dX11_drift_1 ?_
  refine lv_iload_n hx hb dX11_drift_4 rfl (lv_at hl 1 rfl) ?_
  obtain ⟨w1, ew1, h⟩ := z_bd h
  refine z_goq C0 hw hS (r0 := w1.map (zpa F G)) (rest := []) (arr := (Value.ref (F 60) :: [.int x1]).toArray) ?_ (fun H locs hw hS => ?_)
  · exact va_runV (z_fix C0) (c_X4_personAt l D Y F G S _ 0 (by decide) x1 w1 ew1) (cwV 1 hts gX11_drift_X4_personAt rfl rfl rfl (by decide +kernel) ⟨Nat.le_of_ble_eq_true rfl, Nat.le_of_ble_eq_true rfl⟩) ⟨zPc_blind, z_rv C0 hw (k := 60) rfl rfl rfl rfl, z_give C0 hw hS _⟩ rfl rfl hl.1 rfl (lv_room (Nat.le_of_ble_eq_true rfl)) dX11_drift_5 ⟨Nat.zero_le _, Nat.zero_le _⟩
  rcases w1 with _ | q2
  · replace h := zm_n h
    refine z_topv (y := .null) rfl ?_
    refine lv_astore_nN (lv' := [(3, .null), (0, .ref (F 20)), (1, .int x1), (2, .int x2)]) hx hb dX11_drift_8 rfl hl (by decide) rfl (fun ls hl => ?_)
    refine lv_aload_nN hx hb dX11_drift_9 rfl (lv_at hl 0 rfl) ?_
    refine lv_ifnullN (tgt := 20) hx hb dX11_drift_10 (by decide) ?_
    exact t_X11_drift_B20 C0 res S h _ _ _ hw hS (lv_sub hl [1] rfl)
  · replace h := zm_s h
    obtain ⟨bq2, h⟩ := z_gd h
    have hq2 := bq2
    refine z_topv (y := .ref (zad F G (100 + 4 * q2))) rfl ?_
    refine lv_astore_n (lv' := [(3, .ref (zad F G (100 + 4 * q2))), (0, .ref (F 20)), (1, .int x1), (2, .int x2)]) hx hb dX11_drift_8 rfl hl (by decide) rfl (fun ls hl => ?_)
    refine lv_aload_n hx hb dX11_drift_9 rfl (lv_at hl 0 rfl) ?_
    refine lv_ifnull hx hb dX11_drift_10 ?_
    refine lv_iload_n hx hb dX11_drift_13 rfl (lv_at hl 3 rfl) ?_
    obtain ⟨w4, ew4, h⟩ := z_bd h
    refine z_goi C0 hw hS (res := (w4, S)) (rest := []) (arr := ([.int x2] : List Value).toArray) ?_ (fun H locs hw hS => ?_)
    · exact va_runS (z_fix C0) (c_X11_isCopy l D Y F G S _ x2 w4 ew4) (va_cwS 1 hts gX11_drift_X11_isCopy rfl rfl rfl (by decide +kernel) ⟨Nat.le_of_ble_eq_true rfl, Nat.le_of_ble_eq_true rfl⟩) ⟨zPc_blind, z_give C0 hw hS _⟩ rfl rfl hl.1 rfl (lv_room (Nat.le_of_ble_eq_true rfl)) dX11_drift_14 ⟨Nat.zero_le _, Nat.zero_le _⟩
    refine lv_if_ne (tgt := 30) hx hb dX11_drift_17 (by decide) (fun c5 => ?_) (fun c5 => ?_)
    · replace h := z_ifn c5 h
      refine lv_aload_n hx hb dX11_drift_30 rfl (lv_at hl 0 rfl) ?_
      refine z_getP C0 inP_X11_drift hw hq2 5 (by decide) (v := .ref (zad F G (100 + 4 * q2 + 3))) rfl 2 rfl (Or.inl rfl) dX11_drift_31 ?_
      refine lv_iload_n hx hb dX11_drift_34 rfl (lv_at hl 3 rfl) ?_
      obtain ⟨b6, h⟩ := z_gd h
      refine z_iald C0 hw ((100 + 4 * q2 + 3)) (zOK_E hq2 3 (by decide)) rfl (zPR3 q2) (zin_in b6) dX11_drift_35 ?_
      exact z_reti C0 hw hS (Option.some.inj h) dX11_drift_36
    · replace h := z_ifp c5 h
      exact t_X11_drift_B20 C0 res S h _ _ _ hw hS (lv_sub hl [1] rfl)
def M_X11_loss_B29 (pk : Nat → Nat) (S : zSt) : Option (Int32 × zSt) :=
  Option.bind (M_X11_refuse pk S (-6)) (fun w5 => some (w5.1, w5.2))
set_option maxHeartbeats 4000000 in
set_option maxRecDepth 100000 in
theorem t_X11_loss_B29 {p : Program} {l : Launch} {e : Env} {s : State} {m : MethodId} {args : Array Value} {below : List Frame} {meth : Method} {c : Code} {D : va_G} {Y : Nat → ClassId} {F : Nat → Nat} {A : Nat → Prop} {G : zG} (C0 : zCx p s m args meth c D Y F A RX11 cX11_loss 4 (some .int) wsX11_loss) (res : Int32 × zSt) : ∀ (S : zSt), M_X11_loss_B29 (zpk G) S = some res → ∀ (H : Heap) (locs : List Loc) (ls : Array Slot), zH D Y F A G S H → va_S A s.heap H locs → lv_has ls 4 [(0, .ref (F 20))] → W p l e (zRm 3 64) s m args below meth c H locs 0 0 (MQ below (zQi D Y F A G res) args s 0 0 A) (F0 m 29 ls []) := by
  obtain ⟨hx, hb, hml, hr, hown, hts, hK, hA, hlk, hN⟩ := id C0
  intro S h H locs ls hw hS hl
  unfold M_X11_loss_B29 at h
  refine lv_aload_n hx hb dX11_loss_29 rfl (lv_at hl 0 rfl) ?_
  refine lv_bipush (v := (-6)) hx hb dX11_loss_30 (by decide) ?_
  obtain ⟨w5, ew5, h⟩ := z_bd h
  refine z_goi C0 hw hS (res := w5) (rest := []) (arr := (Value.ref (F 20) :: [.int (-6)]).toArray) ?_ (fun H locs hw hS => ?_)
  · exact va_runV (z_fix C0) (c_X11_refuse l D Y F G S _ (-6) w5 ew5) (cwV 1 hts gX11_loss_X11_refuse rfl rfl rfl (by decide +kernel) ⟨Nat.le_of_ble_eq_true rfl, Nat.le_of_ble_eq_true rfl⟩) ⟨zPc_blind, z_rv C0 hw (k := 20) rfl rfl rfl rfl, z_give C0 hw hS _⟩ rfl rfl hl.1 rfl (lv_room (Nat.le_of_ble_eq_true rfl)) dX11_loss_32 ⟨Nat.zero_le _, Nat.zero_le _⟩
  exact z_reti C0 hw hS (Option.some.inj h) dX11_loss_35
def M_X11_loss (pk : Nat → Nat) (S : zSt) (x1 : Int32) (x2 : Int32) : Option (Int32 × zSt) :=
  Option.bind (M_X4_personAt pk S 0 x1) (fun w1 => (zm w1 (Option.bind (M_X11_refuse pk S (-1)) (fun w3 => some (w3.1, w3.2))) (fun q2 => zg (zOKb pk q2) ((if x2 < 1 then M_X11_loss_B29 pk S else (if x2 ≤ 5 then Option.bind (V_lossAt pk S q2 x2) (fun w7 => some (w7, S)) else M_X11_loss_B29 pk S))))))
set_option maxHeartbeats 4000000 in
set_option maxRecDepth 100000 in
theorem c_X11_loss (l : Launch) (D : va_G) (Y : Nat → ClassId) (F : Nat → Nat) (G : zG) (S : zSt) (sz : Nat) (x1 : Int32) (x2 : Int32) (res : Int32 × zSt) (h : M_X11_loss (zpk G) S x1 x2 = some res) : Met l yX11_loss wsX11_loss (zRm 3 64) (zPc D Y F G S sz [.ref (F 20), .int x1, .int x2]) (zQi D Y F (zAo F G sz) G res) 0 0 (zAo F G sz) := by
  unfold M_X11_loss at h
  refine zMet (cc := cX11_loss) (maxL := 4) (ret := (some .int)) (own := RX11) (by decide +kernel) rfl rfl (Nat.le_of_ble_eq_true rfl) ?_
  intro p e s m args below meth c C0 hin hw hS ls hl
  have hl : lv_has ls 4 [(0, .ref (F 20)), (1, .int x1), (2, .int x2)] := hl
  generalize zAo F G sz = A at C0 hw hS ⊢
  obtain ⟨hx, hb, hml, hr, hown, hts, hK, hA, hlk, hN⟩ := id C0
  refine lv_aload_n hx hb dX11_loss_0 rfl (lv_at hl 0 rfl) ?_
  refine z_getU C0 in_X11_loss_X11 (C := RX11) (T := TX11) (N := 14) hw (k := 20) (ci := 11) (v := .ref (F 60)) rfl rfl rfl rfl 3 (by decide) rfl 1 rfl (Or.inl rfl) dX11_loss_1 ?_
  refine lv_iload_n hx hb dX11_loss_4 rfl (lv_at hl 1 rfl) ?_
  obtain ⟨w1, ew1, h⟩ := z_bd h
  refine z_goq C0 hw hS (r0 := w1.map (zpa F G)) (rest := []) (arr := (Value.ref (F 60) :: [.int x1]).toArray) ?_ (fun H locs hw hS => ?_)
  · exact va_runV (z_fix C0) (c_X4_personAt l D Y F G S _ 0 (by decide) x1 w1 ew1) (cwV 1 hts gX11_loss_X4_personAt rfl rfl rfl (by decide +kernel) ⟨Nat.le_of_ble_eq_true rfl, Nat.le_of_ble_eq_true rfl⟩) ⟨zPc_blind, z_rv C0 hw (k := 60) rfl rfl rfl rfl, z_give C0 hw hS _⟩ rfl rfl hl.1 rfl (lv_room (Nat.le_of_ble_eq_true rfl)) dX11_loss_5 ⟨Nat.zero_le _, Nat.zero_le _⟩
  rcases w1 with _ | q2
  · replace h := zm_n h
    refine z_topv (y := .null) rfl ?_
    refine lv_astore_nN (lv' := [(3, .null), (0, .ref (F 20)), (1, .int x1), (2, .int x2)]) hx hb dX11_loss_8 rfl hl (by decide) rfl (fun ls hl => ?_)
    refine lv_aload_nN hx hb dX11_loss_9 rfl (lv_at hl 0 rfl) ?_
    refine lv_ifnonnullN hx hb dX11_loss_10 ?_
    refine lv_aload_n hx hb dX11_loss_13 rfl (lv_at hl 1 rfl) ?_
    refine lv_iconst (v := (-1)) hx hb dX11_loss_14 (by decide) ?_
    obtain ⟨w3, ew3, h⟩ := z_bd h
    refine z_goi C0 hw hS (res := w3) (rest := []) (arr := (Value.ref (F 20) :: [.int (-1)]).toArray) ?_ (fun H locs hw hS => ?_)
    · exact va_runV (z_fix C0) (c_X11_refuse l D Y F G S _ (-1) w3 ew3) (cwV 1 hts gX11_loss_X11_refuse rfl rfl rfl (by decide +kernel) ⟨Nat.le_of_ble_eq_true rfl, Nat.le_of_ble_eq_true rfl⟩) ⟨zPc_blind, z_rv C0 hw (k := 20) rfl rfl rfl rfl, z_give C0 hw hS _⟩ rfl rfl hl.1 rfl (lv_room (Nat.le_of_ble_eq_true rfl)) dX11_loss_15 ⟨Nat.zero_le _, Nat.zero_le _⟩
    exact z_reti C0 hw hS (Option.some.inj h) dX11_loss_18
  · replace h := zm_s h
    obtain ⟨bq2, h⟩ := z_gd h
    have hq2 := bq2
    refine z_topv (y := .ref (zad F G (100 + 4 * q2))) rfl ?_
    refine lv_astore_n (lv' := [(3, .ref (zad F G (100 + 4 * q2))), (0, .ref (F 20)), (1, .int x1), (2, .int x2)]) hx hb dX11_loss_8 rfl hl (by decide) rfl (fun ls hl => ?_)
    refine lv_aload_n hx hb dX11_loss_9 rfl (lv_at hl 0 rfl) ?_
    refine lv_ifnonnull (tgt := 19) hx hb dX11_loss_10 (by decide) ?_
    refine lv_iload_n hx hb dX11_loss_19 rfl (lv_at hl 3 rfl) ?_
    refine lv_iconst (v := 1) hx hb dX11_loss_20 (by decide) ?_
    refine lv_icmp_lt (tgt := 29) hx hb dX11_loss_21 (by decide) (fun c4 => ?_) (fun c4 => ?_)
    · replace h := z_ifp c4 h
      exact t_X11_loss_B29 C0 res S h _ _ _ hw hS (lv_sub hl [1] rfl)
    · replace h := z_ifn c4 h
      refine lv_iload_n hx hb dX11_loss_24 rfl (lv_at hl 3 rfl) ?_
      refine lv_iconst (v := 5) hx hb dX11_loss_25 (by decide) ?_
      refine lv_icmp_le (tgt := 36) hx hb dX11_loss_26 (by decide) (fun c6 => ?_) (fun c6 => ?_)
      · replace h := z_ifp c6 h
        refine lv_aload_n hx hb dX11_loss_36 rfl (lv_at hl 0 rfl) ?_
        refine lv_iload_n hx hb dX11_loss_37 rfl (lv_at hl 3 rfl) ?_
        obtain ⟨w7, ew7, h⟩ := z_bd h
        refine z_goi C0 hw hS (res := (w7, S)) (rest := []) (arr := (Value.ref (zad F G (100 + 4 * q2)) :: [.int x2]).toArray) ?_ (fun H locs hw hS => ?_)
        · rcases zOK_cases hq2 with zz | zz | zz | zz | zz | zz | zz
          · exact va_runU (z_fix C0) (c_X0_lossAt l D Y F G S _ q2 hq2 x2 w7 (V_lossAt_X0 zz ew7)) (va_cwO 1 hts gX11_loss_X0_lossAt_u145X0 rfl rfl rfl (List.mem_of_getElem? (i := 38) rfl) (by decide +kernel) ⟨Nat.le_of_ble_eq_true rfl, Nat.le_of_ble_eq_true rfl⟩) ⟨zPc_blind, z_prec C0 hw hq2 (ci := 0) zz rfl, z_give C0 hw hS _⟩ rfl rfl hl.1 rfl (lv_room (Nat.le_of_ble_eq_true rfl)) dX11_loss_38 ⟨Nat.zero_le _, Nat.zero_le _⟩
          · exact va_runU (z_fix C0) (c_X1_lossAt l D Y F G S _ q2 hq2 x2 w7 (V_lossAt_X1 zz ew7)) (va_cwO 1 hts gX11_loss_X1_lossAt_u145X1 rfl rfl rfl (List.mem_of_getElem? (i := 38) rfl) (by decide +kernel) ⟨Nat.le_of_ble_eq_true rfl, Nat.le_of_ble_eq_true rfl⟩) ⟨zPc_blind, z_prec C0 hw hq2 (ci := 1) zz rfl, z_give C0 hw hS _⟩ rfl rfl hl.1 rfl (lv_room (Nat.le_of_ble_eq_true rfl)) dX11_loss_38 ⟨Nat.zero_le _, Nat.zero_le _⟩
          · exact va_runU (z_fix C0) (c_X2_lossAt l D Y F G S _ q2 hq2 x2 w7 (V_lossAt_X2 zz ew7)) (va_cwO 1 hts gX11_loss_X2_lossAt_u145X2 rfl rfl rfl (List.mem_of_getElem? (i := 38) rfl) (by decide +kernel) ⟨Nat.le_of_ble_eq_true rfl, Nat.le_of_ble_eq_true rfl⟩) ⟨zPc_blind, z_prec C0 hw hq2 (ci := 2) zz rfl, z_give C0 hw hS _⟩ rfl rfl hl.1 rfl (lv_room (Nat.le_of_ble_eq_true rfl)) dX11_loss_38 ⟨Nat.zero_le _, Nat.zero_le _⟩
          · exact va_runU (z_fix C0) (c_X3_lossAt l D Y F G S _ q2 hq2 x2 w7 (V_lossAt_X3 zz ew7)) (va_cwO 1 hts gX11_loss_X3_lossAt_u145X3 rfl rfl rfl (List.mem_of_getElem? (i := 38) rfl) (by decide +kernel) ⟨Nat.le_of_ble_eq_true rfl, Nat.le_of_ble_eq_true rfl⟩) ⟨zPc_blind, z_prec C0 hw hq2 (ci := 3) zz rfl, z_give C0 hw hS _⟩ rfl rfl hl.1 rfl (lv_room (Nat.le_of_ble_eq_true rfl)) dX11_loss_38 ⟨Nat.zero_le _, Nat.zero_le _⟩
          · exact va_runV (z_fix C0) (c_X5_lossAt l D Y F G S _ q2 hq2 x2 w7 (V_lossAt_X5 zz ew7)) (cwV 1 hts gX11_loss_X5_lossAt rfl rfl rfl (by decide +kernel) ⟨Nat.le_of_ble_eq_true rfl, Nat.le_of_ble_eq_true rfl⟩) ⟨zPc_blind, z_prec C0 hw hq2 (ci := 5) zz rfl, z_give C0 hw hS _⟩ rfl rfl hl.1 rfl (lv_room (Nat.le_of_ble_eq_true rfl)) dX11_loss_38 ⟨Nat.zero_le _, Nat.zero_le _⟩
          · exact va_runU (z_fix C0) (c_X8_lossAt l D Y F G S _ q2 hq2 x2 w7 (V_lossAt_X8 zz ew7)) (va_cwO 1 hts gX11_loss_X8_lossAt_u145X8 rfl rfl rfl (List.mem_of_getElem? (i := 38) rfl) (by decide +kernel) ⟨Nat.le_of_ble_eq_true rfl, Nat.le_of_ble_eq_true rfl⟩) ⟨zPc_blind, z_prec C0 hw hq2 (ci := 8) zz rfl, z_give C0 hw hS _⟩ rfl rfl hl.1 rfl (lv_room (Nat.le_of_ble_eq_true rfl)) dX11_loss_38 ⟨Nat.zero_le _, Nat.zero_le _⟩
          · exact va_runU (z_fix C0) (c_X10_lossAt l D Y F G S _ q2 hq2 x2 w7 (V_lossAt_X10 zz ew7)) (va_cwO 1 hts gX11_loss_X10_lossAt_u145X10 rfl rfl rfl (List.mem_of_getElem? (i := 38) rfl) (by decide +kernel) ⟨Nat.le_of_ble_eq_true rfl, Nat.le_of_ble_eq_true rfl⟩) ⟨zPc_blind, z_prec C0 hw hq2 (ci := 10) zz rfl, z_give C0 hw hS _⟩ rfl rfl hl.1 rfl (lv_room (Nat.le_of_ble_eq_true rfl)) dX11_loss_38 ⟨Nat.zero_le _, Nat.zero_le _⟩
        exact z_reti C0 hw hS (Option.some.inj h) dX11_loss_41
      · replace h := z_ifn c6 h
        exact t_X11_loss_B29 C0 res S h _ _ _ hw hS (lv_sub hl [1] rfl)
def M_X11_fault (pk : Nat → Nat) (S : zSt) : Option (Int32) :=
  some ((zsc S 20 13))
set_option maxHeartbeats 4000000 in
set_option maxRecDepth 100000 in
theorem c_X11_fault (l : Launch) (D : va_G) (Y : Nat → ClassId) (F : Nat → Nat) (G : zG) (S : zSt) (sz : Nat) (res : Int32) (h : M_X11_fault (zpk G) S = some res) : Met l yX11_fault wsX11_fault (zRm 0 0) (zPc D Y F G S sz [.ref (F 20)]) (zQi D Y F (zAo F G sz) G (res, S)) 0 0 (zAo F G sz) := by
  unfold M_X11_fault at h
  refine zMet (cc := cX11_fault) (maxL := 1) (ret := (some .int)) (own := RX11) (by decide +kernel) rfl rfl (Nat.le_of_ble_eq_true rfl) ?_
  intro p e s m args below meth c C0 hin hw hS ls hl
  have hl : lv_has ls 1 [(0, .ref (F 20))] := hl
  generalize zAo F G sz = A at C0 hw hS ⊢
  obtain ⟨hx, hb, hml, hr, hown, hts, hK, hA, hlk, hN⟩ := id C0
  refine lv_aload_n hx hb dX11_fault_0 rfl (lv_at hl 0 rfl) ?_
  refine z_getU C0 in_X11_fault_X11 (C := RX11) (T := TX11) (N := 14) hw (k := 20) (ci := 11) (v := .int ((zsc S 20 13))) rfl rfl rfl rfl 13 (by decide) rfl 1 rfl (Or.inl rfl) dX11_fault_1 ?_
  exact z_reti C0 hw hS (congrArg (fun z => (z, S)) (Option.some.inj h)) dX11_fault_4
def M_X11_have (pk : Nat → Nat) (S : zSt) (x1 : Int32) (x2 : Int32) : Option (Int32 × zSt) :=
  Option.bind (M_X4_personAt pk S 0 x1) (fun w1 => (zm w1 (Option.bind (M_X11_refuse pk S (-1)) (fun w3 => some (w3.1, w3.2))) (fun q2 => zg (zOKb pk q2) (Option.bind (M_X11_isDeed pk S x2) (fun w4 => (if w4 = 0 then Option.bind (M_X11_refuse pk S (-6)) (fun w7 => some (w7.1, w7.2)) else Option.bind (M_X5_haveBits pk S q2 x2 ((zsc S 60 4))) (fun w6 => some (w6, S))))))))
set_option maxHeartbeats 4000000 in
set_option maxRecDepth 100000 in
theorem c_X11_have (l : Launch) (D : va_G) (Y : Nat → ClassId) (F : Nat → Nat) (G : zG) (S : zSt) (sz : Nat) (x1 : Int32) (x2 : Int32) (res : Int32 × zSt) (h : M_X11_have (zpk G) S x1 x2 = some res) : Met l yX11_have wsX11_have (zRm 3 66) (zPc D Y F G S sz [.ref (F 20), .int x1, .int x2]) (zQi D Y F (zAo F G sz) G res) 0 0 (zAo F G sz) := by
  unfold M_X11_have at h
  refine zMet (cc := cX11_have) (maxL := 4) (ret := (some .int)) (own := RX11) (by decide +kernel) rfl rfl (Nat.le_of_ble_eq_true rfl) ?_
  intro p e s m args below meth c C0 hin hw hS ls hl
  have hl : lv_has ls 4 [(0, .ref (F 20)), (1, .int x1), (2, .int x2)] := hl
  generalize zAo F G sz = A at C0 hw hS ⊢
  obtain ⟨hx, hb, hml, hr, hown, hts, hK, hA, hlk, hN⟩ := id C0
  refine lv_aload_n hx hb dX11_have_0 rfl (lv_at hl 0 rfl) ?_
  refine z_getU C0 in_X11_have_X11 (C := RX11) (T := TX11) (N := 14) hw (k := 20) (ci := 11) (v := .ref (F 60)) rfl rfl rfl rfl 3 (by decide) rfl 1 rfl (Or.inl rfl) dX11_have_1 ?_
  refine lv_iload_n hx hb dX11_have_4 rfl (lv_at hl 1 rfl) ?_
  obtain ⟨w1, ew1, h⟩ := z_bd h
  refine z_goq C0 hw hS (r0 := w1.map (zpa F G)) (rest := []) (arr := (Value.ref (F 60) :: [.int x1]).toArray) ?_ (fun H locs hw hS => ?_)
  · exact va_runV (z_fix C0) (c_X4_personAt l D Y F G S _ 0 (by decide) x1 w1 ew1) (cwV 1 hts gX11_have_X4_personAt rfl rfl rfl (by decide +kernel) ⟨Nat.le_of_ble_eq_true rfl, Nat.le_of_ble_eq_true rfl⟩) ⟨zPc_blind, z_rv C0 hw (k := 60) rfl rfl rfl rfl, z_give C0 hw hS _⟩ rfl rfl hl.1 rfl (lv_room (Nat.le_of_ble_eq_true rfl)) dX11_have_5 ⟨Nat.zero_le _, Nat.zero_le _⟩
  rcases w1 with _ | q2
  · replace h := zm_n h
    refine z_topv (y := .null) rfl ?_
    refine lv_astore_nN (lv' := [(3, .null), (0, .ref (F 20)), (1, .int x1), (2, .int x2)]) hx hb dX11_have_8 rfl hl (by decide) rfl (fun ls hl => ?_)
    refine lv_aload_nN hx hb dX11_have_9 rfl (lv_at hl 0 rfl) ?_
    refine lv_ifnonnullN hx hb dX11_have_10 ?_
    refine lv_aload_n hx hb dX11_have_13 rfl (lv_at hl 1 rfl) ?_
    refine lv_iconst (v := (-1)) hx hb dX11_have_14 (by decide) ?_
    obtain ⟨w3, ew3, h⟩ := z_bd h
    refine z_goi C0 hw hS (res := w3) (rest := []) (arr := (Value.ref (F 20) :: [.int (-1)]).toArray) ?_ (fun H locs hw hS => ?_)
    · exact va_runV (z_fix C0) (c_X11_refuse l D Y F G S _ (-1) w3 ew3) (cwV 1 hts gX11_have_X11_refuse rfl rfl rfl (by decide +kernel) ⟨Nat.le_of_ble_eq_true rfl, Nat.le_of_ble_eq_true rfl⟩) ⟨zPc_blind, z_rv C0 hw (k := 20) rfl rfl rfl rfl, z_give C0 hw hS _⟩ rfl rfl hl.1 rfl (lv_room (Nat.le_of_ble_eq_true rfl)) dX11_have_15 ⟨Nat.zero_le _, Nat.zero_le _⟩
    exact z_reti C0 hw hS (Option.some.inj h) dX11_have_18
  · replace h := zm_s h
    obtain ⟨bq2, h⟩ := z_gd h
    have hq2 := bq2
    refine z_topv (y := .ref (zad F G (100 + 4 * q2))) rfl ?_
    refine lv_astore_n (lv' := [(3, .ref (zad F G (100 + 4 * q2))), (0, .ref (F 20)), (1, .int x1), (2, .int x2)]) hx hb dX11_have_8 rfl hl (by decide) rfl (fun ls hl => ?_)
    refine lv_aload_n hx hb dX11_have_9 rfl (lv_at hl 0 rfl) ?_
    refine lv_ifnonnull (tgt := 19) hx hb dX11_have_10 (by decide) ?_
    refine lv_iload_n hx hb dX11_have_19 rfl (lv_at hl 3 rfl) ?_
    obtain ⟨w4, ew4, h⟩ := z_bd h
    refine z_goi C0 hw hS (res := (w4, S)) (rest := []) (arr := ([.int x2] : List Value).toArray) ?_ (fun H locs hw hS => ?_)
    · exact va_runS (z_fix C0) (c_X11_isDeed l D Y F G S _ x2 w4 ew4) (va_cwS 1 hts gX11_have_X11_isDeed rfl rfl rfl (by decide +kernel) ⟨Nat.le_of_ble_eq_true rfl, Nat.le_of_ble_eq_true rfl⟩) ⟨zPc_blind, z_give C0 hw hS _⟩ rfl rfl hl.1 rfl (lv_room (Nat.le_of_ble_eq_true rfl)) dX11_have_20 ⟨Nat.zero_le _, Nat.zero_le _⟩
    refine lv_if_ne (tgt := 33) hx hb dX11_have_23 (by decide) (fun c5 => ?_) (fun c5 => ?_)
    · replace h := z_ifn c5 h
      refine lv_aload_n hx hb dX11_have_33 rfl (lv_at hl 0 rfl) ?_
      refine lv_iload_n hx hb dX11_have_34 rfl (lv_at hl 3 rfl) ?_
      refine lv_aload_n hx hb dX11_have_35 rfl (lv_at hl 1 rfl) ?_
      refine z_getU C0 in_X11_have_X11 (C := RX11) (T := TX11) (N := 14) hw (k := 20) (ci := 11) (v := .ref (F 60)) rfl rfl rfl rfl 3 (by decide) rfl 1 rfl (Or.inl rfl) dX11_have_36 ?_
      refine z_getU C0 in_X11_have_X4 (C := RX4) (T := TX4) (N := 6) hw (k := 60) (ci := 4) (v := .int ((zsc S 60 4))) rfl rfl rfl rfl 4 (by decide) rfl 2 rfl (Or.inl rfl) dX11_have_39 ?_
      obtain ⟨w6, ew6, h⟩ := z_bd h
      refine z_goi C0 hw hS (res := (w6, S)) (rest := []) (arr := (Value.ref (zad F G (100 + 4 * q2)) :: [.int x2, .int ((zsc S 60 4))]).toArray) ?_ (fun H locs hw hS => ?_)
      · rcases zOK_cases hq2 with zz | zz | zz | zz | zz | zz | zz
        · exact va_runU (z_fix C0) (c_X5_haveBits l D Y F G S _ q2 hq2 x2 ((zsc S 60 4)) w6 ew6) (va_cwU 2 hts gX11_have_X5_haveBits_u205X0 rfl rfl rfl rfl (by decide +kernel) ⟨Nat.le_of_ble_eq_true rfl, Nat.le_of_ble_eq_true rfl⟩) ⟨zPc_blind, z_prec C0 hw hq2 (ci := 0) zz rfl, z_give C0 hw hS _⟩ rfl rfl hl.1 rfl (lv_room (Nat.le_of_ble_eq_true rfl)) dX11_have_42 ⟨Nat.zero_le _, Nat.zero_le _⟩
        · exact va_runU (z_fix C0) (c_X5_haveBits l D Y F G S _ q2 hq2 x2 ((zsc S 60 4)) w6 ew6) (va_cwU 2 hts gX11_have_X5_haveBits_u205X1 rfl rfl rfl rfl (by decide +kernel) ⟨Nat.le_of_ble_eq_true rfl, Nat.le_of_ble_eq_true rfl⟩) ⟨zPc_blind, z_prec C0 hw hq2 (ci := 1) zz rfl, z_give C0 hw hS _⟩ rfl rfl hl.1 rfl (lv_room (Nat.le_of_ble_eq_true rfl)) dX11_have_42 ⟨Nat.zero_le _, Nat.zero_le _⟩
        · exact va_runU (z_fix C0) (c_X5_haveBits l D Y F G S _ q2 hq2 x2 ((zsc S 60 4)) w6 ew6) (va_cwU 2 hts gX11_have_X5_haveBits_u205X2 rfl rfl rfl rfl (by decide +kernel) ⟨Nat.le_of_ble_eq_true rfl, Nat.le_of_ble_eq_true rfl⟩) ⟨zPc_blind, z_prec C0 hw hq2 (ci := 2) zz rfl, z_give C0 hw hS _⟩ rfl rfl hl.1 rfl (lv_room (Nat.le_of_ble_eq_true rfl)) dX11_have_42 ⟨Nat.zero_le _, Nat.zero_le _⟩
        · exact va_runU (z_fix C0) (c_X5_haveBits l D Y F G S _ q2 hq2 x2 ((zsc S 60 4)) w6 ew6) (va_cwU 2 hts gX11_have_X5_haveBits_u205X3 rfl rfl rfl rfl (by decide +kernel) ⟨Nat.le_of_ble_eq_true rfl, Nat.le_of_ble_eq_true rfl⟩) ⟨zPc_blind, z_prec C0 hw hq2 (ci := 3) zz rfl, z_give C0 hw hS _⟩ rfl rfl hl.1 rfl (lv_room (Nat.le_of_ble_eq_true rfl)) dX11_have_42 ⟨Nat.zero_le _, Nat.zero_le _⟩
        · exact va_runV (z_fix C0) (c_X5_haveBits l D Y F G S _ q2 hq2 x2 ((zsc S 60 4)) w6 ew6) (cwV 2 hts gX11_have_X5_haveBits rfl rfl rfl (by decide +kernel) ⟨Nat.le_of_ble_eq_true rfl, Nat.le_of_ble_eq_true rfl⟩) ⟨zPc_blind, z_prec C0 hw hq2 (ci := 5) zz rfl, z_give C0 hw hS _⟩ rfl rfl hl.1 rfl (lv_room (Nat.le_of_ble_eq_true rfl)) dX11_have_42 ⟨Nat.zero_le _, Nat.zero_le _⟩
        · exact va_runU (z_fix C0) (c_X5_haveBits l D Y F G S _ q2 hq2 x2 ((zsc S 60 4)) w6 ew6) (va_cwU 2 hts gX11_have_X5_haveBits_u205X8 rfl rfl rfl rfl (by decide +kernel) ⟨Nat.le_of_ble_eq_true rfl, Nat.le_of_ble_eq_true rfl⟩) ⟨zPc_blind, z_prec C0 hw hq2 (ci := 8) zz rfl, z_give C0 hw hS _⟩ rfl rfl hl.1 rfl (lv_room (Nat.le_of_ble_eq_true rfl)) dX11_have_42 ⟨Nat.zero_le _, Nat.zero_le _⟩
        · exact va_runU (z_fix C0) (c_X5_haveBits l D Y F G S _ q2 hq2 x2 ((zsc S 60 4)) w6 ew6) (va_cwU 2 hts gX11_have_X5_haveBits_u205X10 rfl rfl rfl rfl (by decide +kernel) ⟨Nat.le_of_ble_eq_true rfl, Nat.le_of_ble_eq_true rfl⟩) ⟨zPc_blind, z_prec C0 hw hq2 (ci := 10) zz rfl, z_give C0 hw hS _⟩ rfl rfl hl.1 rfl (lv_room (Nat.le_of_ble_eq_true rfl)) dX11_have_42 ⟨Nat.zero_le _, Nat.zero_le _⟩
      exact z_reti C0 hw hS (Option.some.inj h) dX11_have_45
    · replace h := z_ifp c5 h
      refine lv_aload_n hx hb dX11_have_26 rfl (lv_at hl 1 rfl) ?_
      refine lv_bipush (v := (-6)) hx hb dX11_have_27 (by decide) ?_
      obtain ⟨w7, ew7, h⟩ := z_bd h
      refine z_goi C0 hw hS (res := w7) (rest := []) (arr := (Value.ref (F 20) :: [.int (-6)]).toArray) ?_ (fun H locs hw hS => ?_)
      · exact va_runV (z_fix C0) (c_X11_refuse l D Y F G S _ (-6) w7 ew7) (cwV 1 hts gX11_have_X11_refuse rfl rfl rfl (by decide +kernel) ⟨Nat.le_of_ble_eq_true rfl, Nat.le_of_ble_eq_true rfl⟩) ⟨zPc_blind, z_rv C0 hw (k := 20) rfl rfl rfl rfl, z_give C0 hw hS _⟩ rfl rfl hl.1 rfl (lv_room (Nat.le_of_ble_eq_true rfl)) dX11_have_29 ⟨Nat.zero_le _, Nat.zero_le _⟩
      exact z_reti C0 hw hS (Option.some.inj h) dX11_have_32
def M_X11_all (pk : Nat → Nat) (S : zSt) (x1 : Int32) : Option (Int32 × zSt) :=
  Option.bind (M_X4_personAt pk S 0 x1) (fun w1 => (zm w1 (Option.bind (M_X11_refuse pk S (-1)) (fun w3 => some (w3.1, w3.2))) (fun q2 => zg (zOKb pk q2) (Option.bind (M_X5_allBits pk S q2 ((zsc S 60 4))) (fun w4 => some (w4, S))))))
set_option maxHeartbeats 4000000 in
set_option maxRecDepth 100000 in
theorem c_X11_all (l : Launch) (D : va_G) (Y : Nat → ClassId) (F : Nat → Nat) (G : zG) (S : zSt) (sz : Nat) (x1 : Int32) (res : Int32 × zSt) (h : M_X11_all (zpk G) S x1 = some res) : Met l yX11_all wsX11_all (zRm 4 89) (zPc D Y F G S sz [.ref (F 20), .int x1]) (zQi D Y F (zAo F G sz) G res) 0 0 (zAo F G sz) := by
  unfold M_X11_all at h
  refine zMet (cc := cX11_all) (maxL := 3) (ret := (some .int)) (own := RX11) (by decide +kernel) rfl rfl (Nat.le_of_ble_eq_true rfl) ?_
  intro p e s m args below meth c C0 hin hw hS ls hl
  have hl : lv_has ls 3 [(0, .ref (F 20)), (1, .int x1)] := hl
  generalize zAo F G sz = A at C0 hw hS ⊢
  obtain ⟨hx, hb, hml, hr, hown, hts, hK, hA, hlk, hN⟩ := id C0
  refine lv_aload_n hx hb dX11_all_0 rfl (lv_at hl 0 rfl) ?_
  refine z_getU C0 in_X11_all_X11 (C := RX11) (T := TX11) (N := 14) hw (k := 20) (ci := 11) (v := .ref (F 60)) rfl rfl rfl rfl 3 (by decide) rfl 1 rfl (Or.inl rfl) dX11_all_1 ?_
  refine lv_iload_n hx hb dX11_all_4 rfl (lv_at hl 1 rfl) ?_
  obtain ⟨w1, ew1, h⟩ := z_bd h
  refine z_goq C0 hw hS (r0 := w1.map (zpa F G)) (rest := []) (arr := (Value.ref (F 60) :: [.int x1]).toArray) ?_ (fun H locs hw hS => ?_)
  · exact va_runV (z_fix C0) (c_X4_personAt l D Y F G S _ 0 (by decide) x1 w1 ew1) (cwV 1 hts gX11_all_X4_personAt rfl rfl rfl (by decide +kernel) ⟨Nat.le_of_ble_eq_true rfl, Nat.le_of_ble_eq_true rfl⟩) ⟨zPc_blind, z_rv C0 hw (k := 60) rfl rfl rfl rfl, z_give C0 hw hS _⟩ rfl rfl hl.1 rfl (lv_room (Nat.le_of_ble_eq_true rfl)) dX11_all_5 ⟨Nat.zero_le _, Nat.zero_le _⟩
  rcases w1 with _ | q2
  · replace h := zm_n h
    refine z_topv (y := .null) rfl ?_
    refine lv_astore_nN (lv' := [(2, .null), (0, .ref (F 20)), (1, .int x1)]) hx hb dX11_all_8 rfl hl (by decide) rfl (fun ls hl => ?_)
    refine lv_aload_nN hx hb dX11_all_9 rfl (lv_at hl 0 rfl) ?_
    refine lv_ifnonnullN hx hb dX11_all_10 ?_
    refine lv_aload_n hx hb dX11_all_13 rfl (lv_at hl 1 rfl) ?_
    refine lv_iconst (v := (-1)) hx hb dX11_all_14 (by decide) ?_
    obtain ⟨w3, ew3, h⟩ := z_bd h
    refine z_goi C0 hw hS (res := w3) (rest := []) (arr := (Value.ref (F 20) :: [.int (-1)]).toArray) ?_ (fun H locs hw hS => ?_)
    · exact va_runV (z_fix C0) (c_X11_refuse l D Y F G S _ (-1) w3 ew3) (cwV 1 hts gX11_all_X11_refuse rfl rfl rfl (by decide +kernel) ⟨Nat.le_of_ble_eq_true rfl, Nat.le_of_ble_eq_true rfl⟩) ⟨zPc_blind, z_rv C0 hw (k := 20) rfl rfl rfl rfl, z_give C0 hw hS _⟩ rfl rfl hl.1 rfl (lv_room (Nat.le_of_ble_eq_true rfl)) dX11_all_15 ⟨Nat.zero_le _, Nat.zero_le _⟩
    refine lv_goto (tgt := 32) hx hb dX11_all_18 (by decide) ?_
    exact z_reti C0 hw hS (Option.some.inj h) dX11_all_32
  · replace h := zm_s h
    obtain ⟨bq2, h⟩ := z_gd h
    have hq2 := bq2
    refine z_topv (y := .ref (zad F G (100 + 4 * q2))) rfl ?_
    refine lv_astore_n (lv' := [(2, .ref (zad F G (100 + 4 * q2))), (0, .ref (F 20)), (1, .int x1)]) hx hb dX11_all_8 rfl hl (by decide) rfl (fun ls hl => ?_)
    refine lv_aload_n hx hb dX11_all_9 rfl (lv_at hl 0 rfl) ?_
    refine lv_ifnonnull (tgt := 21) hx hb dX11_all_10 (by decide) ?_
    refine lv_aload_n hx hb dX11_all_21 rfl (lv_at hl 0 rfl) ?_
    refine lv_aload_n hx hb dX11_all_22 rfl (lv_at hl 1 rfl) ?_
    refine z_getU C0 in_X11_all_X11 (C := RX11) (T := TX11) (N := 14) hw (k := 20) (ci := 11) (v := .ref (F 60)) rfl rfl rfl rfl 3 (by decide) rfl 1 rfl (Or.inl rfl) dX11_all_23 ?_
    refine z_getU C0 in_X11_all_X4 (C := RX4) (T := TX4) (N := 6) hw (k := 60) (ci := 4) (v := .int ((zsc S 60 4))) rfl rfl rfl rfl 4 (by decide) rfl 2 rfl (Or.inl rfl) dX11_all_26 ?_
    obtain ⟨w4, ew4, h⟩ := z_bd h
    refine z_goi C0 hw hS (res := (w4, S)) (rest := []) (arr := (Value.ref (zad F G (100 + 4 * q2)) :: [.int ((zsc S 60 4))]).toArray) ?_ (fun H locs hw hS => ?_)
    · rcases zOK_cases hq2 with zz | zz | zz | zz | zz | zz | zz
      · exact va_runU (z_fix C0) (c_X5_allBits l D Y F G S _ q2 hq2 ((zsc S 60 4)) w4 ew4) (va_cwU 1 hts gX11_all_X5_allBits_u208X0 rfl rfl rfl rfl (by decide +kernel) ⟨Nat.le_of_ble_eq_true rfl, Nat.le_of_ble_eq_true rfl⟩) ⟨zPc_blind, z_prec C0 hw hq2 (ci := 0) zz rfl, z_give C0 hw hS _⟩ rfl rfl hl.1 rfl (lv_room (Nat.le_of_ble_eq_true rfl)) dX11_all_29 ⟨Nat.zero_le _, Nat.zero_le _⟩
      · exact va_runU (z_fix C0) (c_X5_allBits l D Y F G S _ q2 hq2 ((zsc S 60 4)) w4 ew4) (va_cwU 1 hts gX11_all_X5_allBits_u208X1 rfl rfl rfl rfl (by decide +kernel) ⟨Nat.le_of_ble_eq_true rfl, Nat.le_of_ble_eq_true rfl⟩) ⟨zPc_blind, z_prec C0 hw hq2 (ci := 1) zz rfl, z_give C0 hw hS _⟩ rfl rfl hl.1 rfl (lv_room (Nat.le_of_ble_eq_true rfl)) dX11_all_29 ⟨Nat.zero_le _, Nat.zero_le _⟩
      · exact va_runU (z_fix C0) (c_X5_allBits l D Y F G S _ q2 hq2 ((zsc S 60 4)) w4 ew4) (va_cwU 1 hts gX11_all_X5_allBits_u208X2 rfl rfl rfl rfl (by decide +kernel) ⟨Nat.le_of_ble_eq_true rfl, Nat.le_of_ble_eq_true rfl⟩) ⟨zPc_blind, z_prec C0 hw hq2 (ci := 2) zz rfl, z_give C0 hw hS _⟩ rfl rfl hl.1 rfl (lv_room (Nat.le_of_ble_eq_true rfl)) dX11_all_29 ⟨Nat.zero_le _, Nat.zero_le _⟩
      · exact va_runU (z_fix C0) (c_X5_allBits l D Y F G S _ q2 hq2 ((zsc S 60 4)) w4 ew4) (va_cwU 1 hts gX11_all_X5_allBits_u208X3 rfl rfl rfl rfl (by decide +kernel) ⟨Nat.le_of_ble_eq_true rfl, Nat.le_of_ble_eq_true rfl⟩) ⟨zPc_blind, z_prec C0 hw hq2 (ci := 3) zz rfl, z_give C0 hw hS _⟩ rfl rfl hl.1 rfl (lv_room (Nat.le_of_ble_eq_true rfl)) dX11_all_29 ⟨Nat.zero_le _, Nat.zero_le _⟩
      · exact va_runV (z_fix C0) (c_X5_allBits l D Y F G S _ q2 hq2 ((zsc S 60 4)) w4 ew4) (cwV 1 hts gX11_all_X5_allBits rfl rfl rfl (by decide +kernel) ⟨Nat.le_of_ble_eq_true rfl, Nat.le_of_ble_eq_true rfl⟩) ⟨zPc_blind, z_prec C0 hw hq2 (ci := 5) zz rfl, z_give C0 hw hS _⟩ rfl rfl hl.1 rfl (lv_room (Nat.le_of_ble_eq_true rfl)) dX11_all_29 ⟨Nat.zero_le _, Nat.zero_le _⟩
      · exact va_runU (z_fix C0) (c_X5_allBits l D Y F G S _ q2 hq2 ((zsc S 60 4)) w4 ew4) (va_cwU 1 hts gX11_all_X5_allBits_u208X8 rfl rfl rfl rfl (by decide +kernel) ⟨Nat.le_of_ble_eq_true rfl, Nat.le_of_ble_eq_true rfl⟩) ⟨zPc_blind, z_prec C0 hw hq2 (ci := 8) zz rfl, z_give C0 hw hS _⟩ rfl rfl hl.1 rfl (lv_room (Nat.le_of_ble_eq_true rfl)) dX11_all_29 ⟨Nat.zero_le _, Nat.zero_le _⟩
      · exact va_runU (z_fix C0) (c_X5_allBits l D Y F G S _ q2 hq2 ((zsc S 60 4)) w4 ew4) (va_cwU 1 hts gX11_all_X5_allBits_u208X10 rfl rfl rfl rfl (by decide +kernel) ⟨Nat.le_of_ble_eq_true rfl, Nat.le_of_ble_eq_true rfl⟩) ⟨zPc_blind, z_prec C0 hw hq2 (ci := 10) zz rfl, z_give C0 hw hS _⟩ rfl rfl hl.1 rfl (lv_room (Nat.le_of_ble_eq_true rfl)) dX11_all_29 ⟨Nat.zero_le _, Nat.zero_le _⟩
    exact z_reti C0 hw hS (Option.some.inj h) dX11_all_32
def M_X11_leastForce_B73 (pk : Nat → Nat) (S : zSt) (q1 : Nat) (K3 : Int32 → Int32 → Int32 → Int32 → Option (Int32)) (x2 : Int32) (x3 : Int32) (x4 : Int32) (x5 : Int32) (x6 : Int32) (y0 : Int32) : Option (Int32) :=
  (if x6 = 0 then K3 x2 x3 x4 ((x5 + 1)) else (if x4 = 0 then some x5 else (if y0 = 0 then some x5 else K3 x2 x3 x4 ((x5 + 1)))))
set_option maxHeartbeats 4000000 in
set_option maxRecDepth 100000 in
theorem t_X11_leastForce_B73 {p : Program} {l : Launch} {e : Env} {s : State} {m : MethodId} {args : Array Value} {below : List Frame} {meth : Method} {c : Code} {D : va_G} {Y : Nat → ClassId} {F : Nat → Nat} {A : Nat → Prop} {G : zG} (C0 : zCx p s m args meth c D Y F A RX11 cX11_leastForce 8 (some .int) wsX11_leastForce) (S : zSt) (q1 : Nat) (hq1 : zOKb (zpk G) q1 = true) (res : Int32) (K3 : Int32 → Int32 → Int32 → Int32 → Option (Int32)) (hK3 : ∀ (x2 : Int32) (x3 : Int32) (x4 : Int32) (x5 : Int32), K3 x2 x3 x4 x5 = some res → ∀ (H : Heap) (locs : List Loc) (ls : Array Slot), zH D Y F A G S H → va_S A s.heap H locs → lv_has ls 8 [(0, .ref (F 20)), (1, .ref (zad F G (100 + 4 * q1))), (2, .int x2), (3, .int x3), (4, .int x4), (5, .int x5)] → W p l e (zRm 5 115) s m args below meth c H locs 0 0 (MQ below (zQi D Y F A G (res, S)) args s 0 0 A) (F0 m 3 ls [])) : ∀ (x2 : Int32) (x3 : Int32) (x4 : Int32) (x5 : Int32) (x6 : Int32) (y0 : Int32), M_X11_leastForce_B73 (zpk G) S q1 K3 x2 x3 x4 x5 x6 y0 = some res → ∀ (H : Heap) (locs : List Loc) (ls : Array Slot), zH D Y F A G S H → va_S A s.heap H locs → lv_has ls 8 [(0, .ref (F 20)), (1, .ref (zad F G (100 + 4 * q1))), (2, .int x2), (3, .int x3), (4, .int x4), (5, .int x5), (6, .int x6)] → W p l e (zRm 5 115) s m args below meth c H locs 0 0 (MQ below (zQi D Y F A G (res, S)) args s 0 0 A) (F0 m 73 ls [.int y0]) := by
  obtain ⟨hx, hb, hml, hr, hown, hts, hK, hA, hlk, hN⟩ := id C0
  intro x2 x3 x4 x5 x6 y0 h H locs ls hw hS hl
  unfold M_X11_leastForce_B73 at h
  refine lv_istore (lv' := [(7, .int y0), (0, .ref (F 20)), (1, .ref (zad F G (100 + 4 * q1))), (2, .int x2), (3, .int x3), (4, .int x4), (5, .int x5), (6, .int x6)]) hx hb dX11_leastForce_73 hl (by decide) rfl (fun ls hl => ?_)
  refine lv_iload hx hb dX11_leastForce_75 (lv_at hl 7 rfl) ?_
  refine lv_if_eq (tgt := 93) hx hb dX11_leastForce_77 (by decide) (fun c6 => ?_) (fun c6 => ?_)
  · replace h := z_ifp c6 h
    refine lv_iinc (v := (x5 + 1)) (lv' := [(5, .int ((x5 + 1))), (7, .int y0), (0, .ref (F 20)), (1, .ref (zad F G (100 + 4 * q1))), (2, .int x2), (3, .int x3), (4, .int x4), (6, .int x6)]) hx hb dX11_leastForce_93 hl (k := 6) rfl rfl (by decide) rfl (fun ls hl => ?_)
    refine lv_goto (tgt := 3) hx hb dX11_leastForce_96 (by decide) ?_
    exact hK3 x2 x3 x4 ((x5 + 1)) h _ _ _ hw hS (lv_sub hl [2, 3, 4, 5, 6, 0] rfl)
  · replace h := z_ifn c6 h
    refine lv_iload hx hb dX11_leastForce_80 (lv_at hl 5 rfl) ?_
    refine lv_if_eq (tgt := 90) hx hb dX11_leastForce_82 (by decide) (fun c7 => ?_) (fun c7 => ?_)
    · replace h := z_ifp c7 h
      refine lv_iload hx hb dX11_leastForce_90 (lv_at hl 6 rfl) ?_
      exact z_reti C0 hw hS (congrArg (fun z => (z, S)) (Option.some.inj h)) dX11_leastForce_92
    · replace h := z_ifn c7 h
      refine lv_iload hx hb dX11_leastForce_85 (lv_at hl 0 rfl) ?_
      refine lv_if_ne (tgt := 93) hx hb dX11_leastForce_87 (by decide) (fun c8 => ?_) (fun c8 => ?_)
      · replace h := z_ifn c8 h
        refine lv_iinc (v := (x5 + 1)) (lv' := [(5, .int ((x5 + 1))), (7, .int y0), (0, .ref (F 20)), (1, .ref (zad F G (100 + 4 * q1))), (2, .int x2), (3, .int x3), (4, .int x4), (6, .int x6)]) hx hb dX11_leastForce_93 hl (k := 6) rfl rfl (by decide) rfl (fun ls hl => ?_)
        refine lv_goto (tgt := 3) hx hb dX11_leastForce_96 (by decide) ?_
        exact hK3 x2 x3 x4 ((x5 + 1)) h _ _ _ hw hS (lv_sub hl [2, 3, 4, 5, 6, 0] rfl)
      · replace h := z_ifp c8 h
        refine lv_iload hx hb dX11_leastForce_90 (lv_at hl 6 rfl) ?_
        exact z_reti C0 hw hS (congrArg (fun z => (z, S)) (Option.some.inj h)) dX11_leastForce_92
def M_X11_leastForce_B45 (pk : Nat → Nat) (S : zSt) (q1 : Nat) (K3 : Int32 → Int32 → Int32 → Int32 → Option (Int32)) (x2 : Int32) (x3 : Int32) (x4 : Int32) (x5 : Int32) (y0 : Int32) : Option (Int32) :=
  Option.bind (M_X5_haveDown pk S q1 x2 ((x3 + 1)) 5 x5 ((zsc S 60 4))) (fun w4 => (if w4 ≤ 0 then M_X11_leastForce_B73 pk S q1 K3 x2 x3 x4 x5 y0 0 else M_X11_leastForce_B73 pk S q1 K3 x2 x3 x4 x5 y0 1))
set_option maxHeartbeats 4000000 in
set_option maxRecDepth 100000 in
theorem t_X11_leastForce_B45 {p : Program} {l : Launch} {e : Env} {s : State} {m : MethodId} {args : Array Value} {below : List Frame} {meth : Method} {c : Code} {D : va_G} {Y : Nat → ClassId} {F : Nat → Nat} {A : Nat → Prop} {G : zG} (C0 : zCx p s m args meth c D Y F A RX11 cX11_leastForce 8 (some .int) wsX11_leastForce) (S : zSt) (q1 : Nat) (hq1 : zOKb (zpk G) q1 = true) (res : Int32) (K3 : Int32 → Int32 → Int32 → Int32 → Option (Int32)) (hK3 : ∀ (x2 : Int32) (x3 : Int32) (x4 : Int32) (x5 : Int32), K3 x2 x3 x4 x5 = some res → ∀ (H : Heap) (locs : List Loc) (ls : Array Slot), zH D Y F A G S H → va_S A s.heap H locs → lv_has ls 8 [(0, .ref (F 20)), (1, .ref (zad F G (100 + 4 * q1))), (2, .int x2), (3, .int x3), (4, .int x4), (5, .int x5)] → W p l e (zRm 5 115) s m args below meth c H locs 0 0 (MQ below (zQi D Y F A G (res, S)) args s 0 0 A) (F0 m 3 ls [])) : ∀ (x2 : Int32) (x3 : Int32) (x4 : Int32) (x5 : Int32) (y0 : Int32), M_X11_leastForce_B45 (zpk G) S q1 K3 x2 x3 x4 x5 y0 = some res → ∀ (H : Heap) (locs : List Loc) (ls : Array Slot), zH D Y F A G S H → va_S A s.heap H locs → lv_has ls 8 [(0, .ref (F 20)), (1, .ref (zad F G (100 + 4 * q1))), (2, .int x2), (3, .int x3), (4, .int x4), (5, .int x5)] → W p l e (zRm 5 115) s m args below meth c H locs 0 0 (MQ below (zQi D Y F A G (res, S)) args s 0 0 A) (F0 m 45 ls [.int y0]) := by
  obtain ⟨hx, hb, hml, hr, hown, hts, hK, hA, hlk, hN⟩ := id C0
  intro x2 x3 x4 x5 y0 h H locs ls hw hS hl
  unfold M_X11_leastForce_B45 at h
  refine lv_istore (lv' := [(6, .int y0), (0, .ref (F 20)), (1, .ref (zad F G (100 + 4 * q1))), (2, .int x2), (3, .int x3), (4, .int x4), (5, .int x5)]) hx hb dX11_leastForce_45 hl (by decide) rfl (fun ls hl => ?_)
  refine lv_aload_n hx hb dX11_leastForce_47 rfl (lv_at hl 2 rfl) ?_
  refine lv_iload_n hx hb dX11_leastForce_48 rfl (lv_at hl 3 rfl) ?_
  refine lv_iload_n hx hb dX11_leastForce_49 rfl (lv_at hl 4 rfl) ?_
  refine lv_iconst (v := 1) hx hb dX11_leastForce_50 (by decide) ?_
  refine lv_iadd hx hb dX11_leastForce_51 ?_
  refine lv_iconst (v := 5) hx hb dX11_leastForce_52 (by decide) ?_
  refine lv_iload hx hb dX11_leastForce_53 (lv_at hl 6 rfl) ?_
  refine lv_aload_n hx hb dX11_leastForce_55 rfl (lv_at hl 1 rfl) ?_
  refine z_getU C0 in_X11_leastForce_X11 (C := RX11) (T := TX11) (N := 14) hw (k := 20) (ci := 11) (v := .ref (F 60)) rfl rfl rfl rfl 3 (by decide) rfl 2 rfl (Or.inl rfl) dX11_leastForce_56 ?_
  refine z_getU C0 in_X11_leastForce_X4 (C := RX4) (T := TX4) (N := 6) hw (k := 60) (ci := 4) (v := .int ((zsc S 60 4))) rfl rfl rfl rfl 4 (by decide) rfl 3 rfl (Or.inl rfl) dX11_leastForce_59 ?_
  obtain ⟨w4, ew4, h⟩ := z_bd h
  refine z_goi C0 hw hS (res := (w4, S)) (rest := []) (arr := (Value.ref (zad F G (100 + 4 * q1)) :: [.int x2, .int ((x3 + 1)), .int 5, .int x5, .int ((zsc S 60 4))]).toArray) ?_ (fun H locs hw hS => ?_)
  · rcases zOK_cases hq1 with zz | zz | zz | zz | zz | zz | zz
    · exact va_runU (z_fix C0) (c_X5_haveDown l D Y F G S _ q1 hq1 x2 ((x3 + 1)) 5 x5 ((zsc S 60 4)) w4 ew4) (va_cwU 5 hts gX11_leastForce_X5_haveDown_u336X0 rfl rfl rfl rfl (by decide +kernel) ⟨Nat.le_of_ble_eq_true rfl, Nat.le_of_ble_eq_true rfl⟩) ⟨zPc_blind, z_prec C0 hw hq1 (ci := 0) zz rfl, z_give C0 hw hS _⟩ rfl rfl hl.1 rfl (lv_room (Nat.le_of_ble_eq_true rfl)) dX11_leastForce_62 ⟨Nat.zero_le _, Nat.zero_le _⟩
    · exact va_runU (z_fix C0) (c_X5_haveDown l D Y F G S _ q1 hq1 x2 ((x3 + 1)) 5 x5 ((zsc S 60 4)) w4 ew4) (va_cwU 5 hts gX11_leastForce_X5_haveDown_u336X1 rfl rfl rfl rfl (by decide +kernel) ⟨Nat.le_of_ble_eq_true rfl, Nat.le_of_ble_eq_true rfl⟩) ⟨zPc_blind, z_prec C0 hw hq1 (ci := 1) zz rfl, z_give C0 hw hS _⟩ rfl rfl hl.1 rfl (lv_room (Nat.le_of_ble_eq_true rfl)) dX11_leastForce_62 ⟨Nat.zero_le _, Nat.zero_le _⟩
    · exact va_runU (z_fix C0) (c_X5_haveDown l D Y F G S _ q1 hq1 x2 ((x3 + 1)) 5 x5 ((zsc S 60 4)) w4 ew4) (va_cwU 5 hts gX11_leastForce_X5_haveDown_u336X2 rfl rfl rfl rfl (by decide +kernel) ⟨Nat.le_of_ble_eq_true rfl, Nat.le_of_ble_eq_true rfl⟩) ⟨zPc_blind, z_prec C0 hw hq1 (ci := 2) zz rfl, z_give C0 hw hS _⟩ rfl rfl hl.1 rfl (lv_room (Nat.le_of_ble_eq_true rfl)) dX11_leastForce_62 ⟨Nat.zero_le _, Nat.zero_le _⟩
    · exact va_runU (z_fix C0) (c_X5_haveDown l D Y F G S _ q1 hq1 x2 ((x3 + 1)) 5 x5 ((zsc S 60 4)) w4 ew4) (va_cwU 5 hts gX11_leastForce_X5_haveDown_u336X3 rfl rfl rfl rfl (by decide +kernel) ⟨Nat.le_of_ble_eq_true rfl, Nat.le_of_ble_eq_true rfl⟩) ⟨zPc_blind, z_prec C0 hw hq1 (ci := 3) zz rfl, z_give C0 hw hS _⟩ rfl rfl hl.1 rfl (lv_room (Nat.le_of_ble_eq_true rfl)) dX11_leastForce_62 ⟨Nat.zero_le _, Nat.zero_le _⟩
    · exact va_runV (z_fix C0) (c_X5_haveDown l D Y F G S _ q1 hq1 x2 ((x3 + 1)) 5 x5 ((zsc S 60 4)) w4 ew4) (cwV 5 hts gX11_leastForce_X5_haveDown rfl rfl rfl (by decide +kernel) ⟨Nat.le_of_ble_eq_true rfl, Nat.le_of_ble_eq_true rfl⟩) ⟨zPc_blind, z_prec C0 hw hq1 (ci := 5) zz rfl, z_give C0 hw hS _⟩ rfl rfl hl.1 rfl (lv_room (Nat.le_of_ble_eq_true rfl)) dX11_leastForce_62 ⟨Nat.zero_le _, Nat.zero_le _⟩
    · exact va_runU (z_fix C0) (c_X5_haveDown l D Y F G S _ q1 hq1 x2 ((x3 + 1)) 5 x5 ((zsc S 60 4)) w4 ew4) (va_cwU 5 hts gX11_leastForce_X5_haveDown_u336X8 rfl rfl rfl rfl (by decide +kernel) ⟨Nat.le_of_ble_eq_true rfl, Nat.le_of_ble_eq_true rfl⟩) ⟨zPc_blind, z_prec C0 hw hq1 (ci := 8) zz rfl, z_give C0 hw hS _⟩ rfl rfl hl.1 rfl (lv_room (Nat.le_of_ble_eq_true rfl)) dX11_leastForce_62 ⟨Nat.zero_le _, Nat.zero_le _⟩
    · exact va_runU (z_fix C0) (c_X5_haveDown l D Y F G S _ q1 hq1 x2 ((x3 + 1)) 5 x5 ((zsc S 60 4)) w4 ew4) (va_cwU 5 hts gX11_leastForce_X5_haveDown_u336X10 rfl rfl rfl rfl (by decide +kernel) ⟨Nat.le_of_ble_eq_true rfl, Nat.le_of_ble_eq_true rfl⟩) ⟨zPc_blind, z_prec C0 hw hq1 (ci := 10) zz rfl, z_give C0 hw hS _⟩ rfl rfl hl.1 rfl (lv_room (Nat.le_of_ble_eq_true rfl)) dX11_leastForce_62 ⟨Nat.zero_le _, Nat.zero_le _⟩
  refine lv_if_le (tgt := 72) hx hb dX11_leastForce_65 (by decide) (fun c5 => ?_) (fun c5 => ?_)
  · replace h := z_ifp c5 h
    refine lv_iconst (v := 0) hx hb dX11_leastForce_72 (by decide) ?_
    exact t_X11_leastForce_B73 C0 S q1 hq1 res K3 hK3 x2 x3 x4 x5 y0 0 h _ _ _ hw hS (lv_sub hl [1, 2, 3, 4, 5, 6, 0] rfl)
  · replace h := z_ifn c5 h
    refine lv_iconst (v := 1) hx hb dX11_leastForce_68 (by decide) ?_
    refine lv_goto (tgt := 73) hx hb dX11_leastForce_69 (by decide) ?_
    exact t_X11_leastForce_B73 C0 S q1 hq1 res K3 hK3 x2 x3 x4 x5 y0 1 h _ _ _ hw hS (lv_sub hl [1, 2, 3, 4, 5, 6, 0] rfl)
def M_X11_leastForce_B3 (pk : Nat → Nat) (S : zSt) (q1 : Nat) : Nat → Int32 → Int32 → Int32 → Int32 → Option (Int32)
  | 0, _, _, _, _ => none
  | n + 1, x2, x3, x4, x5 =>
  (if 99 < x5 then some (-1) else Option.bind (M_X5_haveDown pk S q1 x2 ((zsc S (100 + 4 * q1) 8)) x3 x5 ((zsc S 60 4))) (fun w2 => (if w2 = ((x3 - (zsc S (100 + 4 * q1) 8)) + 1) then M_X11_leastForce_B45 pk S q1 (fun x2_ x3_ x4_ x5_ => M_X11_leastForce_B3 pk S q1 n x2_ x3_ x4_ x5_) x2 x3 x4 x5 1 else M_X11_leastForce_B45 pk S q1 (fun x2_ x3_ x4_ x5_ => M_X11_leastForce_B3 pk S q1 n x2_ x3_ x4_ x5_) x2 x3 x4 x5 0)))
set_option maxHeartbeats 4000000 in
set_option maxRecDepth 100000 in
theorem t_X11_leastForce_B3 {p : Program} {l : Launch} {e : Env} {s : State} {m : MethodId} {args : Array Value} {below : List Frame} {meth : Method} {c : Code} {D : va_G} {Y : Nat → ClassId} {F : Nat → Nat} {A : Nat → Prop} {G : zG} (C0 : zCx p s m args meth c D Y F A RX11 cX11_leastForce 8 (some .int) wsX11_leastForce) (S : zSt) (q1 : Nat) (hq1 : zOKb (zpk G) q1 = true) (res : Int32) : ∀ (n : Nat), ∀ (x2 : Int32) (x3 : Int32) (x4 : Int32) (x5 : Int32), M_X11_leastForce_B3 (zpk G) S q1 n x2 x3 x4 x5 = some res → ∀ (H : Heap) (locs : List Loc) (ls : Array Slot), zH D Y F A G S H → va_S A s.heap H locs → lv_has ls 8 [(0, .ref (F 20)), (1, .ref (zad F G (100 + 4 * q1))), (2, .int x2), (3, .int x3), (4, .int x4), (5, .int x5)] → W p l e (zRm 5 115) s m args below meth c H locs 0 0 (MQ below (zQi D Y F A G (res, S)) args s 0 0 A) (F0 m 3 ls []) := by
  obtain ⟨hx, hb, hml, hr, hown, hts, hK, hA, hlk, hN⟩ := id C0
  intro n
  induction n with
  | zero =>
    intro x2 x3 x4 x5 h
    unfold M_X11_leastForce_B3 at h
    cases h
  | succ n ih =>
    intro x2 x3 x4 x5 h H locs ls hw hS hl
    rw [M_X11_leastForce_B3] at h
    refine lv_iload hx hb dX11_leastForce_3 (lv_at hl 5 rfl) ?_
    refine lv_bipush (v := 99) hx hb dX11_leastForce_5 (by decide) ?_
    refine lv_icmp_gt (tgt := 99) hx hb dX11_leastForce_7 (by decide) (fun c1 => ?_) (fun c1 => ?_)
    · replace h := z_ifp c1 h
      refine lv_iconst (v := (-1)) hx hb dX11_leastForce_99 (by decide) ?_
      exact z_reti C0 hw hS (congrArg (fun z => (z, S)) (Option.some.inj h)) dX11_leastForce_100
    · replace h := z_ifn c1 h
      refine lv_aload_n hx hb dX11_leastForce_10 rfl (lv_at hl 1 rfl) ?_
      refine lv_iload_n hx hb dX11_leastForce_11 rfl (lv_at hl 2 rfl) ?_
      refine lv_aload_n hx hb dX11_leastForce_12 rfl (lv_at hl 1 rfl) ?_
      refine z_getP C0 inP_X11_leastForce hw hq1 8 (by decide) (v := .int ((zsc S (100 + 4 * q1) 8))) rfl 1 rfl (Or.inl rfl) dX11_leastForce_13 ?_
      refine lv_iload_n hx hb dX11_leastForce_16 rfl (lv_at hl 3 rfl) ?_
      refine lv_iload hx hb dX11_leastForce_17 (lv_at hl 5 rfl) ?_
      refine lv_aload_n hx hb dX11_leastForce_19 rfl (lv_at hl 0 rfl) ?_
      refine z_getU C0 in_X11_leastForce_X11 (C := RX11) (T := TX11) (N := 14) hw (k := 20) (ci := 11) (v := .ref (F 60)) rfl rfl rfl rfl 3 (by decide) rfl 2 rfl (Or.inl rfl) dX11_leastForce_20 ?_
      refine z_getU C0 in_X11_leastForce_X4 (C := RX4) (T := TX4) (N := 6) hw (k := 60) (ci := 4) (v := .int ((zsc S 60 4))) rfl rfl rfl rfl 4 (by decide) rfl 3 rfl (Or.inl rfl) dX11_leastForce_23 ?_
      obtain ⟨w2, ew2, h⟩ := z_bd h
      refine z_goi C0 hw hS (res := (w2, S)) (rest := []) (arr := (Value.ref (zad F G (100 + 4 * q1)) :: [.int x2, .int ((zsc S (100 + 4 * q1) 8)), .int x3, .int x5, .int ((zsc S 60 4))]).toArray) ?_ (fun H locs hw hS => ?_)
      · rcases zOK_cases hq1 with zz | zz | zz | zz | zz | zz | zz
        · exact va_runU (z_fix C0) (c_X5_haveDown l D Y F G S _ q1 hq1 x2 ((zsc S (100 + 4 * q1) 8)) x3 x5 ((zsc S 60 4)) w2 ew2) (va_cwU 5 hts gX11_leastForce_X5_haveDown_u336X0 rfl rfl rfl rfl (by decide +kernel) ⟨Nat.le_of_ble_eq_true rfl, Nat.le_of_ble_eq_true rfl⟩) ⟨zPc_blind, z_prec C0 hw hq1 (ci := 0) zz rfl, z_give C0 hw hS _⟩ rfl rfl hl.1 rfl (lv_room (Nat.le_of_ble_eq_true rfl)) dX11_leastForce_26 ⟨Nat.zero_le _, Nat.zero_le _⟩
        · exact va_runU (z_fix C0) (c_X5_haveDown l D Y F G S _ q1 hq1 x2 ((zsc S (100 + 4 * q1) 8)) x3 x5 ((zsc S 60 4)) w2 ew2) (va_cwU 5 hts gX11_leastForce_X5_haveDown_u336X1 rfl rfl rfl rfl (by decide +kernel) ⟨Nat.le_of_ble_eq_true rfl, Nat.le_of_ble_eq_true rfl⟩) ⟨zPc_blind, z_prec C0 hw hq1 (ci := 1) zz rfl, z_give C0 hw hS _⟩ rfl rfl hl.1 rfl (lv_room (Nat.le_of_ble_eq_true rfl)) dX11_leastForce_26 ⟨Nat.zero_le _, Nat.zero_le _⟩
        · exact va_runU (z_fix C0) (c_X5_haveDown l D Y F G S _ q1 hq1 x2 ((zsc S (100 + 4 * q1) 8)) x3 x5 ((zsc S 60 4)) w2 ew2) (va_cwU 5 hts gX11_leastForce_X5_haveDown_u336X2 rfl rfl rfl rfl (by decide +kernel) ⟨Nat.le_of_ble_eq_true rfl, Nat.le_of_ble_eq_true rfl⟩) ⟨zPc_blind, z_prec C0 hw hq1 (ci := 2) zz rfl, z_give C0 hw hS _⟩ rfl rfl hl.1 rfl (lv_room (Nat.le_of_ble_eq_true rfl)) dX11_leastForce_26 ⟨Nat.zero_le _, Nat.zero_le _⟩
        · exact va_runU (z_fix C0) (c_X5_haveDown l D Y F G S _ q1 hq1 x2 ((zsc S (100 + 4 * q1) 8)) x3 x5 ((zsc S 60 4)) w2 ew2) (va_cwU 5 hts gX11_leastForce_X5_haveDown_u336X3 rfl rfl rfl rfl (by decide +kernel) ⟨Nat.le_of_ble_eq_true rfl, Nat.le_of_ble_eq_true rfl⟩) ⟨zPc_blind, z_prec C0 hw hq1 (ci := 3) zz rfl, z_give C0 hw hS _⟩ rfl rfl hl.1 rfl (lv_room (Nat.le_of_ble_eq_true rfl)) dX11_leastForce_26 ⟨Nat.zero_le _, Nat.zero_le _⟩
        · exact va_runV (z_fix C0) (c_X5_haveDown l D Y F G S _ q1 hq1 x2 ((zsc S (100 + 4 * q1) 8)) x3 x5 ((zsc S 60 4)) w2 ew2) (cwV 5 hts gX11_leastForce_X5_haveDown rfl rfl rfl (by decide +kernel) ⟨Nat.le_of_ble_eq_true rfl, Nat.le_of_ble_eq_true rfl⟩) ⟨zPc_blind, z_prec C0 hw hq1 (ci := 5) zz rfl, z_give C0 hw hS _⟩ rfl rfl hl.1 rfl (lv_room (Nat.le_of_ble_eq_true rfl)) dX11_leastForce_26 ⟨Nat.zero_le _, Nat.zero_le _⟩
        · exact va_runU (z_fix C0) (c_X5_haveDown l D Y F G S _ q1 hq1 x2 ((zsc S (100 + 4 * q1) 8)) x3 x5 ((zsc S 60 4)) w2 ew2) (va_cwU 5 hts gX11_leastForce_X5_haveDown_u336X8 rfl rfl rfl rfl (by decide +kernel) ⟨Nat.le_of_ble_eq_true rfl, Nat.le_of_ble_eq_true rfl⟩) ⟨zPc_blind, z_prec C0 hw hq1 (ci := 8) zz rfl, z_give C0 hw hS _⟩ rfl rfl hl.1 rfl (lv_room (Nat.le_of_ble_eq_true rfl)) dX11_leastForce_26 ⟨Nat.zero_le _, Nat.zero_le _⟩
        · exact va_runU (z_fix C0) (c_X5_haveDown l D Y F G S _ q1 hq1 x2 ((zsc S (100 + 4 * q1) 8)) x3 x5 ((zsc S 60 4)) w2 ew2) (va_cwU 5 hts gX11_leastForce_X5_haveDown_u336X10 rfl rfl rfl rfl (by decide +kernel) ⟨Nat.le_of_ble_eq_true rfl, Nat.le_of_ble_eq_true rfl⟩) ⟨zPc_blind, z_prec C0 hw hq1 (ci := 10) zz rfl, z_give C0 hw hS _⟩ rfl rfl hl.1 rfl (lv_room (Nat.le_of_ble_eq_true rfl)) dX11_leastForce_26 ⟨Nat.zero_le _, Nat.zero_le _⟩
      refine lv_iload_n hx hb dX11_leastForce_29 rfl (lv_at hl 3 rfl) ?_
      refine lv_aload_n hx hb dX11_leastForce_30 rfl (lv_at hl 1 rfl) ?_
      refine z_getP C0 inP_X11_leastForce hw hq1 8 (by decide) (v := .int ((zsc S (100 + 4 * q1) 8))) rfl 1 rfl (Or.inl rfl) dX11_leastForce_31 ?_
      refine lv_isub hx hb dX11_leastForce_34 ?_
      refine lv_iconst (v := 1) hx hb dX11_leastForce_35 (by decide) ?_
      refine lv_iadd hx hb dX11_leastForce_36 ?_
      refine lv_icmp_ne (tgt := 44) hx hb dX11_leastForce_37 (by decide) (fun c3 => ?_) (fun c3 => ?_)
      · replace h := z_ifn c3 h
        refine lv_iconst (v := 0) hx hb dX11_leastForce_44 (by decide) ?_
        exact t_X11_leastForce_B45 C0 S q1 hq1 res (fun x2_ x3_ x4_ x5_ => M_X11_leastForce_B3 (zpk G) S q1 n x2_ x3_ x4_ x5_) ih x2 x3 x4 x5 0 h _ _ _ hw hS (lv_sub hl [0, 1, 2, 3, 4, 5] rfl)
      · replace h := z_ifp c3 h
        refine lv_iconst (v := 1) hx hb dX11_leastForce_40 (by decide) ?_
        refine lv_goto (tgt := 45) hx hb dX11_leastForce_41 (by decide) ?_
        exact t_X11_leastForce_B45 C0 S q1 hq1 res (fun x2_ x3_ x4_ x5_ => M_X11_leastForce_B3 (zpk G) S q1 n x2_ x3_ x4_ x5_) ih x2 x3 x4 x5 1 h _ _ _ hw hS (lv_sub hl [0, 1, 2, 3, 4, 5] rfl)
def M_X11_leastForce (pk : Nat → Nat) (S : zSt) (q1 : Nat) (x2 : Int32) (x3 : Int32) (x4 : Int32) : Option (Int32) :=
  M_X11_leastForce_B3 pk S q1 zF x2 x3 x4 1
set_option maxHeartbeats 4000000 in
set_option maxRecDepth 100000 in
theorem c_X11_leastForce (l : Launch) (D : va_G) (Y : Nat → ClassId) (F : Nat → Nat) (G : zG) (S : zSt) (sz : Nat) (q1 : Nat) (hq1 : zOKb (zpk G) q1 = true) (x2 : Int32) (x3 : Int32) (x4 : Int32) (res : Int32) (h : M_X11_leastForce (zpk G) S q1 x2 x3 x4 = some res) : Met l yX11_leastForce wsX11_leastForce (zRm 5 115) (zPc D Y F G S sz [.ref (F 20), .ref (zad F G (100 + 4 * q1)), .int x2, .int x3, .int x4]) (zQi D Y F (zAo F G sz) G (res, S)) 0 0 (zAo F G sz) := by
  unfold M_X11_leastForce at h
  refine zMet (cc := cX11_leastForce) (maxL := 8) (ret := (some .int)) (own := RX11) (by decide +kernel) rfl rfl (Nat.le_of_ble_eq_true rfl) ?_
  intro p e s m args below meth c C0 hin hw hS ls hl
  have hl : lv_has ls 8 [(0, .ref (F 20)), (1, .ref (zad F G (100 + 4 * q1))), (2, .int x2), (3, .int x3), (4, .int x4)] := hl
  generalize zAo F G sz = A at C0 hw hS ⊢
  obtain ⟨hx, hb, hml, hr, hown, hts, hK, hA, hlk, hN⟩ := id C0
  refine lv_iconst (v := 1) hx hb dX11_leastForce_0 (by decide) ?_
  refine lv_istore (lv' := [(5, .int 1), (0, .ref (F 20)), (1, .ref (zad F G (100 + 4 * q1))), (2, .int x2), (3, .int x3), (4, .int x4)]) hx hb dX11_leastForce_1 hl (by decide) rfl (fun ls hl => ?_)
  exact t_X11_leastForce_B3 C0 S q1 hq1 res zF x2 x3 x4 1 h _ _ _ hw hS (lv_sub hl [1, 2, 3, 4, 5, 0] rfl)
def M_X11_force_B59 (pk : Nat → Nat) (S : zSt) : Option (Int32 × zSt) :=
  Option.bind (M_X11_refuseLess pk S (-6) 10) (fun w8 => some (w8.1, w8.2))
set_option maxHeartbeats 4000000 in
set_option maxRecDepth 100000 in
theorem t_X11_force_B59 {p : Program} {l : Launch} {e : Env} {s : State} {m : MethodId} {args : Array Value} {below : List Frame} {meth : Method} {c : Code} {D : va_G} {Y : Nat → ClassId} {F : Nat → Nat} {A : Nat → Prop} {G : zG} (C0 : zCx p s m args meth c D Y F A RX11 cX11_force 6 (some .int) wsX11_force) (res : Int32 × zSt) : ∀ (S : zSt), M_X11_force_B59 (zpk G) S = some res → ∀ (H : Heap) (locs : List Loc) (ls : Array Slot), zH D Y F A G S H → va_S A s.heap H locs → lv_has ls 6 [(0, .ref (F 20))] → W p l e (zRm 6 142) s m args below meth c H locs 0 0 (MQ below (zQi D Y F A G res) args s 0 0 A) (F0 m 59 ls []) := by
  obtain ⟨hx, hb, hml, hr, hown, hts, hK, hA, hlk, hN⟩ := id C0
  intro S h H locs ls hw hS hl
  unfold M_X11_force_B59 at h
  refine lv_aload_n hx hb dX11_force_59 rfl (lv_at hl 0 rfl) ?_
  refine lv_bipush (v := (-6)) hx hb dX11_force_60 (by decide) ?_
  refine lv_bipush (v := 10) hx hb dX11_force_62 (by decide) ?_
  obtain ⟨w8, ew8, h⟩ := z_bd h
  refine z_goi C0 hw hS (res := w8) (rest := []) (arr := (Value.ref (F 20) :: [.int (-6), .int 10]).toArray) ?_ (fun H locs hw hS => ?_)
  · exact va_runV (z_fix C0) (c_X11_refuseLess l D Y F G S _ (-6) 10 w8 ew8) (cwV 2 hts gX11_force_X11_refuseLess rfl rfl rfl (by decide +kernel) ⟨Nat.le_of_ble_eq_true rfl, Nat.le_of_ble_eq_true rfl⟩) ⟨zPc_blind, z_rv C0 hw (k := 20) rfl rfl rfl rfl, z_give C0 hw hS _⟩ rfl rfl hl.1 rfl (lv_room (Nat.le_of_ble_eq_true rfl)) dX11_force_64 ⟨Nat.zero_le _, Nat.zero_le _⟩
  exact z_reti C0 hw hS (Option.some.inj h) dX11_force_67
def M_X11_force_B84 (pk : Nat → Nat) (S : zSt) (y0 : Int32) (y1 : Int32) (y2 : Int32) (q103 : Nat) : Option (Int32 × zSt) :=
  zg (zOKb pk q103) (Option.bind (M_X11_leastForce pk S q103 y2 y1 y0) (fun w14 => some (w14, S)))
set_option maxHeartbeats 4000000 in
set_option maxRecDepth 100000 in
theorem t_X11_force_B84 {p : Program} {l : Launch} {e : Env} {s : State} {m : MethodId} {args : Array Value} {below : List Frame} {meth : Method} {c : Code} {D : va_G} {Y : Nat → ClassId} {F : Nat → Nat} {A : Nat → Prop} {G : zG} (C0 : zCx p s m args meth c D Y F A RX11 cX11_force 6 (some .int) wsX11_force) (res : Int32 × zSt) : ∀ (S : zSt) (y0 : Int32) (y1 : Int32) (y2 : Int32) (q103 : Nat), M_X11_force_B84 (zpk G) S y0 y1 y2 q103 = some res → ∀ (H : Heap) (locs : List Loc) (ls : Array Slot), zH D Y F A G S H → va_S A s.heap H locs → lv_has ls 6 [] → W p l e (zRm 6 142) s m args below meth c H locs 0 0 (MQ below (zQi D Y F A G res) args s 0 0 A) (F0 m 84 ls [.int y0, .int y1, .int y2, .ref (zad F G (100 + 4 * q103)), .ref (F 20)]) := by
  obtain ⟨hx, hb, hml, hr, hown, hts, hK, hA, hlk, hN⟩ := id C0
  intro S y0 y1 y2 q103 h H locs ls hw hS hl
  unfold M_X11_force_B84 at h
  obtain ⟨hq103, h⟩ := z_gd h
  obtain ⟨w14, ew14, h⟩ := z_bd h
  refine z_goi C0 hw hS (res := (w14, S)) (rest := []) (arr := (Value.ref (F 20) :: [.ref (zad F G (100 + 4 * q103)), .int y2, .int y1, .int y0]).toArray) ?_ (fun H locs hw hS => ?_)
  · exact va_runV (z_fix C0) (c_X11_leastForce l D Y F G S _ q103 hq103 y2 y1 y0 w14 ew14) (cwV 4 hts gX11_force_X11_leastForce rfl rfl rfl (by decide +kernel) ⟨Nat.le_of_ble_eq_true rfl, Nat.le_of_ble_eq_true rfl⟩) ⟨zPc_blind, z_rv C0 hw (k := 20) rfl rfl rfl rfl, z_give C0 hw hS _⟩ rfl rfl hl.1 rfl (lv_room (Nat.le_of_ble_eq_true rfl)) dX11_force_84 ⟨Nat.zero_le _, Nat.zero_le _⟩
  exact z_reti C0 hw hS (Option.some.inj h) dX11_force_87
def M_X11_force_B43 (pk : Nat → Nat) (S : zSt) (x2 : Int32) (x3 : Int32) (x4 : Int32) (o5 : Option Nat) : Option (Int32 × zSt) :=
  (zm o5 (none) (fun q5 => zg (zOKb pk q5) (Option.bind (M_X11_isDeed pk S x2) (fun w9 => (if w9 = 0 then M_X11_force_B59 pk S else Option.bind (M_X5_isLeft pk S q5 x3) (fun w11 => (if w11 = 0 then M_X11_force_B59 pk S else (if x4 = 1 then M_X11_force_B84 pk S 1 x3 x2 q5 else M_X11_force_B84 pk S 0 x3 x2 q5))))))))
set_option maxHeartbeats 4000000 in
set_option maxRecDepth 100000 in
theorem t_X11_force_B43 {p : Program} {l : Launch} {e : Env} {s : State} {m : MethodId} {args : Array Value} {below : List Frame} {meth : Method} {c : Code} {D : va_G} {Y : Nat → ClassId} {F : Nat → Nat} {A : Nat → Prop} {G : zG} (C0 : zCx p s m args meth c D Y F A RX11 cX11_force 6 (some .int) wsX11_force) (res : Int32 × zSt) : ∀ (S : zSt) (x2 : Int32) (x3 : Int32) (x4 : Int32) (o5 : Option Nat), M_X11_force_B43 (zpk G) S x2 x3 x4 o5 = some res → ∀ (H : Heap) (locs : List Loc) (ls : Array Slot), zH D Y F A G S H → va_S A s.heap H locs → lv_has ls 6 [(0, .ref (F 20)), (2, .int x2), (3, .int x3), (4, .int x4), (5, va_rf (Option.map (zpa F G) o5))] → W p l e (zRm 6 142) s m args below meth c H locs 0 0 (MQ below (zQi D Y F A G res) args s 0 0 A) (F0 m 43 ls []) := by
  obtain ⟨hx, hb, hml, hr, hown, hts, hK, hA, hlk, hN⟩ := id C0
  intro S x2 x3 x4 o5 h H locs ls hw hS hl
  unfold M_X11_force_B43 at h
  rcases o5 with _ | q5
  · replace h := zm_n h
    have hl : lv_has ls 6 [(0, .ref (F 20)), (2, .int x2), (3, .int x3), (4, .int x4), (5, .null)] := hl
    cases h
  · replace h := zm_s h
    obtain ⟨bq5, h⟩ := z_gd h
    have hq5 := bq5
    have hl : lv_has ls 6 [(0, .ref (F 20)), (2, .int x2), (3, .int x3), (4, .int x4), (5, .ref (zad F G (100 + 4 * q5)))] := hl
    refine lv_iload_n hx hb dX11_force_43 rfl (lv_at hl 1 rfl) ?_
    obtain ⟨w9, ew9, h⟩ := z_bd h
    refine z_goi C0 hw hS (res := (w9, S)) (rest := []) (arr := ([.int x2] : List Value).toArray) ?_ (fun H locs hw hS => ?_)
    · exact va_runS (z_fix C0) (c_X11_isDeed l D Y F G S _ x2 w9 ew9) (va_cwS 1 hts gX11_force_X11_isDeed rfl rfl rfl (by decide +kernel) ⟨Nat.le_of_ble_eq_true rfl, Nat.le_of_ble_eq_true rfl⟩) ⟨zPc_blind, z_give C0 hw hS _⟩ rfl rfl hl.1 rfl (lv_room (Nat.le_of_ble_eq_true rfl)) dX11_force_44 ⟨Nat.zero_le _, Nat.zero_le _⟩
    refine lv_if_eq (tgt := 59) hx hb dX11_force_47 (by decide) (fun c10 => ?_) (fun c10 => ?_)
    · replace h := z_ifp c10 h
      exact t_X11_force_B59 C0 res S h _ _ _ hw hS (lv_sub hl [0] rfl)
    · replace h := z_ifn c10 h
      refine lv_aload hx hb dX11_force_50 (lv_at hl 4 rfl) ?_
      refine lv_iload_n hx hb dX11_force_52 rfl (lv_at hl 2 rfl) ?_
      obtain ⟨w11, ew11, h⟩ := z_bd h
      refine z_goi C0 hw hS (res := (w11, S)) (rest := []) (arr := (Value.ref (zad F G (100 + 4 * q5)) :: [.int x3]).toArray) ?_ (fun H locs hw hS => ?_)
      · rcases zOK_cases hq5 with zz | zz | zz | zz | zz | zz | zz
        · exact va_runU (z_fix C0) (c_X5_isLeft l D Y F G S _ q5 hq5 x3 w11 ew11) (va_cwU 1 hts gX11_force_X5_isLeft_u181X0 rfl rfl rfl rfl (by decide +kernel) ⟨Nat.le_of_ble_eq_true rfl, Nat.le_of_ble_eq_true rfl⟩) ⟨zPc_blind, z_prec C0 hw hq5 (ci := 0) zz rfl, z_give C0 hw hS _⟩ rfl rfl hl.1 rfl (lv_room (Nat.le_of_ble_eq_true rfl)) dX11_force_53 ⟨Nat.zero_le _, Nat.zero_le _⟩
        · exact va_runU (z_fix C0) (c_X5_isLeft l D Y F G S _ q5 hq5 x3 w11 ew11) (va_cwU 1 hts gX11_force_X5_isLeft_u181X1 rfl rfl rfl rfl (by decide +kernel) ⟨Nat.le_of_ble_eq_true rfl, Nat.le_of_ble_eq_true rfl⟩) ⟨zPc_blind, z_prec C0 hw hq5 (ci := 1) zz rfl, z_give C0 hw hS _⟩ rfl rfl hl.1 rfl (lv_room (Nat.le_of_ble_eq_true rfl)) dX11_force_53 ⟨Nat.zero_le _, Nat.zero_le _⟩
        · exact va_runU (z_fix C0) (c_X5_isLeft l D Y F G S _ q5 hq5 x3 w11 ew11) (va_cwU 1 hts gX11_force_X5_isLeft_u181X2 rfl rfl rfl rfl (by decide +kernel) ⟨Nat.le_of_ble_eq_true rfl, Nat.le_of_ble_eq_true rfl⟩) ⟨zPc_blind, z_prec C0 hw hq5 (ci := 2) zz rfl, z_give C0 hw hS _⟩ rfl rfl hl.1 rfl (lv_room (Nat.le_of_ble_eq_true rfl)) dX11_force_53 ⟨Nat.zero_le _, Nat.zero_le _⟩
        · exact va_runU (z_fix C0) (c_X5_isLeft l D Y F G S _ q5 hq5 x3 w11 ew11) (va_cwU 1 hts gX11_force_X5_isLeft_u181X3 rfl rfl rfl rfl (by decide +kernel) ⟨Nat.le_of_ble_eq_true rfl, Nat.le_of_ble_eq_true rfl⟩) ⟨zPc_blind, z_prec C0 hw hq5 (ci := 3) zz rfl, z_give C0 hw hS _⟩ rfl rfl hl.1 rfl (lv_room (Nat.le_of_ble_eq_true rfl)) dX11_force_53 ⟨Nat.zero_le _, Nat.zero_le _⟩
        · exact va_runV (z_fix C0) (c_X5_isLeft l D Y F G S _ q5 hq5 x3 w11 ew11) (cwV 1 hts gX11_force_X5_isLeft rfl rfl rfl (by decide +kernel) ⟨Nat.le_of_ble_eq_true rfl, Nat.le_of_ble_eq_true rfl⟩) ⟨zPc_blind, z_prec C0 hw hq5 (ci := 5) zz rfl, z_give C0 hw hS _⟩ rfl rfl hl.1 rfl (lv_room (Nat.le_of_ble_eq_true rfl)) dX11_force_53 ⟨Nat.zero_le _, Nat.zero_le _⟩
        · exact va_runU (z_fix C0) (c_X5_isLeft l D Y F G S _ q5 hq5 x3 w11 ew11) (va_cwU 1 hts gX11_force_X5_isLeft_u181X8 rfl rfl rfl rfl (by decide +kernel) ⟨Nat.le_of_ble_eq_true rfl, Nat.le_of_ble_eq_true rfl⟩) ⟨zPc_blind, z_prec C0 hw hq5 (ci := 8) zz rfl, z_give C0 hw hS _⟩ rfl rfl hl.1 rfl (lv_room (Nat.le_of_ble_eq_true rfl)) dX11_force_53 ⟨Nat.zero_le _, Nat.zero_le _⟩
        · exact va_runU (z_fix C0) (c_X5_isLeft l D Y F G S _ q5 hq5 x3 w11 ew11) (va_cwU 1 hts gX11_force_X5_isLeft_u181X10 rfl rfl rfl rfl (by decide +kernel) ⟨Nat.le_of_ble_eq_true rfl, Nat.le_of_ble_eq_true rfl⟩) ⟨zPc_blind, z_prec C0 hw hq5 (ci := 10) zz rfl, z_give C0 hw hS _⟩ rfl rfl hl.1 rfl (lv_room (Nat.le_of_ble_eq_true rfl)) dX11_force_53 ⟨Nat.zero_le _, Nat.zero_le _⟩
      refine lv_if_ne (tgt := 68) hx hb dX11_force_56 (by decide) (fun c12 => ?_) (fun c12 => ?_)
      · replace h := z_ifn c12 h
        refine lv_aload_n hx hb dX11_force_68 rfl (lv_at hl 0 rfl) ?_
        refine lv_aload hx hb dX11_force_69 (lv_at hl 4 rfl) ?_
        refine lv_iload_n hx hb dX11_force_71 rfl (lv_at hl 1 rfl) ?_
        refine lv_iload_n hx hb dX11_force_72 rfl (lv_at hl 2 rfl) ?_
        refine lv_iload hx hb dX11_force_73 (lv_at hl 3 rfl) ?_
        refine lv_iconst (v := 1) hx hb dX11_force_75 (by decide) ?_
        refine lv_icmp_ne (tgt := 83) hx hb dX11_force_76 (by decide) (fun c13 => ?_) (fun c13 => ?_)
        · replace h := z_ifn c13 h
          refine lv_iconst (v := 0) hx hb dX11_force_83 (by decide) ?_
          exact t_X11_force_B84 C0 res S 0 x3 x2 q5 h _ _ _ hw hS (lv_sub hl [] rfl)
        · replace h := z_ifp c13 h
          refine lv_iconst (v := 1) hx hb dX11_force_79 (by decide) ?_
          refine lv_goto (tgt := 84) hx hb dX11_force_80 (by decide) ?_
          exact t_X11_force_B84 C0 res S 1 x3 x2 q5 h _ _ _ hw hS (lv_sub hl [] rfl)
      · replace h := z_ifp c12 h
        exact t_X11_force_B59 C0 res S h _ _ _ hw hS (lv_sub hl [0] rfl)
def M_X11_force (pk : Nat → Nat) (S : zSt) (x1 : Int32) (x2 : Int32) (x3 : Int32) (x4 : Int32) : Option (Int32 × zSt) :=
  Option.bind (M_X4_personAt pk S 0 x1) (fun w1 => (zm w1 (Option.bind (M_X11_refuseLess pk S (-1) 10) (fun w3 => some (w3.1, w3.2))) (fun q2 => zg (zOKb pk q2) ((if x4 = 0 then M_X11_force_B43 pk S x2 x3 x4 (some q2) else (if x4 = 1 then M_X11_force_B43 pk S x2 x3 x4 (some q2) else Option.bind (M_X11_refuseLess pk S (-5) 10) (fun w16 => some (w16.1, w16.2))))))))
set_option maxHeartbeats 4000000 in
set_option maxRecDepth 100000 in
theorem c_X11_force (l : Launch) (D : va_G) (Y : Nat → ClassId) (F : Nat → Nat) (G : zG) (S : zSt) (sz : Nat) (x1 : Int32) (x2 : Int32) (x3 : Int32) (x4 : Int32) (res : Int32 × zSt) (h : M_X11_force (zpk G) S x1 x2 x3 x4 = some res) : Met l yX11_force wsX11_force (zRm 6 142) (zPc D Y F G S sz [.ref (F 20), .int x1, .int x2, .int x3, .int x4]) (zQi D Y F (zAo F G sz) G res) 0 0 (zAo F G sz) := by
  unfold M_X11_force at h
  refine zMet (cc := cX11_force) (maxL := 6) (ret := (some .int)) (own := RX11) (by decide +kernel) rfl rfl (Nat.le_of_ble_eq_true rfl) ?_
  intro p e s m args below meth c C0 hin hw hS ls hl
  have hl : lv_has ls 6 [(0, .ref (F 20)), (1, .int x1), (2, .int x2), (3, .int x3), (4, .int x4)] := hl
  generalize zAo F G sz = A at C0 hw hS ⊢
  obtain ⟨hx, hb, hml, hr, hown, hts, hK, hA, hlk, hN⟩ := id C0
  refine lv_aload_n hx hb dX11_force_0 rfl (lv_at hl 0 rfl) ?_
  refine z_getU C0 in_X11_force_X11 (C := RX11) (T := TX11) (N := 14) hw (k := 20) (ci := 11) (v := .ref (F 60)) rfl rfl rfl rfl 3 (by decide) rfl 1 rfl (Or.inl rfl) dX11_force_1 ?_
  refine lv_iload_n hx hb dX11_force_4 rfl (lv_at hl 1 rfl) ?_
  obtain ⟨w1, ew1, h⟩ := z_bd h
  refine z_goq C0 hw hS (r0 := w1.map (zpa F G)) (rest := []) (arr := (Value.ref (F 60) :: [.int x1]).toArray) ?_ (fun H locs hw hS => ?_)
  · exact va_runV (z_fix C0) (c_X4_personAt l D Y F G S _ 0 (by decide) x1 w1 ew1) (cwV 1 hts gX11_force_X4_personAt rfl rfl rfl (by decide +kernel) ⟨Nat.le_of_ble_eq_true rfl, Nat.le_of_ble_eq_true rfl⟩) ⟨zPc_blind, z_rv C0 hw (k := 60) rfl rfl rfl rfl, z_give C0 hw hS _⟩ rfl rfl hl.1 rfl (lv_room (Nat.le_of_ble_eq_true rfl)) dX11_force_5 ⟨Nat.zero_le _, Nat.zero_le _⟩
  rcases w1 with _ | q2
  · replace h := zm_n h
    refine z_topv (y := .null) rfl ?_
    refine lv_astoreN (lv' := [(5, .null), (0, .ref (F 20)), (1, .int x1), (2, .int x2), (3, .int x3), (4, .int x4)]) hx hb dX11_force_8 hl (by decide) rfl (fun ls hl => ?_)
    refine lv_aloadN hx hb dX11_force_10 (lv_at hl 0 rfl) ?_
    refine lv_ifnonnullN hx hb dX11_force_12 ?_
    refine lv_aload_n hx hb dX11_force_15 rfl (lv_at hl 1 rfl) ?_
    refine lv_iconst (v := (-1)) hx hb dX11_force_16 (by decide) ?_
    refine lv_bipush (v := 10) hx hb dX11_force_17 (by decide) ?_
    obtain ⟨w3, ew3, h⟩ := z_bd h
    refine z_goi C0 hw hS (res := w3) (rest := []) (arr := (Value.ref (F 20) :: [.int (-1), .int 10]).toArray) ?_ (fun H locs hw hS => ?_)
    · exact va_runV (z_fix C0) (c_X11_refuseLess l D Y F G S _ (-1) 10 w3 ew3) (cwV 2 hts gX11_force_X11_refuseLess rfl rfl rfl (by decide +kernel) ⟨Nat.le_of_ble_eq_true rfl, Nat.le_of_ble_eq_true rfl⟩) ⟨zPc_blind, z_rv C0 hw (k := 20) rfl rfl rfl rfl, z_give C0 hw hS _⟩ rfl rfl hl.1 rfl (lv_room (Nat.le_of_ble_eq_true rfl)) dX11_force_19 ⟨Nat.zero_le _, Nat.zero_le _⟩
    exact z_reti C0 hw hS (Option.some.inj h) dX11_force_22
  · replace h := zm_s h
    obtain ⟨bq2, h⟩ := z_gd h
    have hq2 := bq2
    refine z_topv (y := .ref (zad F G (100 + 4 * q2))) rfl ?_
    refine lv_astore (lv' := [(5, .ref (zad F G (100 + 4 * q2))), (0, .ref (F 20)), (1, .int x1), (2, .int x2), (3, .int x3), (4, .int x4)]) hx hb dX11_force_8 hl (by decide) rfl (fun ls hl => ?_)
    refine lv_aload hx hb dX11_force_10 (lv_at hl 0 rfl) ?_
    refine lv_ifnonnull (tgt := 23) hx hb dX11_force_12 (by decide) ?_
    refine lv_iload hx hb dX11_force_23 (lv_at hl 5 rfl) ?_
    refine lv_if_eq (tgt := 43) hx hb dX11_force_25 (by decide) (fun c4 => ?_) (fun c4 => ?_)
    · replace h := z_ifp c4 h
      exact t_X11_force_B43 C0 res S x2 x3 x4 (some q2) h _ _ _ hw hS (lv_sub hl [1, 3, 4, 5, 0] rfl)
    · replace h := z_ifn c4 h
      refine lv_iload hx hb dX11_force_28 (lv_at hl 5 rfl) ?_
      refine lv_iconst (v := 1) hx hb dX11_force_30 (by decide) ?_
      refine lv_icmp_eq (tgt := 43) hx hb dX11_force_31 (by decide) (fun c15 => ?_) (fun c15 => ?_)
      · replace h := z_ifp c15 h
        exact t_X11_force_B43 C0 res S x2 x3 x4 (some q2) h _ _ _ hw hS (lv_sub hl [1, 3, 4, 5, 0] rfl)
      · replace h := z_ifn c15 h
        refine lv_aload_n hx hb dX11_force_34 rfl (lv_at hl 1 rfl) ?_
        refine lv_bipush (v := (-5)) hx hb dX11_force_35 (by decide) ?_
        refine lv_bipush (v := 10) hx hb dX11_force_37 (by decide) ?_
        obtain ⟨w16, ew16, h⟩ := z_bd h
        refine z_goi C0 hw hS (res := w16) (rest := []) (arr := (Value.ref (F 20) :: [.int (-5), .int 10]).toArray) ?_ (fun H locs hw hS => ?_)
        · exact va_runV (z_fix C0) (c_X11_refuseLess l D Y F G S _ (-5) 10 w16 ew16) (cwV 2 hts gX11_force_X11_refuseLess rfl rfl rfl (by decide +kernel) ⟨Nat.le_of_ble_eq_true rfl, Nat.le_of_ble_eq_true rfl⟩) ⟨zPc_blind, z_rv C0 hw (k := 20) rfl rfl rfl rfl, z_give C0 hw hS _⟩ rfl rfl hl.1 rfl (lv_room (Nat.le_of_ble_eq_true rfl)) dX11_force_39 ⟨Nat.zero_le _, Nat.zero_le _⟩
        exact z_reti C0 hw hS (Option.some.inj h) dX11_force_42
