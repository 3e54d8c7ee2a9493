set_option maxRecDepth 20000 in
theorem inp_X5_init_X0 : ∀ w ∈ u_ws RX0 TX5 9, w ∈ wsX5_init := by decide +kernel
set_option maxRecDepth 20000 in
theorem inp_X5_init_X1 : ∀ w ∈ u_ws RX1 TX5 9, w ∈ wsX5_init := by decide +kernel
set_option maxRecDepth 20000 in
theorem inp_X5_init_X2 : ∀ w ∈ u_ws RX2 TX5 9, w ∈ wsX5_init := by decide +kernel
set_option maxRecDepth 20000 in
theorem inp_X5_init_X3 : ∀ w ∈ u_ws RX3 TX5 9, w ∈ wsX5_init := by decide +kernel
set_option maxRecDepth 20000 in
theorem inp_X5_init_X5 : ∀ w ∈ u_ws RX5 TX5 9, w ∈ wsX5_init := by decide +kernel
set_option maxRecDepth 20000 in
theorem inp_X5_init_X8 : ∀ w ∈ u_ws RX8 TX5 9, w ∈ wsX5_init := by decide +kernel
set_option maxRecDepth 20000 in
theorem inp_X5_init_X10 : ∀ w ∈ u_ws RX10 TX5 9, w ∈ wsX5_init := by decide +kernel
set_option maxHeartbeats 4000000 in
set_option maxRecDepth 100000 in
theorem c_X5_init (l : Launch) (D : va_G) (Y : Nat → ClassId) (E : State → Prop) (hEo : xOk E) (W0 : va_W) (sz : Nat) (ci : Nat) (a : Nat) (x1 : Int32) (x2 : Int32) (p3 : Nat) (C : String) (hC : vwCl[ci]? = some (C, TX5, 9)) (hin5 : C = RX0 ∨ C = RX1 ∨ C = RX2 ∨ C = RX3 ∨ C = RX5 ∨ C = RX8 ∨ C = RX10) : Met l yX5_init wsX5_init { frames := 1, cells := 3, slots := 60, locals := 12 } (xPc D Y E (W0 ++ [(a, .inr (ci, [.int 0, .int 0, .null, .null, .null, .null, .int 0, .int 0, .int 0]))]) sz [.ref a, .int x1, .int x2, .ref p3]) (xQv D Y (va_A (W0 ++ [(a, .inr (ci, [.int 0, .int 0, .null, .null, .null, .null, .int 0, .int 0, .int 0]))]) sz) (fun u => W0 ++ [(a, .inr (ci, [.int x1, .int x2, .ref p3, .ref (u 0), .ref (u 1), .ref (u 2), .int 0, .int 1, .int 0])), ((u 0), .inl (Y 0, 48, .inl (fun _ => 0))), ((u 1), .inl (Y 0, 6, .inl (fun _ => 0))), ((u 2), .inl (Y 0, 6, .inl (fun _ => 0)))])) 3 60 (va_A (W0 ++ [(a, .inr (ci, [.int 0, .int 0, .null, .null, .null, .null, .int 0, .int 0, .int 0]))]) sz) := by
  have hin5 : ∀ w ∈ u_ws C TX5 9, w ∈ wsX5_init := by
    rcases hin5 with rfl | rfl | rfl | rfl | rfl | rfl | rfl
    · exact inp_X5_init_X0
    · exact inp_X5_init_X1
    · exact inp_X5_init_X2
    · exact inp_X5_init_X3
    · exact inp_X5_init_X5
    · exact inp_X5_init_X8
    · exact inp_X5_init_X10
  refine xMet (cc := cX5_init) (maxL := 4) (ret := none) (own := RX5) (by decide +kernel) rfl rfl (Nat.le_of_ble_eq_true rfl) ?_
  intro p e s m args below meth c C0 hin hP hD hS ls hl
  have hini := hin rfl
  have hl : lv_has ls 4 [(0, .ref a), (1, .int x1), (2, .int x2), (3, .ref p3)] := hl
  generalize va_A (W0 ++ [(a, .inr (ci, [.int 0, .int 0, .null, .null, .null, .null, .int 0, .int 0, .int 0]))]) sz = A at C0 hP hD hS ⊢
  obtain ⟨hx, hb, hml, hr, hown, hts, hK, hA, hlk, hE⟩ := id C0
  refine lv_aload_n hx hb dX5_init_0 rfl (lv_at hl 0 rfl) ?_
  refine x_objInit C0 1 2 3 rfl rfl rfl hl.1 dX5_init_1 (Nat.le_of_ble_eq_true rfl) (Nat.le_of_ble_eq_true rfl) ?_
  refine lv_aload_n hx hb dX5_init_4 rfl (lv_at hl 0 rfl) ?_
  refine lv_bipush (v := 48) hx hb dX5_init_5 (by decide) ?_
  refine x_newai C0 hP hD hS 4 rfl 48 (by decide) (by decide) (Nat.le_of_ble_eq_true rfl) (Nat.le_of_ble_eq_true rfl) (Nat.le_of_ble_eq_true rfl) dX5_init_7 (fun g7 H hP hD hS => ?_)
  have hP : va_P D vwCl (W0 ++ [(a, .inr (ci, [.int 0, .int 0, .null, .null, .null, .null, .int 0, .int 0, .int 0])), (g7, .inl (Y 0, 48, .inl (fun _ => 0)))]) H := hP
  have hD : va_D A (W0 ++ [(a, .inr (ci, [.int 0, .int 0, .null, .null, .null, .null, .int 0, .int 0, .int 0])), (g7, .inl (Y 0, 48, .inl (fun _ => 0)))]) := hD
  refine x_put C0 hini hP hD hS hin5 tyX5 tyX5_ok nmX5 0 rfl hC 3 (by decide) 5 rfl rfl (v := .ref g7) (tv := (.array .int)) (by decide +kernel) rfl rfl (Nat.le_of_ble_eq_true rfl) (X' := [(a, .inr (ci, [.int 0, .int 0, .null, .ref g7, .null, .null, .int 0, .int 0, .int 0])), (g7, .inl (Y 0, 48, .inl (fun _ => 0)))]) rfl dX5_init_9 (fun H locs hP hD hS => ?_)
  refine lv_aload_n hx hb dX5_init_12 rfl (lv_at hl 0 rfl) ?_
  refine lv_bipush (v := 6) hx hb dX5_init_13 (by decide) ?_
  refine x_newai C0 hP hD hS 4 rfl 6 (by decide) (by decide) (Nat.le_of_ble_eq_true rfl) (Nat.le_of_ble_eq_true rfl) (Nat.le_of_ble_eq_true rfl) dX5_init_15 (fun g15 H hP hD hS => ?_)
  have hP : va_P D vwCl (W0 ++ [(a, .inr (ci, [.int 0, .int 0, .null, .ref g7, .null, .null, .int 0, .int 0, .int 0])), (g7, .inl (Y 0, 48, .inl (fun _ => 0))), (g15, .inl (Y 0, 6, .inl (fun _ => 0)))]) H := hP
  have hD : va_D A (W0 ++ [(a, .inr (ci, [.int 0, .int 0, .null, .ref g7, .null, .null, .int 0, .int 0, .int 0])), (g7, .inl (Y 0, 48, .inl (fun _ => 0))), (g15, .inl (Y 0, 6, .inl (fun _ => 0)))]) := hD
  refine x_put C0 hini hP hD hS hin5 tyX5 tyX5_ok nmX5 0 rfl hC 4 (by decide) 6 rfl rfl (v := .ref g15) (tv := (.array .int)) (by decide +kernel) rfl rfl (Nat.le_of_ble_eq_true rfl) (X' := [(a, .inr (ci, [.int 0, .int 0, .null, .ref g7, .ref g15, .null, .int 0, .int 0, .int 0])), (g7, .inl (Y 0, 48, .inl (fun _ => 0))), (g15, .inl (Y 0, 6, .inl (fun _ => 0)))]) rfl dX5_init_17 (fun H locs hP hD hS => ?_)
  refine lv_aload_n hx hb dX5_init_20 rfl (lv_at hl 0 rfl) ?_
  refine lv_bipush (v := 6) hx hb dX5_init_21 (by decide) ?_
  refine x_newai C0 hP hD hS 4 rfl 6 (by decide) (by decide) (Nat.le_of_ble_eq_true rfl) (Nat.le_of_ble_eq_true rfl) (Nat.le_of_ble_eq_true rfl) dX5_init_23 (fun g23 H hP hD hS => ?_)
  have hP : va_P D vwCl (W0 ++ [(a, .inr (ci, [.int 0, .int 0, .null, .ref g7, .ref g15, .null, .int 0, .int 0, .int 0])), (g7, .inl (Y 0, 48, .inl (fun _ => 0))), (g15, .inl (Y 0, 6, .inl (fun _ => 0))), (g23, .inl (Y 0, 6, .inl (fun _ => 0)))]) H := hP
  have hD : va_D A (W0 ++ [(a, .inr (ci, [.int 0, .int 0, .null, .ref g7, .ref g15, .null, .int 0, .int 0, .int 0])), (g7, .inl (Y 0, 48, .inl (fun _ => 0))), (g15, .inl (Y 0, 6, .inl (fun _ => 0))), (g23, .inl (Y 0, 6, .inl (fun _ => 0)))]) := hD
  refine x_put C0 hini hP hD hS hin5 tyX5 tyX5_ok nmX5 0 rfl hC 5 (by decide) 7 rfl rfl (v := .ref g23) (tv := (.array .int)) (by decide +kernel) rfl rfl (Nat.le_of_ble_eq_true rfl) (X' := [(a, .inr (ci, [.int 0, .int 0, .null, .ref g7, .ref g15, .ref g23, .int 0, .int 0, .int 0])), (g7, .inl (Y 0, 48, .inl (fun _ => 0))), (g15, .inl (Y 0, 6, .inl (fun _ => 0))), (g23, .inl (Y 0, 6, .inl (fun _ => 0)))]) rfl dX5_init_25 (fun H locs hP hD hS => ?_)
  refine lv_aload_n hx hb dX5_init_28 rfl (lv_at hl 0 rfl) ?_
  refine lv_iconst (v := 0) hx hb dX5_init_29 (by decide) ?_
  refine x_put C0 hini hP hD hS hin5 tyX5 tyX5_ok nmX5 0 rfl hC 6 (by decide) 8 rfl rfl (v := .int 0) (tv := .int) (by decide +kernel) rfl rfl (Nat.le_of_ble_eq_true rfl) (X' := [(a, .inr (ci, [.int 0, .int 0, .null, .ref g7, .ref g15, .ref g23, .int 0, .int 0, .int 0])), (g7, .inl (Y 0, 48, .inl (fun _ => 0))), (g15, .inl (Y 0, 6, .inl (fun _ => 0))), (g23, .inl (Y 0, 6, .inl (fun _ => 0)))]) rfl dX5_init_30 (fun H locs hP hD hS => ?_)
  refine lv_aload_n hx hb dX5_init_33 rfl (lv_at hl 0 rfl) ?_
  refine lv_iconst (v := 1) hx hb dX5_init_34 (by decide) ?_
  refine x_put C0 hini hP hD hS hin5 tyX5 tyX5_ok nmX5 0 rfl hC 7 (by decide) 9 rfl rfl (v := .int 1) (tv := .int) (by decide +kernel) rfl rfl (Nat.le_of_ble_eq_true rfl) (X' := [(a, .inr (ci, [.int 0, .int 0, .null, .ref g7, .ref g15, .ref g23, .int 0, .int 1, .int 0])), (g7, .inl (Y 0, 48, .inl (fun _ => 0))), (g15, .inl (Y 0, 6, .inl (fun _ => 0))), (g23, .inl (Y 0, 6, .inl (fun _ => 0)))]) rfl dX5_init_35 (fun H locs hP hD hS => ?_)
  refine lv_aload_n hx hb dX5_init_38 rfl (lv_at hl 0 rfl) ?_
  refine lv_iconst (v := 0) hx hb dX5_init_39 (by decide) ?_
  refine x_put C0 hini hP hD hS hin5 tyX5 tyX5_ok nmX5 0 rfl hC 8 (by decide) 10 rfl rfl (v := .int 0) (tv := .int) (by decide +kernel) rfl rfl (Nat.le_of_ble_eq_true rfl) (X' := [(a, .inr (ci, [.int 0, .int 0, .null, .ref g7, .ref g15, .ref g23, .int 0, .int 1, .int 0])), (g7, .inl (Y 0, 48, .inl (fun _ => 0))), (g15, .inl (Y 0, 6, .inl (fun _ => 0))), (g23, .inl (Y 0, 6, .inl (fun _ => 0)))]) rfl dX5_init_40 (fun H locs hP hD hS => ?_)
  refine lv_aload_n hx hb dX5_init_43 rfl (lv_at hl 0 rfl) ?_
  refine lv_iload_n hx hb dX5_init_44 rfl (lv_at hl 1 rfl) ?_
  refine x_put C0 hini hP hD hS hin5 tyX5 tyX5_ok nmX5 0 rfl hC 0 (by decide) 11 rfl rfl (v := .int x1) (tv := .int) (by decide +kernel) rfl rfl (Nat.le_of_ble_eq_true rfl) (X' := [(a, .inr (ci, [.int x1, .int 0, .null, .ref g7, .ref g15, .ref g23, .int 0, .int 1, .int 0])), (g7, .inl (Y 0, 48, .inl (fun _ => 0))), (g15, .inl (Y 0, 6, .inl (fun _ => 0))), (g23, .inl (Y 0, 6, .inl (fun _ => 0)))]) rfl dX5_init_45 (fun H locs hP hD hS => ?_)
  refine lv_aload_n hx hb dX5_init_48 rfl (lv_at hl 0 rfl) ?_
  refine lv_iload_n hx hb dX5_init_49 rfl (lv_at hl 2 rfl) ?_
  refine x_put C0 hini hP hD hS hin5 tyX5 tyX5_ok nmX5 0 rfl hC 1 (by decide) 12 rfl rfl (v := .int x2) (tv := .int) (by decide +kernel) rfl rfl (Nat.le_of_ble_eq_true rfl) (X' := [(a, .inr (ci, [.int x1, .int x2, .null, .ref g7, .ref g15, .ref g23, .int 0, .int 1, .int 0])), (g7, .inl (Y 0, 48, .inl (fun _ => 0))), (g15, .inl (Y 0, 6, .inl (fun _ => 0))), (g23, .inl (Y 0, 6, .inl (fun _ => 0)))]) rfl dX5_init_50 (fun H locs hP hD hS => ?_)
  refine lv_aload_n hx hb dX5_init_53 rfl (lv_at hl 0 rfl) ?_
  refine lv_aload_n hx hb dX5_init_54 rfl (lv_at hl 3 rfl) ?_
  refine x_put C0 hini hP hD hS hin5 tyX5 tyX5_ok nmX5 0 rfl hC 2 (by decide) 13 rfl rfl (v := .ref p3) (tv := (.object "CarbonCopies$Trace")) (by decide +kernel) rfl rfl (Nat.le_of_ble_eq_true rfl) (X' := [(a, .inr (ci, [.int x1, .int x2, .ref p3, .ref g7, .ref g15, .ref g23, .int 0, .int 1, .int 0])), (g7, .inl (Y 0, 48, .inl (fun _ => 0))), (g15, .inl (Y 0, 6, .inl (fun _ => 0))), (g23, .inl (Y 0, 6, .inl (fun _ => 0)))]) rfl dX5_init_55 (fun H locs hP hD hS => ?_)
  exact x_retv C0 (fun i => match i with | 0 => g7 | 1 => g15 | _ => g23) (XX := W0 ++ [(a, .inr (ci, [.int x1, .int x2, .ref p3, .ref g7, .ref g15, .ref g23, .int 0, .int 1, .int 0])), (g7, .inl (Y 0, 48, .inl (fun _ => 0))), (g15, .inl (Y 0, 6, .inl (fun _ => 0))), (g23, .inl (Y 0, 6, .inl (fun _ => 0)))]) rfl hP hD hS dX5_init_58
set_option maxHeartbeats 4000000 in
set_option maxRecDepth 100000 in
theorem c_X8_init (l : Launch) (D : va_G) (Y : Nat → ClassId) (E : State → Prop) (hEo : xOk E) (W0 : va_W) (sz : Nat) (ci : Nat) (a : Nat) (x1 : Int32) (x2 : Int32) (p3 : Nat) (C : String) (hC : vwCl[ci]? = some (C, TX5, 9)) (hin5 : C = RX0 ∨ C = RX1 ∨ C = RX2 ∨ C = RX3 ∨ C = RX5 ∨ C = RX8 ∨ C = RX10) : Met l yX8_init wsX8_init { frames := 2, cells := 3, slots := 60, locals := 35 } (xPc D Y E (W0 ++ [(a, .inr (ci, [.int 0, .int 0, .null, .null, .null, .null, .int 0, .int 0, .int 0]))]) sz [.ref a, .int x1, .int x2, .ref p3]) (xQv D Y (va_A (W0 ++ [(a, .inr (ci, [.int 0, .int 0, .null, .null, .null, .null, .int 0, .int 0, .int 0]))]) sz) (fun u => W0 ++ [(a, .inr (ci, [.int x1, .int x2, .ref p3, .ref (u 0), .ref (u 1), .ref (u 2), .int 0, .int 1, .int 0])), ((u 0), .inl (Y 0, 48, .inl (fun _ => 0))), ((u 1), .inl (Y 0, 6, .inl (fun _ => 0))), ((u 2), .inl (Y 0, 6, .inl (fun _ => 0)))])) 3 60 (va_A (W0 ++ [(a, .inr (ci, [.int 0, .int 0, .null, .null, .null, .null, .int 0, .int 0, .int 0]))]) sz) := by
  refine xMet (cc := cX8_init) (maxL := 4) (ret := none) (own := RX8) (by decide +kernel) rfl rfl (Nat.le_of_ble_eq_true rfl) ?_
  intro p e s m args below meth c C0 hin hP hD hS ls hl
  have hini := hin rfl
  have hl : lv_has ls 4 [(0, .ref a), (1, .int x1), (2, .int x2), (3, .ref p3)] := hl
  generalize va_A (W0 ++ [(a, .inr (ci, [.int 0, .int 0, .null, .null, .null, .null, .int 0, .int 0, .int 0]))]) sz = A at C0 hP hD hS ⊢
  obtain ⟨hx, hb, hml, hr, hown, hts, hK, hA, hlk, hE⟩ := id C0
  refine lv_aload_n hx hb dX8_init_0 rfl (lv_at hl 0 rfl) ?_
  refine lv_iload_n hx hb dX8_init_1 rfl (lv_at hl 1 rfl) ?_
  refine lv_iload_n hx hb dX8_init_2 rfl (lv_at hl 2 rfl) ?_
  refine lv_aload_n hx hb dX8_init_3 rfl (lv_at hl 3 rfl) ?_
  refine x_callI C0 hP hD hS hEo (fun h => h) (As := [.int x1, .int x2, .ref p3]) (rest := []) (c_X5_init l D Y E hEo W0 _ ci a x1 x2 p3 C hC (hin5)) (cwI 3 hts gX8_init_X5_init rfl rfl rfl (hts _ (List.mem_of_getElem? (i := 3) rfl)) (hts _ (List.mem_of_getElem? (i := 1) rfl)) (hts _ (List.mem_of_getElem? (i := 2) rfl)) rfl (by decide +kernel) ⟨Nat.le_of_ble_eq_true rfl, Nat.le_of_ble_eq_true rfl⟩) rfl hl.1 rfl (Nat.le_of_ble_eq_true rfl) dX8_init_4 ⟨Nat.le_of_ble_eq_true rfl, Nat.le_of_ble_eq_true rfl⟩ (fun u H locs hP hD hS => ?_)
  exact x_retv C0 u rfl hP hD hS dX8_init_7
set_option maxHeartbeats 4000000 in
set_option maxRecDepth 100000 in
theorem c_X2_init (l : Launch) (D : va_G) (Y : Nat → ClassId) (E : State → Prop) (hEo : xOk E) (W0 : va_W) (sz : Nat) (ci : Nat) (a : Nat) (x1 : Int32) (x2 : Int32) (p3 : Nat) (C : String) (hC : vwCl[ci]? = some (C, TX5, 9)) (hin5 : C = RX0 ∨ C = RX1 ∨ C = RX2 ∨ C = RX3 ∨ C = RX5 ∨ C = RX8 ∨ C = RX10) : Met l yX2_init wsX2_init { frames := 2, cells := 3, slots := 60, locals := 35 } (xPc D Y E (W0 ++ [(a, .inr (ci, [.int 0, .int 0, .null, .null, .null, .null, .int 0, .int 0, .int 0]))]) sz [.ref a, .int x1, .int x2, .ref p3]) (xQv D Y (va_A (W0 ++ [(a, .inr (ci, [.int 0, .int 0, .null, .null, .null, .null, .int 0, .int 0, .int 0]))]) sz) (fun u => W0 ++ [(a, .inr (ci, [.int x1, .int x2, .ref p3, .ref (u 0), .ref (u 1), .ref (u 2), .int 0, .int 1, .int 0])), ((u 0), .inl (Y 0, 48, .inl (fun _ => 0))), ((u 1), .inl (Y 0, 6, .inl (fun _ => 0))), ((u 2), .inl (Y 0, 6, .inl (fun _ => 0)))])) 3 60 (va_A (W0 ++ [(a, .inr (ci, [.int 0, .int 0, .null, .null, .null, .null, .int 0, .int 0, .int 0]))]) sz) := by
  refine xMet (cc := cX2_init) (maxL := 4) (ret := none) (own := RX2) (by decide +kernel) rfl rfl (Nat.le_of_ble_eq_true rfl) ?_
  intro p e s m args below meth c C0 hin hP hD hS ls hl
  have hini := hin rfl
  have hl : lv_has ls 4 [(0, .ref a), (1, .int x1), (2, .int x2), (3, .ref p3)] := hl
  generalize va_A (W0 ++ [(a, .inr (ci, [.int 0, .int 0, .null, .null, .null, .null, .int 0, .int 0, .int 0]))]) sz = A at C0 hP hD hS ⊢
  obtain ⟨hx, hb, hml, hr, hown, hts, hK, hA, hlk, hE⟩ := id C0
  refine lv_aload_n hx hb dX2_init_0 rfl (lv_at hl 0 rfl) ?_
  refine lv_iload_n hx hb dX2_init_1 rfl (lv_at hl 1 rfl) ?_
  refine lv_iload_n hx hb dX2_init_2 rfl (lv_at hl 2 rfl) ?_
  refine lv_aload_n hx hb dX2_init_3 rfl (lv_at hl 3 rfl) ?_
  refine x_callI C0 hP hD hS hEo (fun h => h) (As := [.int x1, .int x2, .ref p3]) (rest := []) (c_X5_init l D Y E hEo W0 _ ci a x1 x2 p3 C hC (hin5)) (cwI 3 hts gX2_init_X5_init rfl rfl rfl (hts _ (List.mem_of_getElem? (i := 3) rfl)) (hts _ (List.mem_of_getElem? (i := 1) rfl)) (hts _ (List.mem_of_getElem? (i := 2) rfl)) rfl (by decide +kernel) ⟨Nat.le_of_ble_eq_true rfl, Nat.le_of_ble_eq_true rfl⟩) rfl hl.1 rfl (Nat.le_of_ble_eq_true rfl) dX2_init_4 ⟨Nat.le_of_ble_eq_true rfl, Nat.le_of_ble_eq_true rfl⟩ (fun u H locs hP hD hS => ?_)
  exact x_retv C0 u rfl hP hD hS dX2_init_7
set_option maxHeartbeats 4000000 in
set_option maxRecDepth 100000 in
theorem c_X3_init (l : Launch) (D : va_G) (Y : Nat → ClassId) (E : State → Prop) (hEo : xOk E) (W0 : va_W) (sz : Nat) (ci : Nat) (a : Nat) (x1 : Int32) (x2 : Int32) (p3 : Nat) (C : String) (hC : vwCl[ci]? = some (C, TX5, 9)) (hin5 : C = RX0 ∨ C = RX1 ∨ C = RX2 ∨ C = RX3 ∨ C = RX5 ∨ C = RX8 ∨ C = RX10) : Met l yX3_init wsX3_init { frames := 2, cells := 3, slots := 60, locals := 35 } (xPc D Y E (W0 ++ [(a, .inr (ci, [.int 0, .int 0, .null, .null, .null, .null, .int 0, .int 0, .int 0]))]) sz [.ref a, .int x1, .int x2, .ref p3]) (xQv D Y (va_A (W0 ++ [(a, .inr (ci, [.int 0, .int 0, .null, .null, .null, .null, .int 0, .int 0, .int 0]))]) sz) (fun u => W0 ++ [(a, .inr (ci, [.int x1, .int x2, .ref p3, .ref (u 0), .ref (u 1), .ref (u 2), .int 0, .int 1, .int 0])), ((u 0), .inl (Y 0, 48, .inl (fun _ => 0))), ((u 1), .inl (Y 0, 6, .inl (fun _ => 0))), ((u 2), .inl (Y 0, 6, .inl (fun _ => 0)))])) 3 60 (va_A (W0 ++ [(a, .inr (ci, [.int 0, .int 0, .null, .null, .null, .null, .int 0, .int 0, .int 0]))]) sz) := by
  refine xMet (cc := cX3_init) (maxL := 4) (ret := none) (own := RX3) (by decide +kernel) rfl rfl (Nat.le_of_ble_eq_true rfl) ?_
  intro p e s m args below meth c C0 hin hP hD hS ls hl
  have hini := hin rfl
  have hl : lv_has ls 4 [(0, .ref a), (1, .int x1), (2, .int x2), (3, .ref p3)] := hl
  generalize va_A (W0 ++ [(a, .inr (ci, [.int 0, .int 0, .null, .null, .null, .null, .int 0, .int 0, .int 0]))]) sz = A at C0 hP hD hS ⊢
  obtain ⟨hx, hb, hml, hr, hown, hts, hK, hA, hlk, hE⟩ := id C0
  refine lv_aload_n hx hb dX3_init_0 rfl (lv_at hl 0 rfl) ?_
  refine lv_iload_n hx hb dX3_init_1 rfl (lv_at hl 1 rfl) ?_
  refine lv_iload_n hx hb dX3_init_2 rfl (lv_at hl 2 rfl) ?_
  refine lv_aload_n hx hb dX3_init_3 rfl (lv_at hl 3 rfl) ?_
  refine x_callI C0 hP hD hS hEo (fun h => h) (As := [.int x1, .int x2, .ref p3]) (rest := []) (c_X5_init l D Y E hEo W0 _ ci a x1 x2 p3 C hC (hin5)) (cwI 3 hts gX3_init_X5_init rfl rfl rfl (hts _ (List.mem_of_getElem? (i := 3) rfl)) (hts _ (List.mem_of_getElem? (i := 1) rfl)) (hts _ (List.mem_of_getElem? (i := 2) rfl)) rfl (by decide +kernel) ⟨Nat.le_of_ble_eq_true rfl, Nat.le_of_ble_eq_true rfl⟩) rfl hl.1 rfl (Nat.le_of_ble_eq_true rfl) dX3_init_4 ⟨Nat.le_of_ble_eq_true rfl, Nat.le_of_ble_eq_true rfl⟩ (fun u H locs hP hD hS => ?_)
  exact x_retv C0 u rfl hP hD hS dX3_init_7
set_option maxHeartbeats 4000000 in
set_option maxRecDepth 100000 in
theorem c_X10_init (l : Launch) (D : va_G) (Y : Nat → ClassId) (E : State → Prop) (hEo : xOk E) (W0 : va_W) (sz : Nat) (ci : Nat) (a : Nat) (x1 : Int32) (x2 : Int32) (p3 : Nat) (C : String) (hC : vwCl[ci]? = some (C, TX5, 9)) (hin5 : C = RX0 ∨ C = RX1 ∨ C = RX2 ∨ C = RX3 ∨ C = RX5 ∨ C = RX8 ∨ C = RX10) : Met l yX10_init wsX10_init { frames := 3, cells := 3, slots := 60, locals := 58 } (xPc D Y E (W0 ++ [(a, .inr (ci, [.int 0, .int 0, .null, .null, .null, .null, .int 0, .int 0, .int 0]))]) sz [.ref a, .int x1, .int x2, .ref p3]) (xQv D Y (va_A (W0 ++ [(a, .inr (ci, [.int 0, .int 0, .null, .null, .null, .null, .int 0, .int 0, .int 0]))]) sz) (fun u => W0 ++ [(a, .inr (ci, [.int x1, .int x2, .ref p3, .ref (u 0), .ref (u 1), .ref (u 2), .int 0, .int 1, .int 0])), ((u 0), .inl (Y 0, 48, .inl (fun _ => 0))), ((u 1), .inl (Y 0, 6, .inl (fun _ => 0))), ((u 2), .inl (Y 0, 6, .inl (fun _ => 0)))])) 3 60 (va_A (W0 ++ [(a, .inr (ci, [.int 0, .int 0, .null, .null, .null, .null, .int 0, .int 0, .int 0]))]) sz) := by
  refine xMet (cc := cX10_init) (maxL := 4) (ret := none) (own := RX10) (by decide +kernel) rfl rfl (Nat.le_of_ble_eq_true rfl) ?_
  intro p e s m args below meth c C0 hin hP hD hS ls hl
  have hini := hin rfl
  have hl : lv_has ls 4 [(0, .ref a), (1, .int x1), (2, .int x2), (3, .ref p3)] := hl
  generalize va_A (W0 ++ [(a, .inr (ci, [.int 0, .int 0, .null, .null, .null, .null, .int 0, .int 0, .int 0]))]) sz = A at C0 hP hD hS ⊢
  obtain ⟨hx, hb, hml, hr, hown, hts, hK, hA, hlk, hE⟩ := id C0
  refine lv_aload_n hx hb dX10_init_0 rfl (lv_at hl 0 rfl) ?_
  refine lv_iload_n hx hb dX10_init_1 rfl (lv_at hl 1 rfl) ?_
  refine lv_iload_n hx hb dX10_init_2 rfl (lv_at hl 2 rfl) ?_
  refine lv_aload_n hx hb dX10_init_3 rfl (lv_at hl 3 rfl) ?_
  refine x_callI C0 hP hD hS hEo (fun h => h) (As := [.int x1, .int x2, .ref p3]) (rest := []) (c_X2_init l D Y E hEo W0 _ ci a x1 x2 p3 C hC (hin5)) (cwI 3 hts gX10_init_X2_init rfl rfl rfl (hts _ (List.mem_of_getElem? (i := 3) rfl)) (hts _ (List.mem_of_getElem? (i := 1) rfl)) (hts _ (List.mem_of_getElem? (i := 2) rfl)) rfl (by decide +kernel) ⟨Nat.le_of_ble_eq_true rfl, Nat.le_of_ble_eq_true rfl⟩) rfl hl.1 rfl (Nat.le_of_ble_eq_true rfl) dX10_init_4 ⟨Nat.le_of_ble_eq_true rfl, Nat.le_of_ble_eq_true rfl⟩ (fun u H locs hP hD hS => ?_)
  exact x_retv C0 u rfl hP hD hS dX10_init_7
set_option maxHeartbeats 4000000 in
set_option maxRecDepth 100000 in
theorem c_X0_init (l : Launch) (D : va_G) (Y : Nat → ClassId) (E : State → Prop) (hEo : xOk E) (W0 : va_W) (sz : Nat) (ci : Nat) (a : Nat) (x1 : Int32) (x2 : Int32) (p3 : Nat) (C : String) (hC : vwCl[ci]? = some (C, TX5, 9)) (hin5 : C = RX0 ∨ C = RX1 ∨ C = RX2 ∨ C = RX3 ∨ C = RX5 ∨ C = RX8 ∨ C = RX10) : Met l yX0_init wsX0_init { frames := 3, cells := 3, slots := 60, locals := 58 } (xPc D Y E (W0 ++ [(a, .inr (ci, [.int 0, .int 0, .null, .null, .null, .null, .int 0, .int 0, .int 0]))]) sz [.ref a, .int x1, .int x2, .ref p3]) (xQv D Y (va_A (W0 ++ [(a, .inr (ci, [.int 0, .int 0, .null, .null, .null, .null, .int 0, .int 0, .int 0]))]) sz) (fun u => W0 ++ [(a, .inr (ci, [.int x1, .int x2, .ref p3, .ref (u 0), .ref (u 1), .ref (u 2), .int 0, .int 1, .int 0])), ((u 0), .inl (Y 0, 48, .inl (fun _ => 0))), ((u 1), .inl (Y 0, 6, .inl (fun _ => 0))), ((u 2), .inl (Y 0, 6, .inl (fun _ => 0)))])) 3 60 (va_A (W0 ++ [(a, .inr (ci, [.int 0, .int 0, .null, .null, .null, .null, .int 0, .int 0, .int 0]))]) sz) := by
  refine xMet (cc := cX0_init) (maxL := 4) (ret := none) (own := RX0) (by decide +kernel) rfl rfl (Nat.le_of_ble_eq_true rfl) ?_
  intro p e s m args below meth c C0 hin hP hD hS ls hl
  have hini := hin rfl
  have hl : lv_has ls 4 [(0, .ref a), (1, .int x1), (2, .int x2), (3, .ref p3)] := hl
  generalize va_A (W0 ++ [(a, .inr (ci, [.int 0, .int 0, .null, .null, .null, .null, .int 0, .int 0, .int 0]))]) sz = A at C0 hP hD hS ⊢
  obtain ⟨hx, hb, hml, hr, hown, hts, hK, hA, hlk, hE⟩ := id C0
  refine lv_aload_n hx hb dX0_init_0 rfl (lv_at hl 0 rfl) ?_
  refine lv_iload_n hx hb dX0_init_1 rfl (lv_at hl 1 rfl) ?_
  refine lv_iload_n hx hb dX0_init_2 rfl (lv_at hl 2 rfl) ?_
  refine lv_aload_n hx hb dX0_init_3 rfl (lv_at hl 3 rfl) ?_
  refine x_callI C0 hP hD hS hEo (fun h => h) (As := [.int x1, .int x2, .ref p3]) (rest := []) (c_X3_init l D Y E hEo W0 _ ci a x1 x2 p3 C hC (hin5)) (cwI 3 hts gX0_init_X3_init rfl rfl rfl (hts _ (List.mem_of_getElem? (i := 3) rfl)) (hts _ (List.mem_of_getElem? (i := 1) rfl)) (hts _ (List.mem_of_getElem? (i := 2) rfl)) rfl (by decide +kernel) ⟨Nat.le_of_ble_eq_true rfl, Nat.le_of_ble_eq_true rfl⟩) rfl hl.1 rfl (Nat.le_of_ble_eq_true rfl) dX0_init_4 ⟨Nat.le_of_ble_eq_true rfl, Nat.le_of_ble_eq_true rfl⟩ (fun u H locs hP hD hS => ?_)
  exact x_retv C0 u rfl hP hD hS dX0_init_7
set_option maxHeartbeats 4000000 in
set_option maxRecDepth 100000 in
theorem c_X1_init (l : Launch) (D : va_G) (Y : Nat → ClassId) (E : State → Prop) (hEo : xOk E) (W0 : va_W) (sz : Nat) (ci : Nat) (a : Nat) (x1 : Int32) (x2 : Int32) (p3 : Nat) (C : String) (hC : vwCl[ci]? = some (C, TX5, 9)) (hin5 : C = RX0 ∨ C = RX1 ∨ C = RX2 ∨ C = RX3 ∨ C = RX5 ∨ C = RX8 ∨ C = RX10) : Met l yX1_init wsX1_init { frames := 3, cells := 3, slots := 60, locals := 58 } (xPc D Y E (W0 ++ [(a, .inr (ci, [.int 0, .int 0, .null, .null, .null, .null, .int 0, .int 0, .int 0]))]) sz [.ref a, .int x1, .int x2, .ref p3]) (xQv D Y (va_A (W0 ++ [(a, .inr (ci, [.int 0, .int 0, .null, .null, .null, .null, .int 0, .int 0, .int 0]))]) sz) (fun u => W0 ++ [(a, .inr (ci, [.int x1, .int x2, .ref p3, .ref (u 0), .ref (u 1), .ref (u 2), .int 0, .int 1, .int 0])), ((u 0), .inl (Y 0, 48, .inl (fun _ => 0))), ((u 1), .inl (Y 0, 6, .inl (fun _ => 0))), ((u 2), .inl (Y 0, 6, .inl (fun _ => 0)))])) 3 60 (va_A (W0 ++ [(a, .inr (ci, [.int 0, .int 0, .null, .null, .null, .null, .int 0, .int 0, .int 0]))]) sz) := by
  refine xMet (cc := cX1_init) (maxL := 4) (ret := none) (own := RX1) (by decide +kernel) rfl rfl (Nat.le_of_ble_eq_true rfl) ?_
  intro p e s m args below meth c C0 hin hP hD hS ls hl
  have hini := hin rfl
  have hl : lv_has ls 4 [(0, .ref a), (1, .int x1), (2, .int x2), (3, .ref p3)] := hl
  generalize va_A (W0 ++ [(a, .inr (ci, [.int 0, .int 0, .null, .null, .null, .null, .int 0, .int 0, .int 0]))]) sz = A at C0 hP hD hS ⊢
  obtain ⟨hx, hb, hml, hr, hown, hts, hK, hA, hlk, hE⟩ := id C0
  refine lv_aload_n hx hb dX1_init_0 rfl (lv_at hl 0 rfl) ?_
  refine lv_iload_n hx hb dX1_init_1 rfl (lv_at hl 1 rfl) ?_
  refine lv_iload_n hx hb dX1_init_2 rfl (lv_at hl 2 rfl) ?_
  refine lv_aload_n hx hb dX1_init_3 rfl (lv_at hl 3 rfl) ?_
  refine x_callI C0 hP hD hS hEo (fun h => h) (As := [.int x1, .int x2, .ref p3]) (rest := []) (c_X8_init l D Y E hEo W0 _ ci a x1 x2 p3 C hC (hin5)) (cwI 3 hts gX1_init_X8_init rfl rfl rfl (hts _ (List.mem_of_getElem? (i := 3) rfl)) (hts _ (List.mem_of_getElem? (i := 1) rfl)) (hts _ (List.mem_of_getElem? (i := 2) rfl)) rfl (by decide +kernel) ⟨Nat.le_of_ble_eq_true rfl, Nat.le_of_ble_eq_true rfl⟩) rfl hl.1 rfl (Nat.le_of_ble_eq_true rfl) dX1_init_4 ⟨Nat.le_of_ble_eq_true rfl, Nat.le_of_ble_eq_true rfl⟩ (fun u H locs hP hD hS => ?_)
  exact x_retv C0 u rfl hP hD hS dX1_init_7
set_option maxRecDepth 20000 in
theorem in_X7_init_X7 : ∀ w ∈ u_ws RX7 TX7 3, w ∈ wsX7_init := by decide +kernel
set_option maxHeartbeats 4000000 in
set_option maxRecDepth 100000 in
theorem c_X7_init (l : Launch) (D : va_G) (Y : Nat → ClassId) (E : State → Prop) (hEo : xOk E) (W0 : va_W) (sz : Nat) (a : Nat) : Met l yX7_init wsX7_init { frames := 1, cells := 1, slots := 160, locals := 12 } (xPc D Y E (W0 ++ [(a, .inr (7, [.null, .int 0, .int 0]))]) sz [.ref a]) (xQv D Y (va_A (W0 ++ [(a, .inr (7, [.null, .int 0, .int 0]))]) sz) (fun u => W0 ++ [(a, .inr (7, [.ref (u 0), .int (-1), .int 0])), ((u 0), .inl (Y 1, 160, .inr (.inl (fun _ => 0))))])) 1 160 (va_A (W0 ++ [(a, .inr (7, [.null, .int 0, .int 0]))]) sz) := by
  refine xMet (cc := cX7_init) (maxL := 1) (ret := none) (own := RX7) (by decide +kernel) rfl rfl (Nat.le_of_ble_eq_true rfl) ?_
  intro p e s m args below meth c C0 hin hP hD hS ls hl
  have hini := hin rfl
  have hl : lv_has ls 1 [(0, .ref a)] := hl
  generalize va_A (W0 ++ [(a, .inr (7, [.null, .int 0, .int 0]))]) sz = A at C0 hP hD hS ⊢
  obtain ⟨hx, hb, hml, hr, hown, hts, hK, hA, hlk, hE⟩ := id C0
  refine lv_aload_n hx hb dX7_init_0 rfl (lv_at hl 0 rfl) ?_
  refine x_objInit C0 1 2 3 rfl rfl rfl hl.1 dX7_init_1 (Nat.le_of_ble_eq_true rfl) (Nat.le_of_ble_eq_true rfl) ?_
  refine lv_aload_n hx hb dX7_init_4 rfl (lv_at hl 0 rfl) ?_
  refine lv_sipush (v := 160) hx hb dX7_init_5 (by decide) ?_
  refine x_newal C0 hP hD hS 4 rfl 160 (by decide) (by decide) (Nat.le_of_ble_eq_true rfl) (Nat.le_of_ble_eq_true rfl) (Nat.le_of_ble_eq_true rfl) dX7_init_8 (fun g8 H hP hD hS => ?_)
  have hP : va_P D vwCl (W0 ++ [(a, .inr (7, [.null, .int 0, .int 0])), (g8, .inl (Y 1, 160, .inr (.inl (fun _ => 0))))]) H := hP
  have hD : va_D A (W0 ++ [(a, .inr (7, [.null, .int 0, .int 0])), (g8, .inl (Y 1, 160, .inr (.inl (fun _ => 0))))]) := hD
  refine x_put C0 hini hP hD hS in_X7_init_X7 tyX7 tyX7_ok nmX7 0 rfl rfl 0 (by decide) 5 rfl rfl (v := .ref g8) (tv := (.array .long)) (by decide +kernel) rfl rfl (Nat.le_of_ble_eq_true rfl) (X' := [(a, .inr (7, [.ref g8, .int 0, .int 0])), (g8, .inl (Y 1, 160, .inr (.inl (fun _ => 0))))]) rfl dX7_init_10 (fun H locs hP hD hS => ?_)
  refine lv_aload_n hx hb dX7_init_13 rfl (lv_at hl 0 rfl) ?_
  refine lv_iconst (v := (-1)) hx hb dX7_init_14 (by decide) ?_
  refine x_put C0 hini hP hD hS in_X7_init_X7 tyX7 tyX7_ok nmX7 0 rfl rfl 1 (by decide) 6 rfl rfl (v := .int (-1)) (tv := .int) (by decide +kernel) rfl rfl (Nat.le_of_ble_eq_true rfl) (X' := [(a, .inr (7, [.ref g8, .int (-1), .int 0])), (g8, .inl (Y 1, 160, .inr (.inl (fun _ => 0))))]) rfl dX7_init_15 (fun H locs hP hD hS => ?_)
  refine lv_aload_n hx hb dX7_init_18 rfl (lv_at hl 0 rfl) ?_
  refine lv_iconst (v := 0) hx hb dX7_init_19 (by decide) ?_
  refine x_put C0 hini hP hD hS in_X7_init_X7 tyX7 tyX7_ok nmX7 0 rfl rfl 2 (by decide) 7 rfl rfl (v := .int 0) (tv := .int) (by decide +kernel) rfl rfl (Nat.le_of_ble_eq_true rfl) (X' := [(a, .inr (7, [.ref g8, .int (-1), .int 0])), (g8, .inl (Y 1, 160, .inr (.inl (fun _ => 0))))]) rfl dX7_init_20 (fun H locs hP hD hS => ?_)
  exact x_retv C0 (fun i => match i with | _ => g8) (XX := W0 ++ [(a, .inr (7, [.ref g8, .int (-1), .int 0])), (g8, .inl (Y 1, 160, .inr (.inl (fun _ => 0))))]) rfl hP hD hS dX7_init_23
set_option maxRecDepth 20000 in
theorem in_X9_init_X9 : ∀ w ∈ u_ws RX9 TX9 2, w ∈ wsX9_init := by decide +kernel
set_option maxHeartbeats 4000000 in
set_option maxRecDepth 100000 in
theorem c_X9_init (l : Launch) (D : va_G) (Y : Nat → ClassId) (E : State → Prop) (hEo : xOk E) (W0 : va_W) (sz : Nat) (a : Nat) : Met l yX9_init wsX9_init { frames := 1, cells := 1, slots := 20, locals := 12 } (xPc D Y E (W0 ++ [(a, .inr (9, [.null, .int 0]))]) sz [.ref a]) (xQv D Y (va_A (W0 ++ [(a, .inr (9, [.null, .int 0]))]) sz) (fun u => W0 ++ [(a, .inr (9, [.ref (u 0), .int 0])), ((u 0), .inl (Y 0, 20, .inl (fun _ => 0)))])) 1 20 (va_A (W0 ++ [(a, .inr (9, [.null, .int 0]))]) sz) := by
  refine xMet (cc := cX9_init) (maxL := 1) (ret := none) (own := RX9) (by decide +kernel) rfl rfl (Nat.le_of_ble_eq_true rfl) ?_
  intro p e s m args below meth c C0 hin hP hD hS ls hl
  have hini := hin rfl
  have hl : lv_has ls 1 [(0, .ref a)] := hl
  generalize va_A (W0 ++ [(a, .inr (9, [.null, .int 0]))]) sz = A at C0 hP hD hS ⊢
  obtain ⟨hx, hb, hml, hr, hown, hts, hK, hA, hlk, hE⟩ := id C0
  refine lv_aload_n hx hb dX9_init_0 rfl (lv_at hl 0 rfl) ?_
  refine x_objInit C0 1 2 3 rfl rfl rfl hl.1 dX9_init_1 (Nat.le_of_ble_eq_true rfl) (Nat.le_of_ble_eq_true rfl) ?_
  refine lv_aload_n hx hb dX9_init_4 rfl (lv_at hl 0 rfl) ?_
  refine lv_bipush (v := 20) hx hb dX9_init_5 (by decide) ?_
  refine x_newai C0 hP hD hS 4 rfl 20 (by decide) (by decide) (Nat.le_of_ble_eq_true rfl) (Nat.le_of_ble_eq_true rfl) (Nat.le_of_ble_eq_true rfl) dX9_init_7 (fun g7 H hP hD hS => ?_)
  have hP : va_P D vwCl (W0 ++ [(a, .inr (9, [.null, .int 0])), (g7, .inl (Y 0, 20, .inl (fun _ => 0)))]) H := hP
  have hD : va_D A (W0 ++ [(a, .inr (9, [.null, .int 0])), (g7, .inl (Y 0, 20, .inl (fun _ => 0)))]) := hD
  refine x_put C0 hini hP hD hS in_X9_init_X9 tyX9 tyX9_ok nmX9 0 rfl rfl 0 (by decide) 5 rfl rfl (v := .ref g7) (tv := (.array .int)) (by decide +kernel) rfl rfl (Nat.le_of_ble_eq_true rfl) (X' := [(a, .inr (9, [.ref g7, .int 0])), (g7, .inl (Y 0, 20, .inl (fun _ => 0)))]) rfl dX9_init_9 (fun H locs hP hD hS => ?_)
  refine lv_aload_n hx hb dX9_init_12 rfl (lv_at hl 0 rfl) ?_
  refine lv_iconst (v := 0) hx hb dX9_init_13 (by decide) ?_
  refine x_put C0 hini hP hD hS in_X9_init_X9 tyX9 tyX9_ok nmX9 0 rfl rfl 1 (by decide) 6 rfl rfl (v := .int 0) (tv := .int) (by decide +kernel) rfl rfl (Nat.le_of_ble_eq_true rfl) (X' := [(a, .inr (9, [.ref g7, .int 0])), (g7, .inl (Y 0, 20, .inl (fun _ => 0)))]) rfl dX9_init_14 (fun H locs hP hD hS => ?_)
  exact x_retv C0 (fun i => match i with | _ => g7) (XX := W0 ++ [(a, .inr (9, [.ref g7, .int 0])), (g7, .inl (Y 0, 20, .inl (fun _ => 0)))]) rfl hP hD hS dX9_init_17
set_option maxRecDepth 20000 in
theorem in_X6_init_X6 : ∀ w ∈ u_ws RX6 TX6 10, w ∈ wsX6_init := by decide +kernel
set_option maxHeartbeats 4000000 in
set_option maxRecDepth 100000 in
theorem c_X6_init (l : Launch) (D : va_G) (Y : Nat → ClassId) (E : State → Prop) (hEo : xOk E) (W0 : va_W) (sz : Nat) (a : Nat) (p1 : Nat) : Met l yX6_init wsX6_init { frames := 1, cells := 1, slots := 160, locals := 12 } (xPc D Y E (W0 ++ [(a, .inr (6, [.null, .null, .int 0, .int 0, .int 0, .int 0, .int 0, .int 0, .int 0, .int 0]))]) sz [.ref a, .ref p1]) (xQv D Y (va_A (W0 ++ [(a, .inr (6, [.null, .null, .int 0, .int 0, .int 0, .int 0, .int 0, .int 0, .int 0, .int 0]))]) sz) (fun u => W0 ++ [(a, .inr (6, [.ref p1, .ref (u 0), .int 0, .int 0, .int (-1), .int 0, .int (-1), .int 0, .int 0, .int 0])), ((u 0), .inl (Y 0, 160, .inl (fun _ => 0)))])) 1 160 (va_A (W0 ++ [(a, .inr (6, [.null, .null, .int 0, .int 0, .int 0, .int 0, .int 0, .int 0, .int 0, .int 0]))]) sz) := by
  refine xMet (cc := cX6_init) (maxL := 2) (ret := none) (own := RX6) (by decide +kernel) rfl rfl (Nat.le_of_ble_eq_true rfl) ?_
  intro p e s m args below meth c C0 hin hP hD hS ls hl
  have hini := hin rfl
  have hl : lv_has ls 2 [(0, .ref a), (1, .ref p1)] := hl
  generalize va_A (W0 ++ [(a, .inr (6, [.null, .null, .int 0, .int 0, .int 0, .int 0, .int 0, .int 0, .int 0, .int 0]))]) sz = A at C0 hP hD hS ⊢
  obtain ⟨hx, hb, hml, hr, hown, hts, hK, hA, hlk, hE⟩ := id C0
  refine lv_aload_n hx hb dX6_init_0 rfl (lv_at hl 0 rfl) ?_
  refine x_objInit C0 1 2 3 rfl rfl rfl hl.1 dX6_init_1 (Nat.le_of_ble_eq_true rfl) (Nat.le_of_ble_eq_true rfl) ?_
  refine lv_aload_n hx hb dX6_init_4 rfl (lv_at hl 0 rfl) ?_
  refine lv_sipush (v := 160) hx hb dX6_init_5 (by decide) ?_
  refine x_newai C0 hP hD hS 4 rfl 160 (by decide) (by decide) (Nat.le_of_ble_eq_true rfl) (Nat.le_of_ble_eq_true rfl) (Nat.le_of_ble_eq_true rfl) dX6_init_8 (fun g8 H hP hD hS => ?_)
  have hP : va_P D vwCl (W0 ++ [(a, .inr (6, [.null, .null, .int 0, .int 0, .int 0, .int 0, .int 0, .int 0, .int 0, .int 0])), (g8, .inl (Y 0, 160, .inl (fun _ => 0)))]) H := hP
  have hD : va_D A (W0 ++ [(a, .inr (6, [.null, .null, .int 0, .int 0, .int 0, .int 0, .int 0, .int 0, .int 0, .int 0])), (g8, .inl (Y 0, 160, .inl (fun _ => 0)))]) := hD
  refine x_put C0 hini hP hD hS in_X6_init_X6 tyX6 tyX6_ok nmX6 0 rfl rfl 1 (by decide) 5 rfl rfl (v := .ref g8) (tv := (.array .int)) (by decide +kernel) rfl rfl (Nat.le_of_ble_eq_true rfl) (X' := [(a, .inr (6, [.null, .ref g8, .int 0, .int 0, .int 0, .int 0, .int 0, .int 0, .int 0, .int 0])), (g8, .inl (Y 0, 160, .inl (fun _ => 0)))]) rfl dX6_init_10 (fun H locs hP hD hS => ?_)
  refine lv_aload_n hx hb dX6_init_13 rfl (lv_at hl 0 rfl) ?_
  refine lv_iconst (v := 0) hx hb dX6_init_14 (by decide) ?_
  refine x_put C0 hini hP hD hS in_X6_init_X6 tyX6 tyX6_ok nmX6 0 rfl rfl 2 (by decide) 6 rfl rfl (v := .int 0) (tv := .int) (by decide +kernel) rfl rfl (Nat.le_of_ble_eq_true rfl) (X' := [(a, .inr (6, [.null, .ref g8, .int 0, .int 0, .int 0, .int 0, .int 0, .int 0, .int 0, .int 0])), (g8, .inl (Y 0, 160, .inl (fun _ => 0)))]) rfl dX6_init_15 (fun H locs hP hD hS => ?_)
  refine lv_aload_n hx hb dX6_init_18 rfl (lv_at hl 0 rfl) ?_
  refine lv_iconst (v := 0) hx hb dX6_init_19 (by decide) ?_
  refine x_put C0 hini hP hD hS in_X6_init_X6 tyX6 tyX6_ok nmX6 0 rfl rfl 3 (by decide) 7 rfl rfl (v := .int 0) (tv := .int) (by decide +kernel) rfl rfl (Nat.le_of_ble_eq_true rfl) (X' := [(a, .inr (6, [.null, .ref g8, .int 0, .int 0, .int 0, .int 0, .int 0, .int 0, .int 0, .int 0])), (g8, .inl (Y 0, 160, .inl (fun _ => 0)))]) rfl dX6_init_20 (fun H locs hP hD hS => ?_)
  refine lv_aload_n hx hb dX6_init_23 rfl (lv_at hl 0 rfl) ?_
  refine lv_iconst (v := (-1)) hx hb dX6_init_24 (by decide) ?_
  refine x_put C0 hini hP hD hS in_X6_init_X6 tyX6 tyX6_ok nmX6 0 rfl rfl 4 (by decide) 8 rfl rfl (v := .int (-1)) (tv := .int) (by decide +kernel) rfl rfl (Nat.le_of_ble_eq_true rfl) (X' := [(a, .inr (6, [.null, .ref g8, .int 0, .int 0, .int (-1), .int 0, .int 0, .int 0, .int 0, .int 0])), (g8, .inl (Y 0, 160, .inl (fun _ => 0)))]) rfl dX6_init_25 (fun H locs hP hD hS => ?_)
  refine lv_aload_n hx hb dX6_init_28 rfl (lv_at hl 0 rfl) ?_
  refine lv_iconst (v := 0) hx hb dX6_init_29 (by decide) ?_
  refine x_put C0 hini hP hD hS in_X6_init_X6 tyX6 tyX6_ok nmX6 0 rfl rfl 5 (by decide) 9 rfl rfl (v := .int 0) (tv := .int) (by decide +kernel) rfl rfl (Nat.le_of_ble_eq_true rfl) (X' := [(a, .inr (6, [.null, .ref g8, .int 0, .int 0, .int (-1), .int 0, .int 0, .int 0, .int 0, .int 0])), (g8, .inl (Y 0, 160, .inl (fun _ => 0)))]) rfl dX6_init_30 (fun H locs hP hD hS => ?_)
  refine lv_aload_n hx hb dX6_init_33 rfl (lv_at hl 0 rfl) ?_
  refine lv_iconst (v := (-1)) hx hb dX6_init_34 (by decide) ?_
  refine x_put C0 hini hP hD hS in_X6_init_X6 tyX6 tyX6_ok nmX6 0 rfl rfl 6 (by decide) 10 rfl rfl (v := .int (-1)) (tv := .int) (by decide +kernel) rfl rfl (Nat.le_of_ble_eq_true rfl) (X' := [(a, .inr (6, [.null, .ref g8, .int 0, .int 0, .int (-1), .int 0, .int (-1), .int 0, .int 0, .int 0])), (g8, .inl (Y 0, 160, .inl (fun _ => 0)))]) rfl dX6_init_35 (fun H locs hP hD hS => ?_)
  refine lv_aload_n hx hb dX6_init_38 rfl (lv_at hl 0 rfl) ?_
  refine lv_iconst (v := 0) hx hb dX6_init_39 (by decide) ?_
  refine x_put C0 hini hP hD hS in_X6_init_X6 tyX6 tyX6_ok nmX6 0 rfl rfl 7 (by decide) 11 rfl rfl (v := .int 0) (tv := .int) (by decide +kernel) rfl rfl (Nat.le_of_ble_eq_true rfl) (X' := [(a, .inr (6, [.null, .ref g8, .int 0, .int 0, .int (-1), .int 0, .int (-1), .int 0, .int 0, .int 0])), (g8, .inl (Y 0, 160, .inl (fun _ => 0)))]) rfl dX6_init_40 (fun H locs hP hD hS => ?_)
  refine lv_aload_n hx hb dX6_init_43 rfl (lv_at hl 0 rfl) ?_
  refine lv_iconst (v := 0) hx hb dX6_init_44 (by decide) ?_
  refine x_put C0 hini hP hD hS in_X6_init_X6 tyX6 tyX6_ok nmX6 0 rfl rfl 8 (by decide) 12 rfl rfl (v := .int 0) (tv := .int) (by decide +kernel) rfl rfl (Nat.le_of_ble_eq_true rfl) (X' := [(a, .inr (6, [.null, .ref g8, .int 0, .int 0, .int (-1), .int 0, .int (-1), .int 0, .int 0, .int 0])), (g8, .inl (Y 0, 160, .inl (fun _ => 0)))]) rfl dX6_init_45 (fun H locs hP hD hS => ?_)
  refine lv_aload_n hx hb dX6_init_48 rfl (lv_at hl 0 rfl) ?_
  refine lv_iconst (v := 0) hx hb dX6_init_49 (by decide) ?_
  refine x_put C0 hini hP hD hS in_X6_init_X6 tyX6 tyX6_ok nmX6 0 rfl rfl 9 (by decide) 13 rfl rfl (v := .int 0) (tv := .int) (by decide +kernel) rfl rfl (Nat.le_of_ble_eq_true rfl) (X' := [(a, .inr (6, [.null, .ref g8, .int 0, .int 0, .int (-1), .int 0, .int (-1), .int 0, .int 0, .int 0])), (g8, .inl (Y 0, 160, .inl (fun _ => 0)))]) rfl dX6_init_50 (fun H locs hP hD hS => ?_)
  refine lv_aload_n hx hb dX6_init_53 rfl (lv_at hl 0 rfl) ?_
  refine lv_aload_n hx hb dX6_init_54 rfl (lv_at hl 1 rfl) ?_
  refine x_put C0 hini hP hD hS in_X6_init_X6 tyX6 tyX6_ok nmX6 0 rfl rfl 0 (by decide) 14 rfl rfl (v := .ref p1) (tv := (.object "CarbonCopies$Land")) (by decide +kernel) rfl rfl (Nat.le_of_ble_eq_true rfl) (X' := [(a, .inr (6, [.ref p1, .ref g8, .int 0, .int 0, .int (-1), .int 0, .int (-1), .int 0, .int 0, .int 0])), (g8, .inl (Y 0, 160, .inl (fun _ => 0)))]) rfl dX6_init_55 (fun H locs hP hD hS => ?_)
  exact x_retv C0 (fun i => match i with | _ => g8) (XX := W0 ++ [(a, .inr (6, [.ref p1, .ref g8, .int 0, .int 0, .int (-1), .int 0, .int (-1), .int 0, .int 0, .int 0])), (g8, .inl (Y 0, 160, .inl (fun _ => 0)))]) rfl hP hD hS dX6_init_58
set_option maxRecDepth 20000 in
theorem in_X4_init_X4 : ∀ w ∈ u_ws RX4 TX4 6, w ∈ wsX4_init := by decide +kernel
set_option maxHeartbeats 4000000 in
set_option maxRecDepth 100000 in
theorem c_X4_init (l : Launch) (D : va_G) (Y : Nat → ClassId) (W0 : va_W) (sz : Nat) (a : Nat) (p1 : Nat) : Met l yX4_init wsX4_init { frames := 1, cells := 2, slots := 12, locals := 12 } (xPc D Y xE (W0 ++ [(a, .inr (4, [.null, .null, .null, .int 0, .int 0, .int 0]))]) sz [.ref a, .ref p1]) (xQv D Y (va_A (W0 ++ [(a, .inr (4, [.null, .null, .null, .int 0, .int 0, .int 0]))]) sz) (fun u => W0 ++ [(a, .inr (4, [.ref (u 0), .ref (u 1), .ref p1, .int 0, .int 10, .int 1])), ((u 0), .inl (Y 2, 6, .inr (.inr (.inr (.inr (fun _ => none)))))), ((u 1), .inl (Y 0, 6, .inl (fun _ => 0)))])) 2 12 (va_A (W0 ++ [(a, .inr (4, [.null, .null, .null, .int 0, .int 0, .int 0]))]) sz) := by
  refine xMet (cc := cX4_init) (maxL := 2) (ret := none) (own := RX4) (by decide +kernel) rfl rfl (Nat.le_of_ble_eq_true rfl) ?_
  intro p e s m args below meth c C0 hin hP hD hS ls hl
  have hini := hin rfl
  have hl : lv_has ls 2 [(0, .ref a), (1, .ref p1)] := hl
  generalize va_A (W0 ++ [(a, .inr (4, [.null, .null, .null, .int 0, .int 0, .int 0]))]) sz = A at C0 hP hD hS ⊢
  obtain ⟨hx, hb, hml, hr, hown, hts, hK, hA, hlk, hE⟩ := id C0
  refine lv_aload_n hx hb dX4_init_0 rfl (lv_at hl 0 rfl) ?_
  refine x_objInit C0 1 2 3 rfl rfl rfl hl.1 dX4_init_1 (Nat.le_of_ble_eq_true rfl) (Nat.le_of_ble_eq_true rfl) ?_
  refine lv_aload_n hx hb dX4_init_4 rfl (lv_at hl 0 rfl) ?_
  refine lv_bipush (v := 6) hx hb dX4_init_5 (by decide) ?_
  refine x_newq C0 hP hD hS 2 0 rfl (hts _ (List.mem_of_getElem? (i := 4) rfl)) hE.1 6 (by decide) (by decide) (Nat.le_of_ble_eq_true rfl) (Nat.le_of_ble_eq_true rfl) (Nat.le_of_ble_eq_true rfl) dX4_init_7 (fun g7 H hP hD hS => ?_)
  have hP : va_P D vwCl (W0 ++ [(a, .inr (4, [.null, .null, .null, .int 0, .int 0, .int 0])), (g7, .inl (Y 2, 6, .inr (.inr (.inr (.inr (fun _ => none))))))]) H := hP
  have hD : va_D A (W0 ++ [(a, .inr (4, [.null, .null, .null, .int 0, .int 0, .int 0])), (g7, .inl (Y 2, 6, .inr (.inr (.inr (.inr (fun _ => none))))))]) := hD
  refine x_put C0 hini hP hD hS in_X4_init_X4 tyX4 tyX4_ok nmX4 0 rfl rfl 0 (by decide) 5 rfl rfl (v := .ref g7) (tv := (.array (.object "CarbonCopies$Person"))) (by decide +kernel) rfl rfl (Nat.le_of_ble_eq_true rfl) (X' := [(a, .inr (4, [.ref g7, .null, .null, .int 0, .int 0, .int 0])), (g7, .inl (Y 2, 6, .inr (.inr (.inr (.inr (fun _ => none))))))]) rfl dX4_init_10 (fun H locs hP hD hS => ?_)
  refine lv_aload_n hx hb dX4_init_13 rfl (lv_at hl 0 rfl) ?_
  refine lv_bipush (v := 6) hx hb dX4_init_14 (by decide) ?_
  refine x_newai C0 hP hD hS 6 rfl 6 (by decide) (by decide) (Nat.le_of_ble_eq_true rfl) (Nat.le_of_ble_eq_true rfl) (Nat.le_of_ble_eq_true rfl) dX4_init_16 (fun g16 H hP hD hS => ?_)
  have hP : va_P D vwCl (W0 ++ [(a, .inr (4, [.ref g7, .null, .null, .int 0, .int 0, .int 0])), (g7, .inl (Y 2, 6, .inr (.inr (.inr (.inr (fun _ => none)))))), (g16, .inl (Y 0, 6, .inl (fun _ => 0)))]) H := hP
  have hD : va_D A (W0 ++ [(a, .inr (4, [.ref g7, .null, .null, .int 0, .int 0, .int 0])), (g7, .inl (Y 2, 6, .inr (.inr (.inr (.inr (fun _ => none)))))), (g16, .inl (Y 0, 6, .inl (fun _ => 0)))]) := hD
  refine x_put C0 hini hP hD hS in_X4_init_X4 tyX4 tyX4_ok nmX4 0 rfl rfl 1 (by decide) 7 rfl rfl (v := .ref g16) (tv := (.array .int)) (by decide +kernel) rfl rfl (Nat.le_of_ble_eq_true rfl) (X' := [(a, .inr (4, [.ref g7, .ref g16, .null, .int 0, .int 0, .int 0])), (g7, .inl (Y 2, 6, .inr (.inr (.inr (.inr (fun _ => none)))))), (g16, .inl (Y 0, 6, .inl (fun _ => 0)))]) rfl dX4_init_18 (fun H locs hP hD hS => ?_)
  refine lv_aload_n hx hb dX4_init_21 rfl (lv_at hl 0 rfl) ?_
  refine lv_iconst (v := 0) hx hb dX4_init_22 (by decide) ?_
  refine x_put C0 hini hP hD hS in_X4_init_X4 tyX4 tyX4_ok nmX4 0 rfl rfl 3 (by decide) 8 rfl rfl (v := .int 0) (tv := .int) (by decide +kernel) rfl rfl (Nat.le_of_ble_eq_true rfl) (X' := [(a, .inr (4, [.ref g7, .ref g16, .null, .int 0, .int 0, .int 0])), (g7, .inl (Y 2, 6, .inr (.inr (.inr (.inr (fun _ => none)))))), (g16, .inl (Y 0, 6, .inl (fun _ => 0)))]) rfl dX4_init_23 (fun H locs hP hD hS => ?_)
  refine lv_aload_n hx hb dX4_init_26 rfl (lv_at hl 0 rfl) ?_
  refine lv_bipush (v := 10) hx hb dX4_init_27 (by decide) ?_
  refine x_put C0 hini hP hD hS in_X4_init_X4 tyX4 tyX4_ok nmX4 0 rfl rfl 4 (by decide) 9 rfl rfl (v := .int 10) (tv := .int) (by decide +kernel) rfl rfl (Nat.le_of_ble_eq_true rfl) (X' := [(a, .inr (4, [.ref g7, .ref g16, .null, .int 0, .int 10, .int 0])), (g7, .inl (Y 2, 6, .inr (.inr (.inr (.inr (fun _ => none)))))), (g16, .inl (Y 0, 6, .inl (fun _ => 0)))]) rfl dX4_init_29 (fun H locs hP hD hS => ?_)
  refine lv_aload_n hx hb dX4_init_32 rfl (lv_at hl 0 rfl) ?_
  refine lv_iconst (v := 1) hx hb dX4_init_33 (by decide) ?_
  refine x_put C0 hini hP hD hS in_X4_init_X4 tyX4 tyX4_ok nmX4 0 rfl rfl 5 (by decide) 10 rfl rfl (v := .int 1) (tv := .int) (by decide +kernel) rfl rfl (Nat.le_of_ble_eq_true rfl) (X' := [(a, .inr (4, [.ref g7, .ref g16, .null, .int 0, .int 10, .int 1])), (g7, .inl (Y 2, 6, .inr (.inr (.inr (.inr (fun _ => none)))))), (g16, .inl (Y 0, 6, .inl (fun _ => 0)))]) rfl dX4_init_34 (fun H locs hP hD hS => ?_)
  refine lv_aload_n hx hb dX4_init_37 rfl (lv_at hl 0 rfl) ?_
  refine lv_aload_n hx hb dX4_init_38 rfl (lv_at hl 1 rfl) ?_
  refine x_put C0 hini hP hD hS in_X4_init_X4 tyX4 tyX4_ok nmX4 0 rfl rfl 2 (by decide) 11 rfl rfl (v := .ref p1) (tv := (.object "CarbonCopies$Trace")) (by decide +kernel) rfl rfl (Nat.le_of_ble_eq_true rfl) (X' := [(a, .inr (4, [.ref g7, .ref g16, .ref p1, .int 0, .int 10, .int 1])), (g7, .inl (Y 2, 6, .inr (.inr (.inr (.inr (fun _ => none)))))), (g16, .inl (Y 0, 6, .inl (fun _ => 0)))]) rfl dX4_init_39 (fun H locs hP hD hS => ?_)
  exact x_retv C0 (fun i => match i with | 0 => g7 | _ => g16) (XX := W0 ++ [(a, .inr (4, [.ref g7, .ref g16, .ref p1, .int 0, .int 10, .int 1])), (g7, .inl (Y 2, 6, .inr (.inr (.inr (.inr (fun _ => none)))))), (g16, .inl (Y 0, 6, .inl (fun _ => 0)))]) rfl hP hD hS dX4_init_42
