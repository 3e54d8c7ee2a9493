set_option maxRecDepth 20000 in
theorem in_X12_act_X12 : ∀ w ∈ u_ws RX12 TX12 27, w ∈ wsX12_act := by decide +kernel
set_option maxRecDepth 20000 in
theorem in_X12_goesBy_X12 : ∀ w ∈ u_ws RX12 TX12 27, w ∈ wsX12_goesBy := by decide +kernel
set_option maxRecDepth 20000 in
theorem in_X12_image_X12 : ∀ w ∈ u_ws RX12 TX12 27, w ∈ wsX12_image := by decide +kernel
set_option maxRecDepth 20000 in
theorem in_X12_livesBy_X12 : ∀ w ∈ u_ws RX12 TX12 27, w ∈ wsX12_livesBy := by decide +kernel
set_option maxRecDepth 20000 in
theorem in_X12_looksBy_X12 : ∀ w ∈ u_ws RX12 TX12 27, w ∈ wsX12_looksBy := by decide +kernel
set_option maxRecDepth 20000 in
theorem in_X12_ran_X12 : ∀ w ∈ u_ws RX12 TX12 27, w ∈ wsX12_ran := by decide +kernel
set_option maxRecDepth 20000 in
theorem in_X12_restore_X12 : ∀ w ∈ u_ws RX12 TX12 27, w ∈ wsX12_restore := by decide +kernel
set_option maxRecDepth 20000 in
theorem in_X12_seed_X12 : ∀ w ∈ u_ws RX12 TX12 27, w ∈ wsX12_seed := by decide +kernel
set_option maxRecDepth 20000 in
theorem in_X12_status_X12 : ∀ w ∈ u_ws RX12 TX12 27, w ∈ wsX12_status := by decide +kernel
set_option maxRecDepth 20000 in
theorem in_X12_trace_X12 : ∀ w ∈ u_ws RX12 TX12 27, w ∈ wsX12_trace := by decide +kernel
set_option maxRecDepth 20000 in
theorem in_X12_years_X12 : ∀ w ∈ u_ws RX12 TX12 27, w ∈ wsX12_years := by decide +kernel
def M_X12_years_B33 : Nat → zSt → Int32 → Int32 → Option (Int32 × zSt)
  | 0, _, _, _ => none
  | n + 1, S, x1, x2 =>
  (if x1 ≤ x2 then Option.bind (M_X12_allDead S) (fun w5 => some (w5, S)) else Option.bind (M_X12_year S) (fun w6 => M_X12_years_B33 n w6 x1 ((x2 + 1))))
set_option maxHeartbeats 4000000 in
set_option maxRecDepth 100000 in
theorem t_X12_years_B33 {p : Program} {l : Launch} {e : Env} {s : State} {m : MethodId} {args : Array Value} {below : List Frame} {meth : Method} {c : Code} {D : va_G} {Y : Nat → ClassId} {F : Nat → Nat} {A : Nat → Prop} {G : zG} (C0 : zCx p s m args meth c D Y F A RX12 cX12_years 3 (some .int) wsX12_years) (res : Int32 × zSt) : ∀ (n : Nat), ∀ (S : zSt) (x1 : Int32) (x2 : Int32), M_X12_years_B33 n S x1 x2 = some res → ∀ (H : Heap) (locs : List Loc) (ls : Array Slot), zH D Y F A G S H → va_S A s.heap H locs → lv_has ls 3 [(0, .ref (F 0)), (1, .int x1), (2, .int x2)] → W p l e (zRm 4 99) s m args below meth c H locs 0 0 (MQ below (zQi D Y F A G res) args s 0 0 A) (F0 m 33 ls []) := by
  obtain ⟨hx, hb, hml, hr, hown, hts, hK, hA, hlk, hN⟩ := id C0
  intro n
  induction n with
  | zero =>
    intro S x1 x2 h
    unfold M_X12_years_B33 at h
    cases h
  | succ n ih =>
    intro S x1 x2 h H locs ls hw hS hl
    rw [M_X12_years_B33] at h
    refine lv_iload_n hx hb dX12_years_33 rfl (lv_at hl 2 rfl) ?_
    refine lv_iload_n hx hb dX12_years_34 rfl (lv_at hl 1 rfl) ?_
    refine lv_icmp_ge (tgt := 48) hx hb dX12_years_35 (by decide) (fun c4 => ?_) (fun c4 => ?_)
    · replace h := z_ifp c4 h
      refine lv_aload_n hx hb dX12_years_48 rfl (lv_at hl 0 rfl) ?_
      obtain ⟨w5, ew5, h⟩ := z_bd h
      refine z_callVip C0 hw hS (k := 0) (As := []) (rest := []) rfl rfl rfl rfl (c_X12_allDead l D Y F G S _ w5 ew5) (cwV 0 hts gX12_years_X12_allDead rfl rfl rfl (by decide +kernel) ⟨Nat.le_of_ble_eq_true rfl, Nat.le_of_ble_eq_true rfl⟩) rfl hl.1 rfl (Nat.le_of_ble_eq_true rfl) dX12_years_49 ⟨Nat.zero_le _, Nat.zero_le _⟩ (fun H locs hw hS => ?_)
      exact z_reti C0 hw hS (Option.some.inj h) dX12_years_52
    · replace h := z_ifn c4 h
      refine lv_aload_n hx hb dX12_years_38 rfl (lv_at hl 0 rfl) ?_
      obtain ⟨w6, ew6, h⟩ := z_bd h
      refine z_callVv0 C0 hw hS (k := 0) (As := []) (rest := []) rfl rfl rfl rfl (c_X12_year l D Y F G S _ w6 ew6) (cwV 0 hts gX12_years_X12_year rfl rfl rfl (by decide +kernel) ⟨Nat.le_of_ble_eq_true rfl, Nat.le_of_ble_eq_true rfl⟩) rfl hl.1 rfl (Nat.le_of_ble_eq_true rfl) dX12_years_39 ⟨Nat.zero_le _, Nat.zero_le _⟩ (fun H locs hw hS => ?_)
      refine lv_iinc (v := (x2 + 1)) (lv' := [(2, .int ((x2 + 1))), (0, .ref (F 0)), (1, .int x1)]) hx hb dX12_years_42 hl (k := 2) rfl rfl (by decide) rfl (fun ls hl => ?_)
      refine lv_goto (tgt := 33) hx hb dX12_years_45 (by decide) ?_
      exact ih w6 x1 ((x2 + 1)) h _ _ _ hw hS (lv_sub hl [1, 2, 0] rfl)
def M_X12_years (S : zSt) (x1 : Int32) : Option (Int32 × zSt) :=
  (if (zsc S 0 3) = 0 then Option.bind (M_X12_no S (-5)) (fun w8 => some (w8.1, w8.2)) else Option.bind (M_X12_within S x1 1 100) (fun w2 => (if w2 = 0 then Option.bind (M_X12_no S (-6)) (fun w7 => some (w7.1, w7.2)) else M_X12_years_B33 zF S x1 0)))
set_option maxHeartbeats 4000000 in
set_option maxRecDepth 100000 in
theorem c_X12_years (l : Launch) (D : va_G) (Y : Nat → ClassId) (F : Nat → Nat) (G : zG) (S : zSt) (sz : Nat) (x1 : Int32) (res : Int32 × zSt) (h : M_X12_years S x1 = some res) : Met l yX12_years wsX12_years (zRm 4 99) (zPc D Y F G S sz [.ref (F 0), .int x1]) (zQi D Y F (zAo F G sz) G res) 0 0 (zAo F G sz) := by
  unfold M_X12_years at h
  refine zMet (cc := cX12_years) (maxL := 3) (ret := (some .int)) (own := RX12) (by decide +kernel) rfl rfl (Nat.le_of_ble_eq_true rfl) ?_
  intro p e s m args below meth c C0 hin hw hS ls hl
  have hl : lv_has ls 3 [(0, .ref (F 0)), (1, .int x1)] := hl
  generalize zAo F G sz = A at C0 hw hS ⊢
  obtain ⟨hx, hb, hml, hr, hown, hts, hK, hA, hlk, hN⟩ := id C0
  refine lv_aload_n hx hb dX12_years_0 rfl (lv_at hl 0 rfl) ?_
  refine z_get C0 in_X12_years_X12 (C := RX12) (T := TX12) (N := 27) hw (k := 0) (ci := 12) (v := .int ((zsc S 0 3))) rfl rfl rfl rfl 3 (by decide) rfl 1 rfl dX12_years_1 ?_
  refine lv_if_ne (tgt := 14) hx hb dX12_years_4 (by decide) (fun c1 => ?_) (fun c1 => ?_)
  · replace h := z_ifn c1 h
    refine lv_iload_n hx hb dX12_years_14 rfl (lv_at hl 1 rfl) ?_
    refine lv_iconst (v := 1) hx hb dX12_years_15 (by decide) ?_
    refine lv_bipush (v := 100) hx hb dX12_years_16 (by decide) ?_
    obtain ⟨w2, ew2, h⟩ := z_bd h
    refine z_callSip C0 hw hS (As := [.int x1, .int 1, .int 100]) (rest := []) (c_X12_within l D Y F G S _ x1 1 100 w2 ew2) (va_cwS 3 hts gX12_years_X12_within rfl rfl rfl (by decide +kernel) ⟨Nat.le_of_ble_eq_true rfl, Nat.le_of_ble_eq_true rfl⟩) rfl hl.1 rfl (Nat.le_of_ble_eq_true rfl) dX12_years_18 ⟨Nat.zero_le _, Nat.zero_le _⟩ (fun H locs hw hS => ?_)
    refine lv_if_ne (tgt := 31) hx hb dX12_years_21 (by decide) (fun c3 => ?_) (fun c3 => ?_)
    · replace h := z_ifn c3 h
      refine lv_iconst (v := 0) hx hb dX12_years_31 (by decide) ?_
      refine lv_istore_n (lv' := [(2, .int 0), (0, .ref (F 0)), (1, .int x1)]) hx hb dX12_years_32 rfl hl (by decide) rfl (fun ls hl => ?_)
      exact t_X12_years_B33 C0 res zF S x1 0 h _ _ _ hw hS (lv_sub hl [1, 2, 0] rfl)
    · replace h := z_ifp c3 h
      refine lv_aload_n hx hb dX12_years_24 rfl (lv_at hl 0 rfl) ?_
      refine lv_bipush (v := (-6)) hx hb dX12_years_25 (by decide) ?_
      obtain ⟨w7, ew7, h⟩ := z_bd h
      refine z_callVi0 C0 hw hS (k := 0) (As := [.int (-6)]) (rest := []) rfl rfl rfl rfl (c_X12_no l D Y F G S _ (-6) w7 ew7) (cwV 1 hts gX12_years_X12_no rfl rfl rfl (by decide +kernel) ⟨Nat.le_of_ble_eq_true rfl, Nat.le_of_ble_eq_true rfl⟩) rfl hl.1 rfl (Nat.le_of_ble_eq_true rfl) dX12_years_27 ⟨Nat.zero_le _, Nat.zero_le _⟩ (fun H locs hw hS => ?_)
      exact z_reti C0 hw hS (Option.some.inj h) dX12_years_30
  · replace h := z_ifp c1 h
    refine lv_aload_n hx hb dX12_years_7 rfl (lv_at hl 0 rfl) ?_
    refine lv_bipush (v := (-5)) hx hb dX12_years_8 (by decide) ?_
    obtain ⟨w8, ew8, h⟩ := z_bd h
    refine z_callVi0 C0 hw hS (k := 0) (As := [.int (-5)]) (rest := []) rfl rfl rfl rfl (c_X12_no l D Y F G S _ (-5) w8 ew8) (cwV 1 hts gX12_years_X12_no rfl rfl rfl (by decide +kernel) ⟨Nat.le_of_ble_eq_true rfl, Nat.le_of_ble_eq_true rfl⟩) rfl hl.1 rfl (Nat.le_of_ble_eq_true rfl) dX12_years_10 ⟨Nat.zero_le _, Nat.zero_le _⟩ (fun H locs hw hS => ?_)
    exact z_reti C0 hw hS (Option.some.inj h) dX12_years_13
def M_X12_seed (S : zSt) (x1 : Int32) : Option (Int32 × zSt) :=
  some ((zsc S 0 12), (zP S 0 12 x1))
set_option maxHeartbeats 4000000 in
set_option maxRecDepth 100000 in
theorem c_X12_seed (l : Launch) (D : va_G) (Y : Nat → ClassId) (F : Nat → Nat) (G : zG) (S : zSt) (sz : Nat) (x1 : Int32) (res : Int32 × zSt) (h : M_X12_seed S x1 = some res) : Met l yX12_seed wsX12_seed (zRm 0 0) (zPc D Y F G S sz [.ref (F 0), .int x1]) (zQi D Y F (zAo F G sz) G res) 0 0 (zAo F G sz) := by
  unfold M_X12_seed at h
  refine zMet (cc := cX12_seed) (maxL := 3) (ret := (some .int)) (own := RX12) (by decide +kernel) rfl rfl (Nat.le_of_ble_eq_true rfl) ?_
  intro p e s m args below meth c C0 hin hw hS ls hl
  have hl : lv_has ls 3 [(0, .ref (F 0)), (1, .int x1)] := hl
  generalize zAo F G sz = A at C0 hw hS ⊢
  obtain ⟨hx, hb, hml, hr, hown, hts, hK, hA, hlk, hN⟩ := id C0
  refine lv_aload_n hx hb dX12_seed_0 rfl (lv_at hl 0 rfl) ?_
  refine z_get C0 in_X12_seed_X12 (C := RX12) (T := TX12) (N := 27) hw (k := 0) (ci := 12) (v := .int ((zsc S 0 12))) rfl rfl rfl rfl 12 (by decide) rfl 1 rfl dX12_seed_1 ?_
  refine lv_istore_n (lv' := [(2, .int ((zsc S 0 12))), (0, .ref (F 0)), (1, .int x1)]) hx hb dX12_seed_4 rfl hl (by decide) rfl (fun ls hl => ?_)
  refine lv_aload_n hx hb dX12_seed_5 rfl (lv_at hl 1 rfl) ?_
  refine lv_iload_n hx hb dX12_seed_6 rfl (lv_at hl 2 rfl) ?_
  refine z_put C0 in_X12_seed_X12 tyX12 tyX12_ok nmX12 (C := RX12) (T := TX12) (N := 27) hw hS (k := 0) (ci := 12) (v := x1) (ty := .int) rfl rfl rfl rfl 12 (by decide) 1 rfl rfl rfl rfl rfl (Nat.le_of_ble_eq_true rfl) rfl dX12_seed_7 (fun H locs hw hS => ?_)
  refine lv_iload_n hx hb dX12_seed_10 rfl (lv_at hl 0 rfl) ?_
  exact z_reti C0 hw hS (Option.some.inj h) dX12_seed_11
def M_X12_ran_B19 (S : zSt) : Option (zSt) :=
  some ((zP S 0 17 (((zsc S 0 17) + 1))))
set_option maxHeartbeats 4000000 in
set_option maxRecDepth 100000 in
theorem t_X12_ran_B19 {p : Program} {l : Launch} {e : Env} {s : State} {m : MethodId} {args : Array Value} {below : List Frame} {meth : Method} {c : Code} {D : va_G} {Y : Nat → ClassId} {F : Nat → Nat} {A : Nat → Prop} {G : zG} (C0 : zCx p s m args meth c D Y F A RX12 cX12_ran 2 none wsX12_ran) (res : zSt) : ∀ (S : zSt), M_X12_ran_B19 S = some res → ∀ (H : Heap) (locs : List Loc) (ls : Array Slot), zH D Y F A G S H → va_S A s.heap H locs → lv_has ls 2 [(0, .ref (F 0))] → W p l e (zRm 0 0) s m args below meth c H locs 0 0 (MQ below (zQv D Y F A G res) args s 0 0 A) (F0 m 19 ls []) := by
  obtain ⟨hx, hb, hml, hr, hown, hts, hK, hA, hlk, hN⟩ := id C0
  intro S h H locs ls hw hS hl
  unfold M_X12_ran_B19 at h
  refine lv_aload_n hx hb dX12_ran_19 rfl (lv_at hl 0 rfl) ?_
  refine lv_dup hx hb dX12_ran_20 rfl ?_
  refine z_get C0 in_X12_ran_X12 (C := RX12) (T := TX12) (N := 27) hw (k := 0) (ci := 12) (v := .int ((zsc S 0 17))) rfl rfl rfl rfl 17 (by decide) rfl 1 rfl dX12_ran_21 ?_
  refine lv_iconst (v := 1) hx hb dX12_ran_24 (by decide) ?_
  refine lv_iadd hx hb dX12_ran_25 ?_
  refine z_put C0 in_X12_ran_X12 tyX12 tyX12_ok nmX12 (C := RX12) (T := TX12) (N := 27) hw hS (k := 0) (ci := 12) (v := ((zsc S 0 17) + 1)) (ty := .int) rfl rfl rfl rfl 17 (by decide) 1 rfl rfl rfl rfl rfl (Nat.le_of_ble_eq_true rfl) rfl dX12_ran_26 (fun H locs hw hS => ?_)
  exact z_retv C0 hw hS (Option.some.inj h) dX12_ran_29
def M_X12_ran (S : zSt) (x1 : Int32) : Option (zSt) :=
  (if 20 ≤ (zsc S 0 17) then M_X12_ran_B19 S else zg (zin ((zsc S 0 17)) 20) (M_X12_ran_B19 ((zAs S 12 (Int32.toNatClampNeg ((zsc S 0 17))) x1))))
set_option maxHeartbeats 4000000 in
set_option maxRecDepth 100000 in
theorem c_X12_ran (l : Launch) (D : va_G) (Y : Nat → ClassId) (F : Nat → Nat) (G : zG) (S : zSt) (sz : Nat) (x1 : Int32) (res : zSt) (h : M_X12_ran S x1 = some res) : Met l yX12_ran wsX12_ran (zRm 0 0) (zPc D Y F G S sz [.ref (F 0), .int x1]) (zQv D Y F (zAo F G sz) G res) 0 0 (zAo F G sz) := by
  unfold M_X12_ran at h
  refine zMet (cc := cX12_ran) (maxL := 2) (ret := none) (own := RX12) (by decide +kernel) rfl rfl (Nat.le_of_ble_eq_true rfl) ?_
  intro p e s m args below meth c C0 hin hw hS ls hl
  have hl : lv_has ls 2 [(0, .ref (F 0)), (1, .int x1)] := hl
  generalize zAo F G sz = A at C0 hw hS ⊢
  obtain ⟨hx, hb, hml, hr, hown, hts, hK, hA, hlk, hN⟩ := id C0
  refine lv_aload_n hx hb dX12_ran_0 rfl (lv_at hl 0 rfl) ?_
  refine z_get C0 in_X12_ran_X12 (C := RX12) (T := TX12) (N := 27) hw (k := 0) (ci := 12) (v := .int ((zsc S 0 17))) rfl rfl rfl rfl 17 (by decide) rfl 1 rfl dX12_ran_1 ?_
  refine lv_bipush (v := 20) hx hb dX12_ran_4 (by decide) ?_
  refine lv_icmp_ge (tgt := 19) hx hb dX12_ran_6 (by decide) (fun c1 => ?_) (fun c1 => ?_)
  · replace h := z_ifp c1 h
    exact t_X12_ran_B19 C0 res S h _ _ _ hw hS (lv_sub hl [0] rfl)
  · replace h := z_ifn c1 h
    refine lv_aload_n hx hb dX12_ran_9 rfl (lv_at hl 0 rfl) ?_
    refine z_get C0 in_X12_ran_X12 (C := RX12) (T := TX12) (N := 27) hw (k := 0) (ci := 12) (v := .ref (F 12)) rfl rfl rfl rfl 18 (by decide) rfl 2 rfl dX12_ran_10 ?_
    refine lv_aload_n hx hb dX12_ran_13 rfl (lv_at hl 0 rfl) ?_
    refine z_get C0 in_X12_ran_X12 (C := RX12) (T := TX12) (N := 27) hw (k := 0) (ci := 12) (v := .int ((zsc S 0 17))) rfl rfl rfl rfl 17 (by decide) rfl 1 rfl dX12_ran_14 ?_
    refine lv_iload_n hx hb dX12_ran_17 rfl (lv_at hl 1 rfl) ?_
    obtain ⟨b2, h⟩ := z_gd h
    refine z_iasts C0 hw hS 12 rfl rfl zri_12 (zin_in b2) dX12_ran_18 (fun H locs hw hS => ?_)
    exact t_X12_ran_B19 C0 res ((zAs S 12 (Int32.toNatClampNeg ((zsc S 0 17))) x1)) h _ _ _ hw hS (lv_sub hl [0] rfl)
def M_X12_livesBy_B73 (S : zSt) (x1 : Int32) (x4 : Int32) : Option (Int32 × zSt) :=
  some ((x4 - x1), S)
set_option maxHeartbeats 4000000 in
set_option maxRecDepth 100000 in
theorem t_X12_livesBy_B73 {p : Program} {l : Launch} {e : Env} {s : State} {m : MethodId} {args : Array Value} {below : List Frame} {meth : Method} {c : Code} {D : va_G} {Y : Nat → ClassId} {F : Nat → Nat} {A : Nat → Prop} {G : zG} (C0 : zCx p s m args meth c D Y F A RX12 cX12_livesBy 5 (some .int) wsX12_livesBy) (res : Int32 × zSt) : ∀ (S : zSt) (x1 : Int32) (x4 : Int32), M_X12_livesBy_B73 S x1 x4 = some res → ∀ (H : Heap) (locs : List Loc) (ls : Array Slot), zH D Y F A G S H → va_S A s.heap H locs → lv_has ls 5 [(1, .int x1), (4, .int x4)] → W p l e (zRm 1 21) s m args below meth c H locs 0 0 (MQ below (zQi D Y F A G res) args s 0 0 A) (F0 m 73 ls []) := by
  obtain ⟨hx, hb, hml, hr, hown, hts, hK, hA, hlk, hN⟩ := id C0
  intro S x1 x4 h H locs ls hw hS hl
  unfold M_X12_livesBy_B73 at h
  refine lv_iload hx hb dX12_livesBy_73 (lv_at hl 1 rfl) ?_
  refine lv_iload_n hx hb dX12_livesBy_75 rfl (lv_at hl 0 rfl) ?_
  refine lv_isub hx hb dX12_livesBy_76 ?_
  exact z_reti C0 hw hS (Option.some.inj h) dX12_livesBy_77
def M_X12_livesBy_B52 (S : zSt) (x1 : Int32) (x2 : Int32) (x3 : Int32) : Option (Int32 × zSt) :=
  Option.bind (M_X12_ran S 10) (fun w8 => (if x3 = 4 then M_X12_livesBy_B73 w8 x1 ((x2 + x1)) else (if x3 = 5 then M_X12_livesBy_B73 w8 x1 ((x2 + x1)) else (if x3 = 1 then zg (zin x1 6) (some (((x2 + x1) + (zar w8 5 (Int32.toNatClampNeg x1))), w8)) else (if x3 = 6 then zg (zin x1 6) (some ((((x2 + x1) + (zar w8 5 (Int32.toNatClampNeg x1))) * 2), w8)) else some ((x2 + x1), w8))))))
set_option maxHeartbeats 4000000 in
set_option maxRecDepth 100000 in
theorem t_X12_livesBy_B52 {p : Program} {l : Launch} {e : Env} {s : State} {m : MethodId} {args : Array Value} {below : List Frame} {meth : Method} {c : Code} {D : va_G} {Y : Nat → ClassId} {F : Nat → Nat} {A : Nat → Prop} {G : zG} (C0 : zCx p s m args meth c D Y F A RX12 cX12_livesBy 5 (some .int) wsX12_livesBy) (res : Int32 × zSt) : ∀ (S : zSt) (x1 : Int32) (x2 : Int32) (x3 : Int32), M_X12_livesBy_B52 S x1 x2 x3 = some res → ∀ (H : Heap) (locs : List Loc) (ls : Array Slot), zH D Y F A G S H → va_S A s.heap H locs → lv_has ls 5 [(0, .ref (F 0)), (1, .int x1), (2, .int x2), (3, .int x3)] → W p l e (zRm 1 21) s m args below meth c H locs 0 0 (MQ below (zQi D Y F A G res) args s 0 0 A) (F0 m 52 ls []) := by
  obtain ⟨hx, hb, hml, hr, hown, hts, hK, hA, hlk, hN⟩ := id C0
  intro S x1 x2 x3 h H locs ls hw hS hl
  unfold M_X12_livesBy_B52 at h
  refine lv_aload_n hx hb dX12_livesBy_52 rfl (lv_at hl 0 rfl) ?_
  refine lv_bipush (v := 10) hx hb dX12_livesBy_53 (by decide) ?_
  obtain ⟨w8, ew8, h⟩ := z_bd h
  refine z_callVv0 C0 hw hS (k := 0) (As := [.int 10]) (rest := []) rfl rfl rfl rfl (c_X12_ran l D Y F G S _ 10 w8 ew8) (cwV 1 hts gX12_livesBy_X12_ran rfl rfl rfl (by decide +kernel) ⟨Nat.le_of_ble_eq_true rfl, Nat.le_of_ble_eq_true rfl⟩) rfl hl.1 rfl (Nat.le_of_ble_eq_true rfl) dX12_livesBy_55 ⟨Nat.zero_le _, Nat.zero_le _⟩ (fun H locs hw hS => ?_)
  refine lv_iload_n hx hb dX12_livesBy_58 rfl (lv_at hl 2 rfl) ?_
  refine lv_iload_n hx hb dX12_livesBy_59 rfl (lv_at hl 1 rfl) ?_
  refine lv_iadd hx hb dX12_livesBy_60 ?_
  refine lv_istore (lv' := [(4, .int ((x2 + x1))), (0, .ref (F 0)), (1, .int x1), (2, .int x2), (3, .int x3)]) hx hb dX12_livesBy_61 hl (by decide) rfl (fun ls hl => ?_)
  refine lv_iload_n hx hb dX12_livesBy_63 rfl (lv_at hl 4 rfl) ?_
  refine lv_iconst (v := 4) hx hb dX12_livesBy_64 (by decide) ?_
  refine lv_icmp_eq (tgt := 73) hx hb dX12_livesBy_65 (by decide) (fun c9 => ?_) (fun c9 => ?_)
  · replace h := z_ifp c9 h
    exact t_X12_livesBy_B73 C0 res w8 x1 ((x2 + x1)) h _ _ _ hw hS (lv_sub hl [2, 0] rfl)
  · replace h := z_ifn c9 h
    refine lv_iload_n hx hb dX12_livesBy_68 rfl (lv_at hl 4 rfl) ?_
    refine lv_iconst (v := 5) hx hb dX12_livesBy_69 (by decide) ?_
    refine lv_icmp_ne (tgt := 78) hx hb dX12_livesBy_70 (by decide) (fun c10 => ?_) (fun c10 => ?_)
    · replace h := z_ifn c10 h
      refine lv_iload_n hx hb dX12_livesBy_78 rfl (lv_at hl 4 rfl) ?_
      refine lv_iconst (v := 1) hx hb dX12_livesBy_79 (by decide) ?_
      refine lv_icmp_ne (tgt := 93) hx hb dX12_livesBy_80 (by decide) (fun c11 => ?_) (fun c11 => ?_)
      · replace h := z_ifn c11 h
        refine lv_iload_n hx hb dX12_livesBy_93 rfl (lv_at hl 4 rfl) ?_
        refine lv_bipush (v := 6) hx hb dX12_livesBy_94 (by decide) ?_
        refine lv_icmp_ne (tgt := 113) hx hb dX12_livesBy_96 (by decide) (fun c12 => ?_) (fun c12 => ?_)
        · replace h := z_ifn c12 h
          refine lv_iload hx hb dX12_livesBy_113 (lv_at hl 0 rfl) ?_
          exact z_reti C0 hw hS (Option.some.inj h) dX12_livesBy_115
        · replace h := z_ifp c12 h
          refine lv_iload hx hb dX12_livesBy_99 (lv_at hl 0 rfl) ?_
          refine lv_aload_n hx hb dX12_livesBy_101 rfl (lv_at hl 1 rfl) ?_
          refine z_get C0 in_X12_livesBy_X12 (C := RX12) (T := TX12) (N := 27) hw (k := 0) (ci := 12) (v := .ref (F 5)) rfl rfl rfl rfl 5 (by decide) rfl 2 rfl dX12_livesBy_102 ?_
          refine lv_iload_n hx hb dX12_livesBy_105 rfl (lv_at hl 2 rfl) ?_
          obtain ⟨b13, h⟩ := z_gd h
          refine z_iald C0 hw 5 rfl rfl zri_5 (zin_in b13) dX12_livesBy_106 ?_
          refine lv_iadd hx hb dX12_livesBy_107 ?_
          refine lv_iconst (v := 2) hx hb dX12_livesBy_108 (by decide) ?_
          refine lv_imul hx hb dX12_livesBy_109 ?_
          refine lv_goto (tgt := 115) hx hb dX12_livesBy_110 (by decide) ?_
          exact z_reti C0 hw hS (Option.some.inj h) dX12_livesBy_115
      · replace h := z_ifp c11 h
        refine lv_iload hx hb dX12_livesBy_83 (lv_at hl 0 rfl) ?_
        refine lv_aload_n hx hb dX12_livesBy_85 rfl (lv_at hl 1 rfl) ?_
        refine z_get C0 in_X12_livesBy_X12 (C := RX12) (T := TX12) (N := 27) hw (k := 0) (ci := 12) (v := .ref (F 5)) rfl rfl rfl rfl 5 (by decide) rfl 2 rfl dX12_livesBy_86 ?_
        refine lv_iload_n hx hb dX12_livesBy_89 rfl (lv_at hl 2 rfl) ?_
        obtain ⟨b14, h⟩ := z_gd h
        refine z_iald C0 hw 5 rfl rfl zri_5 (zin_in b14) dX12_livesBy_90 ?_
        refine lv_iadd hx hb dX12_livesBy_91 ?_
        exact z_reti C0 hw hS (Option.some.inj h) dX12_livesBy_92
    · replace h := z_ifp c10 h
      exact t_X12_livesBy_B73 C0 res w8 x1 ((x2 + x1)) h _ _ _ hw hS (lv_sub hl [2, 0] rfl)
def M_X12_livesBy_B46 (S : zSt) (x1 : Int32) (x2 : Int32) (x3 : Int32) : Option (Int32 × zSt) :=
  Option.bind (M_X12_ran S 51) (fun w7 => M_X12_livesBy_B52 w7 x1 x2 x3)
set_option maxHeartbeats 4000000 in
set_option maxRecDepth 100000 in
theorem t_X12_livesBy_B46 {p : Program} {l : Launch} {e : Env} {s : State} {m : MethodId} {args : Array Value} {below : List Frame} {meth : Method} {c : Code} {D : va_G} {Y : Nat → ClassId} {F : Nat → Nat} {A : Nat → Prop} {G : zG} (C0 : zCx p s m args meth c D Y F A RX12 cX12_livesBy 5 (some .int) wsX12_livesBy) (res : Int32 × zSt) : ∀ (S : zSt) (x1 : Int32) (x2 : Int32) (x3 : Int32), M_X12_livesBy_B46 S x1 x2 x3 = some res → ∀ (H : Heap) (locs : List Loc) (ls : Array Slot), zH D Y F A G S H → va_S A s.heap H locs → lv_has ls 5 [(0, .ref (F 0)), (1, .int x1), (2, .int x2), (3, .int x3)] → W p l e (zRm 1 21) s m args below meth c H locs 0 0 (MQ below (zQi D Y F A G res) args s 0 0 A) (F0 m 46 ls []) := by
  obtain ⟨hx, hb, hml, hr, hown, hts, hK, hA, hlk, hN⟩ := id C0
  intro S x1 x2 x3 h H locs ls hw hS hl
  unfold M_X12_livesBy_B46 at h
  refine lv_aload_n hx hb dX12_livesBy_46 rfl (lv_at hl 0 rfl) ?_
  refine lv_bipush (v := 51) hx hb dX12_livesBy_47 (by decide) ?_
  obtain ⟨w7, ew7, h⟩ := z_bd h
  refine z_callVv0 C0 hw hS (k := 0) (As := [.int 51]) (rest := []) rfl rfl rfl rfl (c_X12_ran l D Y F G S _ 51 w7 ew7) (cwV 1 hts gX12_livesBy_X12_ran rfl rfl rfl (by decide +kernel) ⟨Nat.le_of_ble_eq_true rfl, Nat.le_of_ble_eq_true rfl⟩) rfl hl.1 rfl (Nat.le_of_ble_eq_true rfl) dX12_livesBy_49 ⟨Nat.zero_le _, Nat.zero_le _⟩ (fun H locs hw hS => ?_)
  exact t_X12_livesBy_B52 C0 res w7 x1 x2 x3 h _ _ _ hw hS (lv_sub hl [0, 1, 2, 3] rfl)
def M_X12_livesBy_B36 (S : zSt) (x1 : Int32) (x2 : Int32) (x3 : Int32) : Option (Int32 × zSt) :=
  (if x3 = 4 then M_X12_livesBy_B46 S x1 x2 x3 else (if x3 = 5 then M_X12_livesBy_B46 S x1 x2 x3 else M_X12_livesBy_B52 S x1 x2 x3))
set_option maxHeartbeats 4000000 in
set_option maxRecDepth 100000 in
theorem t_X12_livesBy_B36 {p : Program} {l : Launch} {e : Env} {s : State} {m : MethodId} {args : Array Value} {below : List Frame} {meth : Method} {c : Code} {D : va_G} {Y : Nat → ClassId} {F : Nat → Nat} {A : Nat → Prop} {G : zG} (C0 : zCx p s m args meth c D Y F A RX12 cX12_livesBy 5 (some .int) wsX12_livesBy) (res : Int32 × zSt) : ∀ (S : zSt) (x1 : Int32) (x2 : Int32) (x3 : Int32), M_X12_livesBy_B36 S x1 x2 x3 = some res → ∀ (H : Heap) (locs : List Loc) (ls : Array Slot), zH D Y F A G S H → va_S A s.heap H locs → lv_has ls 5 [(0, .ref (F 0)), (1, .int x1), (2, .int x2), (3, .int x3)] → W p l e (zRm 1 21) s m args below meth c H locs 0 0 (MQ below (zQi D Y F A G res) args s 0 0 A) (F0 m 36 ls []) := by
  obtain ⟨hx, hb, hml, hr, hown, hts, hK, hA, hlk, hN⟩ := id C0
  intro S x1 x2 x3 h H locs ls hw hS hl
  unfold M_X12_livesBy_B36 at h
  refine lv_iload_n hx hb dX12_livesBy_36 rfl (lv_at hl 3 rfl) ?_
  refine lv_iconst (v := 4) hx hb dX12_livesBy_37 (by decide) ?_
  refine lv_icmp_eq (tgt := 46) hx hb dX12_livesBy_38 (by decide) (fun c6 => ?_) (fun c6 => ?_)
  · replace h := z_ifp c6 h
    exact t_X12_livesBy_B46 C0 res S x1 x2 x3 h _ _ _ hw hS (lv_sub hl [0, 1, 2, 3] rfl)
  · replace h := z_ifn c6 h
    refine lv_iload_n hx hb dX12_livesBy_41 rfl (lv_at hl 3 rfl) ?_
    refine lv_iconst (v := 5) hx hb dX12_livesBy_42 (by decide) ?_
    refine lv_icmp_ne (tgt := 52) hx hb dX12_livesBy_43 (by decide) (fun c15 => ?_) (fun c15 => ?_)
    · replace h := z_ifn c15 h
      exact t_X12_livesBy_B52 C0 res S x1 x2 x3 h _ _ _ hw hS (lv_sub hl [0, 1, 2, 3] rfl)
    · replace h := z_ifp c15 h
      exact t_X12_livesBy_B46 C0 res S x1 x2 x3 h _ _ _ hw hS (lv_sub hl [0, 1, 2, 3] rfl)
def M_X12_livesBy_B30 (S : zSt) (x1 : Int32) (x2 : Int32) (x3 : Int32) : Option (Int32 × zSt) :=
  Option.bind (M_X12_ran S 20) (fun w5 => M_X12_livesBy_B36 w5 x1 x2 x3)
set_option maxHeartbeats 4000000 in
set_option maxRecDepth 100000 in
theorem t_X12_livesBy_B30 {p : Program} {l : Launch} {e : Env} {s : State} {m : MethodId} {args : Array Value} {below : List Frame} {meth : Method} {c : Code} {D : va_G} {Y : Nat → ClassId} {F : Nat → Nat} {A : Nat → Prop} {G : zG} (C0 : zCx p s m args meth c D Y F A RX12 cX12_livesBy 5 (some .int) wsX12_livesBy) (res : Int32 × zSt) : ∀ (S : zSt) (x1 : Int32) (x2 : Int32) (x3 : Int32), M_X12_livesBy_B30 S x1 x2 x3 = some res → ∀ (H : Heap) (locs : List Loc) (ls : Array Slot), zH D Y F A G S H → va_S A s.heap H locs → lv_has ls 5 [(0, .ref (F 0)), (1, .int x1), (2, .int x2), (3, .int x3)] → W p l e (zRm 1 21) s m args below meth c H locs 0 0 (MQ below (zQi D Y F A G res) args s 0 0 A) (F0 m 30 ls []) := by
  obtain ⟨hx, hb, hml, hr, hown, hts, hK, hA, hlk, hN⟩ := id C0
  intro S x1 x2 x3 h H locs ls hw hS hl
  unfold M_X12_livesBy_B30 at h
  refine lv_aload_n hx hb dX12_livesBy_30 rfl (lv_at hl 0 rfl) ?_
  refine lv_bipush (v := 20) hx hb dX12_livesBy_31 (by decide) ?_
  obtain ⟨w5, ew5, h⟩ := z_bd h
  refine z_callVv0 C0 hw hS (k := 0) (As := [.int 20]) (rest := []) rfl rfl rfl rfl (c_X12_ran l D Y F G S _ 20 w5 ew5) (cwV 1 hts gX12_livesBy_X12_ran rfl rfl rfl (by decide +kernel) ⟨Nat.le_of_ble_eq_true rfl, Nat.le_of_ble_eq_true rfl⟩) rfl hl.1 rfl (Nat.le_of_ble_eq_true rfl) dX12_livesBy_33 ⟨Nat.zero_le _, Nat.zero_le _⟩ (fun H locs hw hS => ?_)
  exact t_X12_livesBy_B36 C0 res w5 x1 x2 x3 h _ _ _ hw hS (lv_sub hl [0, 1, 2, 3] rfl)
def M_X12_livesBy_B19 (S : zSt) (x1 : Int32) (x2 : Int32) (x3 : Int32) : Option (Int32 × zSt) :=
  (if x3 = 1 then M_X12_livesBy_B30 S x1 x2 x3 else (if x3 = 6 then M_X12_livesBy_B30 S x1 x2 x3 else M_X12_livesBy_B36 S x1 x2 x3))
set_option maxHeartbeats 4000000 in
set_option maxRecDepth 100000 in
theorem t_X12_livesBy_B19 {p : Program} {l : Launch} {e : Env} {s : State} {m : MethodId} {args : Array Value} {below : List Frame} {meth : Method} {c : Code} {D : va_G} {Y : Nat → ClassId} {F : Nat → Nat} {A : Nat → Prop} {G : zG} (C0 : zCx p s m args meth c D Y F A RX12 cX12_livesBy 5 (some .int) wsX12_livesBy) (res : Int32 × zSt) : ∀ (S : zSt) (x1 : Int32) (x2 : Int32) (x3 : Int32), M_X12_livesBy_B19 S x1 x2 x3 = some res → ∀ (H : Heap) (locs : List Loc) (ls : Array Slot), zH D Y F A G S H → va_S A s.heap H locs → lv_has ls 5 [(0, .ref (F 0)), (1, .int x1), (2, .int x2), (3, .int x3)] → W p l e (zRm 1 21) s m args below meth c H locs 0 0 (MQ below (zQi D Y F A G res) args s 0 0 A) (F0 m 19 ls []) := by
  obtain ⟨hx, hb, hml, hr, hown, hts, hK, hA, hlk, hN⟩ := id C0
  intro S x1 x2 x3 h H locs ls hw hS hl
  unfold M_X12_livesBy_B19 at h
  refine lv_iload_n hx hb dX12_livesBy_19 rfl (lv_at hl 3 rfl) ?_
  refine lv_iconst (v := 1) hx hb dX12_livesBy_20 (by decide) ?_
  refine lv_icmp_eq (tgt := 30) hx hb dX12_livesBy_21 (by decide) (fun c4 => ?_) (fun c4 => ?_)
  · replace h := z_ifp c4 h
    exact t_X12_livesBy_B30 C0 res S x1 x2 x3 h _ _ _ hw hS (lv_sub hl [0, 1, 2, 3] rfl)
  · replace h := z_ifn c4 h
    refine lv_iload_n hx hb dX12_livesBy_24 rfl (lv_at hl 3 rfl) ?_
    refine lv_bipush (v := 6) hx hb dX12_livesBy_25 (by decide) ?_
    refine lv_icmp_ne (tgt := 36) hx hb dX12_livesBy_27 (by decide) (fun c16 => ?_) (fun c16 => ?_)
    · replace h := z_ifn c16 h
      exact t_X12_livesBy_B36 C0 res S x1 x2 x3 h _ _ _ hw hS (lv_sub hl [0, 1, 2, 3] rfl)
    · replace h := z_ifp c16 h
      exact t_X12_livesBy_B30 C0 res S x1 x2 x3 h _ _ _ hw hS (lv_sub hl [0, 1, 2, 3] rfl)
def M_X12_livesBy (S : zSt) (x1 : Int32) (x2 : Int32) : Option (Int32 × zSt) :=
  zg (zin x1 6) (Option.bind (some ((zar S 4 (Int32.toNatClampNeg x1)))) (fun v2 => (if v2 = 6 then Option.bind (M_X12_ran S 70) (fun w17 => M_X12_livesBy_B19 w17 x1 x2 v2) else M_X12_livesBy_B19 S x1 x2 v2)))
set_option maxHeartbeats 4000000 in
set_option maxRecDepth 100000 in
theorem c_X12_livesBy (l : Launch) (D : va_G) (Y : Nat → ClassId) (F : Nat → Nat) (G : zG) (S : zSt) (sz : Nat) (x1 : Int32) (x2 : Int32) (res : Int32 × zSt) (h : M_X12_livesBy S x1 x2 = some res) : Met l yX12_livesBy wsX12_livesBy (zRm 1 21) (zPc D Y F G S sz [.ref (F 0), .int x1, .int x2]) (zQi D Y F (zAo F G sz) G res) 0 0 (zAo F G sz) := by
  unfold M_X12_livesBy at h
  refine zMet (cc := cX12_livesBy) (maxL := 5) (ret := (some .int)) (own := RX12) (by decide +kernel) rfl rfl (Nat.le_of_ble_eq_true rfl) ?_
  intro p e s m args below meth c C0 hin hw hS ls hl
  have hl : lv_has ls 5 [(0, .ref (F 0)), (1, .int x1), (2, .int x2)] := hl
  generalize zAo F G sz = A at C0 hw hS ⊢
  obtain ⟨hx, hb, hml, hr, hown, hts, hK, hA, hlk, hN⟩ := id C0
  refine lv_aload_n hx hb dX12_livesBy_0 rfl (lv_at hl 0 rfl) ?_
  refine z_get C0 in_X12_livesBy_X12 (C := RX12) (T := TX12) (N := 27) hw (k := 0) (ci := 12) (v := .ref (F 4)) rfl rfl rfl rfl 4 (by decide) rfl 1 rfl dX12_livesBy_1 ?_
  refine lv_iload_n hx hb dX12_livesBy_4 rfl (lv_at hl 1 rfl) ?_
  obtain ⟨b1, h⟩ := z_gd h
  refine z_iald C0 hw 4 rfl rfl zri_4 (zin_in b1) dX12_livesBy_5 ?_
  obtain ⟨v2, ev2, h⟩ := z_bd h
  refine z_top (Option.some.inj ev2) ?_
  refine lv_istore_n (lv' := [(3, .int v2), (0, .ref (F 0)), (1, .int x1), (2, .int x2)]) hx hb dX12_livesBy_6 rfl hl (by decide) rfl (fun ls hl => ?_)
  refine lv_iload_n hx hb dX12_livesBy_7 rfl (lv_at hl 0 rfl) ?_
  refine lv_bipush (v := 6) hx hb dX12_livesBy_8 (by decide) ?_
  refine lv_icmp_ne (tgt := 19) hx hb dX12_livesBy_10 (by decide) (fun c3 => ?_) (fun c3 => ?_)
  · replace h := z_ifn c3 h
    exact t_X12_livesBy_B19 C0 res S x1 x2 v2 h _ _ _ hw hS (lv_sub hl [1, 2, 3, 0] rfl)
  · replace h := z_ifp c3 h
    refine lv_aload_n hx hb dX12_livesBy_13 rfl (lv_at hl 1 rfl) ?_
    refine lv_bipush (v := 70) hx hb dX12_livesBy_14 (by decide) ?_
    obtain ⟨w17, ew17, h⟩ := z_bd h
    refine z_callVv0 C0 hw hS (k := 0) (As := [.int 70]) (rest := []) rfl rfl rfl rfl (c_X12_ran l D Y F G S _ 70 w17 ew17) (cwV 1 hts gX12_livesBy_X12_ran rfl rfl rfl (by decide +kernel) ⟨Nat.le_of_ble_eq_true rfl, Nat.le_of_ble_eq_true rfl⟩) rfl hl.1 rfl (Nat.le_of_ble_eq_true rfl) dX12_livesBy_16 ⟨Nat.zero_le _, Nat.zero_le _⟩ (fun H locs hw hS => ?_)
    exact t_X12_livesBy_B19 C0 res w17 x1 x2 v2 h _ _ _ hw hS (lv_sub hl [1, 2, 3, 0] rfl)
def M_X12_goesBy_B91 (S : zSt) (x5 : Int32) : Option (Int32 × zSt) :=
  some ((x5 * 3), S)
set_option maxHeartbeats 4000000 in
set_option maxRecDepth 100000 in
theorem t_X12_goesBy_B91 {p : Program} {l : Launch} {e : Env} {s : State} {m : MethodId} {args : Array Value} {below : List Frame} {meth : Method} {c : Code} {D : va_G} {Y : Nat → ClassId} {F : Nat → Nat} {A : Nat → Prop} {G : zG} (C0 : zCx p s m args meth c D Y F A RX12 cX12_goesBy 6 (some .int) wsX12_goesBy) (res : Int32 × zSt) : ∀ (S : zSt) (x5 : Int32), M_X12_goesBy_B91 S x5 = some res → ∀ (H : Heap) (locs : List Loc) (ls : Array Slot), zH D Y F A G S H → va_S A s.heap H locs → lv_has ls 6 [(5, .int x5)] → W p l e (zRm 2 45) s m args below meth c H locs 0 0 (MQ below (zQi D Y F A G res) args s 0 0 A) (F0 m 91 ls []) := by
  obtain ⟨hx, hb, hml, hr, hown, hts, hK, hA, hlk, hN⟩ := id C0
  intro S x5 h H locs ls hw hS hl
  unfold M_X12_goesBy_B91 at h
  refine lv_iload hx hb dX12_goesBy_91 (lv_at hl 0 rfl) ?_
  refine lv_iconst (v := 3) hx hb dX12_goesBy_93 (by decide) ?_
  refine lv_imul hx hb dX12_goesBy_94 ?_
  refine lv_goto (tgt := 100) hx hb dX12_goesBy_95 (by decide) ?_
  exact z_reti C0 hw hS (Option.some.inj h) dX12_goesBy_100
def M_X12_goesBy_B64 (S : zSt) (x1 : Int32) (x3 : Int32) (x4 : Int32) : Option (Int32 × zSt) :=
  Option.bind (M_X12_ran S 11) (fun w7 => Option.bind (M_X12_livesBy w7 x1 x4) (fun w8 => (if x3 = 2 then M_X12_goesBy_B91 w8.2 ((w8.1 * 2)) else (if x3 = 3 then M_X12_goesBy_B91 w8.2 ((w8.1 * 2)) else some ((w8.1 * 2), w8.2)))))
set_option maxHeartbeats 4000000 in
set_option maxRecDepth 100000 in
theorem t_X12_goesBy_B64 {p : Program} {l : Launch} {e : Env} {s : State} {m : MethodId} {args : Array Value} {below : List Frame} {meth : Method} {c : Code} {D : va_G} {Y : Nat → ClassId} {F : Nat → Nat} {A : Nat → Prop} {G : zG} (C0 : zCx p s m args meth c D Y F A RX12 cX12_goesBy 6 (some .int) wsX12_goesBy) (res : Int32 × zSt) : ∀ (S : zSt) (x1 : Int32) (x3 : Int32) (x4 : Int32), M_X12_goesBy_B64 S x1 x3 x4 = some res → ∀ (H : Heap) (locs : List Loc) (ls : Array Slot), zH D Y F A G S H → va_S A s.heap H locs → lv_has ls 6 [(0, .ref (F 0)), (1, .int x1), (3, .int x3), (4, .int x4)] → W p l e (zRm 2 45) s m args below meth c H locs 0 0 (MQ below (zQi D Y F A G res) args s 0 0 A) (F0 m 64 ls []) := by
  obtain ⟨hx, hb, hml, hr, hown, hts, hK, hA, hlk, hN⟩ := id C0
  intro S x1 x3 x4 h H locs ls hw hS hl
  unfold M_X12_goesBy_B64 at h
  refine lv_aload_n hx hb dX12_goesBy_64 rfl (lv_at hl 0 rfl) ?_
  refine lv_bipush (v := 11) hx hb dX12_goesBy_65 (by decide) ?_
  obtain ⟨w7, ew7, h⟩ := z_bd h
  refine z_callVv0 C0 hw hS (k := 0) (As := [.int 11]) (rest := []) rfl rfl rfl rfl (c_X12_ran l D Y F G S _ 11 w7 ew7) (cwV 1 hts gX12_goesBy_X12_ran rfl rfl rfl (by decide +kernel) ⟨Nat.le_of_ble_eq_true rfl, Nat.le_of_ble_eq_true rfl⟩) rfl hl.1 rfl (Nat.le_of_ble_eq_true rfl) dX12_goesBy_67 ⟨Nat.zero_le _, Nat.zero_le _⟩ (fun H locs hw hS => ?_)
  refine lv_aload_n hx hb dX12_goesBy_70 rfl (lv_at hl 0 rfl) ?_
  refine lv_iload_n hx hb dX12_goesBy_71 rfl (lv_at hl 1 rfl) ?_
  refine lv_iload hx hb dX12_goesBy_72 (lv_at hl 3 rfl) ?_
  obtain ⟨w8, ew8, h⟩ := z_bd h
  refine z_callVi0 C0 hw hS (k := 0) (As := [.int x1, .int x4]) (rest := []) rfl rfl rfl rfl (c_X12_livesBy l D Y F G w7 _ x1 x4 w8 ew8) (cwV 2 hts gX12_goesBy_X12_livesBy rfl rfl rfl (by decide +kernel) ⟨Nat.le_of_ble_eq_true rfl, Nat.le_of_ble_eq_true rfl⟩) rfl hl.1 rfl (Nat.le_of_ble_eq_true rfl) dX12_goesBy_74 ⟨Nat.zero_le _, Nat.zero_le _⟩ (fun H locs hw hS => ?_)
  refine lv_iconst (v := 2) hx hb dX12_goesBy_77 (by decide) ?_
  refine lv_imul hx hb dX12_goesBy_78 ?_
  refine lv_istore (lv' := [(5, .int ((w8.1 * 2))), (0, .ref (F 0)), (1, .int x1), (3, .int x3), (4, .int x4)]) hx hb dX12_goesBy_79 hl (by decide) rfl (fun ls hl => ?_)
  refine lv_iload_n hx hb dX12_goesBy_81 rfl (lv_at hl 3 rfl) ?_
  refine lv_iconst (v := 2) hx hb dX12_goesBy_82 (by decide) ?_
  refine lv_icmp_eq (tgt := 91) hx hb dX12_goesBy_83 (by decide) (fun c9 => ?_) (fun c9 => ?_)
  · replace h := z_ifp c9 h
    exact t_X12_goesBy_B91 C0 res w8.2 ((w8.1 * 2)) h _ _ _ hw hS (lv_sub hl [0] rfl)
  · replace h := z_ifn c9 h
    refine lv_iload_n hx hb dX12_goesBy_86 rfl (lv_at hl 3 rfl) ?_
    refine lv_iconst (v := 3) hx hb dX12_goesBy_87 (by decide) ?_
    refine lv_icmp_ne (tgt := 98) hx hb dX12_goesBy_88 (by decide) (fun c10 => ?_) (fun c10 => ?_)
    · replace h := z_ifn c10 h
      refine lv_iload hx hb dX12_goesBy_98 (lv_at hl 0 rfl) ?_
      exact z_reti C0 hw hS (Option.some.inj h) dX12_goesBy_100
    · replace h := z_ifp c10 h
      exact t_X12_goesBy_B91 C0 res w8.2 ((w8.1 * 2)) h _ _ _ hw hS (lv_sub hl [0] rfl)
def M_X12_goesBy_B58 (S : zSt) (x1 : Int32) (x3 : Int32) (x4 : Int32) : Option (Int32 × zSt) :=
  Option.bind (M_X12_ran S 30) (fun w6 => M_X12_goesBy_B64 w6 x1 x3 x4)
set_option maxHeartbeats 4000000 in
set_option maxRecDepth 100000 in
theorem t_X12_goesBy_B58 {p : Program} {l : Launch} {e : Env} {s : State} {m : MethodId} {args : Array Value} {below : List Frame} {meth : Method} {c : Code} {D : va_G} {Y : Nat → ClassId} {F : Nat → Nat} {A : Nat → Prop} {G : zG} (C0 : zCx p s m args meth c D Y F A RX12 cX12_goesBy 6 (some .int) wsX12_goesBy) (res : Int32 × zSt) : ∀ (S : zSt) (x1 : Int32) (x3 : Int32) (x4 : Int32), M_X12_goesBy_B58 S x1 x3 x4 = some res → ∀ (H : Heap) (locs : List Loc) (ls : Array Slot), zH D Y F A G S H → va_S A s.heap H locs → lv_has ls 6 [(0, .ref (F 0)), (1, .int x1), (3, .int x3), (4, .int x4)] → W p l e (zRm 2 45) s m args below meth c H locs 0 0 (MQ below (zQi D Y F A G res) args s 0 0 A) (F0 m 58 ls []) := by
  obtain ⟨hx, hb, hml, hr, hown, hts, hK, hA, hlk, hN⟩ := id C0
  intro S x1 x3 x4 h H locs ls hw hS hl
  unfold M_X12_goesBy_B58 at h
  refine lv_aload_n hx hb dX12_goesBy_58 rfl (lv_at hl 0 rfl) ?_
  refine lv_bipush (v := 30) hx hb dX12_goesBy_59 (by decide) ?_
  obtain ⟨w6, ew6, h⟩ := z_bd h
  refine z_callVv0 C0 hw hS (k := 0) (As := [.int 30]) (rest := []) rfl rfl rfl rfl (c_X12_ran l D Y F G S _ 30 w6 ew6) (cwV 1 hts gX12_goesBy_X12_ran rfl rfl rfl (by decide +kernel) ⟨Nat.le_of_ble_eq_true rfl, Nat.le_of_ble_eq_true rfl⟩) rfl hl.1 rfl (Nat.le_of_ble_eq_true rfl) dX12_goesBy_61 ⟨Nat.zero_le _, Nat.zero_le _⟩ (fun H locs hw hS => ?_)
  exact t_X12_goesBy_B64 C0 res w6 x1 x3 x4 h _ _ _ hw hS (lv_sub hl [0, 1, 2, 3] rfl)
def M_X12_goesBy_B48 (S : zSt) (x1 : Int32) (x3 : Int32) (x4 : Int32) : Option (Int32 × zSt) :=
  (if x3 = 2 then M_X12_goesBy_B58 S x1 x3 x4 else (if x3 = 3 then M_X12_goesBy_B58 S x1 x3 x4 else M_X12_goesBy_B64 S x1 x3 x4))
set_option maxHeartbeats 4000000 in
set_option maxRecDepth 100000 in
theorem t_X12_goesBy_B48 {p : Program} {l : Launch} {e : Env} {s : State} {m : MethodId} {args : Array Value} {below : List Frame} {meth : Method} {c : Code} {D : va_G} {Y : Nat → ClassId} {F : Nat → Nat} {A : Nat → Prop} {G : zG} (C0 : zCx p s m args meth c D Y F A RX12 cX12_goesBy 6 (some .int) wsX12_goesBy) (res : Int32 × zSt) : ∀ (S : zSt) (x1 : Int32) (x3 : Int32) (x4 : Int32), M_X12_goesBy_B48 S x1 x3 x4 = some res → ∀ (H : Heap) (locs : List Loc) (ls : Array Slot), zH D Y F A G S H → va_S A s.heap H locs → lv_has ls 6 [(0, .ref (F 0)), (1, .int x1), (3, .int x3), (4, .int x4)] → W p l e (zRm 2 45) s m args below meth c H locs 0 0 (MQ below (zQi D Y F A G res) args s 0 0 A) (F0 m 48 ls []) := by
  obtain ⟨hx, hb, hml, hr, hown, hts, hK, hA, hlk, hN⟩ := id C0
  intro S x1 x3 x4 h H locs ls hw hS hl
  unfold M_X12_goesBy_B48 at h
  refine lv_iload_n hx hb dX12_goesBy_48 rfl (lv_at hl 2 rfl) ?_
  refine lv_iconst (v := 2) hx hb dX12_goesBy_49 (by decide) ?_
  refine lv_icmp_eq (tgt := 58) hx hb dX12_goesBy_50 (by decide) (fun c5 => ?_) (fun c5 => ?_)
  · replace h := z_ifp c5 h
    exact t_X12_goesBy_B58 C0 res S x1 x3 x4 h _ _ _ hw hS (lv_sub hl [0, 1, 2, 3] rfl)
  · replace h := z_ifn c5 h
    refine lv_iload_n hx hb dX12_goesBy_53 rfl (lv_at hl 2 rfl) ?_
    refine lv_iconst (v := 3) hx hb dX12_goesBy_54 (by decide) ?_
    refine lv_icmp_ne (tgt := 64) hx hb dX12_goesBy_55 (by decide) (fun c11 => ?_) (fun c11 => ?_)
    · replace h := z_ifn c11 h
      exact t_X12_goesBy_B64 C0 res S x1 x3 x4 h _ _ _ hw hS (lv_sub hl [0, 1, 2, 3] rfl)
    · replace h := z_ifp c11 h
      exact t_X12_goesBy_B58 C0 res S x1 x3 x4 h _ _ _ hw hS (lv_sub hl [0, 1, 2, 3] rfl)
def M_X12_goesBy_B32 (S : zSt) (x1 : Int32) (x2 : Int32) (x3 : Int32) (x4 : Int32) : Option (Int32 × zSt) :=
  (if x3 = 3 then Option.bind (M_X12_ran S 40) (fun w12 => M_X12_goesBy_B48 w12 x1 x3 ((x2 + 1))) else M_X12_goesBy_B48 S x1 x3 x4)
set_option maxHeartbeats 4000000 in
set_option maxRecDepth 100000 in
theorem t_X12_goesBy_B32 {p : Program} {l : Launch} {e : Env} {s : State} {m : MethodId} {args : Array Value} {below : List Frame} {meth : Method} {c : Code} {D : va_G} {Y : Nat → ClassId} {F : Nat → Nat} {A : Nat → Prop} {G : zG} (C0 : zCx p s m args meth c D Y F A RX12 cX12_goesBy 6 (some .int) wsX12_goesBy) (res : Int32 × zSt) : ∀ (S : zSt) (x1 : Int32) (x2 : Int32) (x3 : Int32) (x4 : Int32), M_X12_goesBy_B32 S x1 x2 x3 x4 = some res → ∀ (H : Heap) (locs : List Loc) (ls : Array Slot), zH D Y F A G S H → va_S A s.heap H locs → lv_has ls 6 [(0, .ref (F 0)), (1, .int x1), (2, .int x2), (3, .int x3), (4, .int x4)] → W p l e (zRm 2 45) s m args below meth c H locs 0 0 (MQ below (zQi D Y F A G res) args s 0 0 A) (F0 m 32 ls []) := by
  obtain ⟨hx, hb, hml, hr, hown, hts, hK, hA, hlk, hN⟩ := id C0
  intro S x1 x2 x3 x4 h H locs ls hw hS hl
  unfold M_X12_goesBy_B32 at h
  refine lv_iload_n hx hb dX12_goesBy_32 rfl (lv_at hl 3 rfl) ?_
  refine lv_iconst (v := 3) hx hb dX12_goesBy_33 (by decide) ?_
  refine lv_icmp_ne (tgt := 48) hx hb dX12_goesBy_34 (by decide) (fun c4 => ?_) (fun c4 => ?_)
  · replace h := z_ifn c4 h
    exact t_X12_goesBy_B48 C0 res S x1 x3 x4 h _ _ _ hw hS (lv_sub hl [0, 1, 3, 4] rfl)
  · replace h := z_ifp c4 h
    refine lv_aload_n hx hb dX12_goesBy_37 rfl (lv_at hl 0 rfl) ?_
    refine lv_bipush (v := 40) hx hb dX12_goesBy_38 (by decide) ?_
    obtain ⟨w12, ew12, h⟩ := z_bd h
    refine z_callVv0 C0 hw hS (k := 0) (As := [.int 40]) (rest := []) rfl rfl rfl rfl (c_X12_ran l D Y F G S _ 40 w12 ew12) (cwV 1 hts gX12_goesBy_X12_ran rfl rfl rfl (by decide +kernel) ⟨Nat.le_of_ble_eq_true rfl, Nat.le_of_ble_eq_true rfl⟩) rfl hl.1 rfl (Nat.le_of_ble_eq_true rfl) dX12_goesBy_40 ⟨Nat.zero_le _, Nat.zero_le _⟩ (fun H locs hw hS => ?_)
    refine lv_iload_n hx hb dX12_goesBy_43 rfl (lv_at hl 2 rfl) ?_
    refine lv_iconst (v := 1) hx hb dX12_goesBy_44 (by decide) ?_
    refine lv_iadd hx hb dX12_goesBy_45 ?_
    refine lv_istore (lv' := [(4, .int ((x2 + 1))), (0, .ref (F 0)), (1, .int x1), (2, .int x2), (3, .int x3)]) hx hb dX12_goesBy_46 hl (by decide) rfl (fun ls hl => ?_)
    exact t_X12_goesBy_B48 C0 res w12 x1 x3 ((x2 + 1)) h _ _ _ hw hS (lv_sub hl [1, 2, 4, 0] rfl)
def M_X12_goesBy (S : zSt) (x1 : Int32) (x2 : Int32) : Option (Int32 × zSt) :=
  zg (zin x1 6) (Option.bind (some ((zar S 4 (Int32.toNatClampNeg x1)))) (fun v2 => (if v2 = 6 then Option.bind (M_X12_ran S 71) (fun w13 => zg (zin x1 6) (Option.bind (some ((x2 - (zar w13 5 (Int32.toNatClampNeg x1))))) (fun v15 => M_X12_goesBy_B32 w13 x1 x2 v2 v15))) else M_X12_goesBy_B32 S x1 x2 v2 x2)))
set_option maxHeartbeats 4000000 in
set_option maxRecDepth 100000 in
theorem c_X12_goesBy (l : Launch) (D : va_G) (Y : Nat → ClassId) (F : Nat → Nat) (G : zG) (S : zSt) (sz : Nat) (x1 : Int32) (x2 : Int32) (res : Int32 × zSt) (h : M_X12_goesBy S x1 x2 = some res) : Met l yX12_goesBy wsX12_goesBy (zRm 2 45) (zPc D Y F G S sz [.ref (F 0), .int x1, .int x2]) (zQi D Y F (zAo F G sz) G res) 0 0 (zAo F G sz) := by
  unfold M_X12_goesBy at h
  refine zMet (cc := cX12_goesBy) (maxL := 6) (ret := (some .int)) (own := RX12) (by decide +kernel) rfl rfl (Nat.le_of_ble_eq_true rfl) ?_
  intro p e s m args below meth c C0 hin hw hS ls hl
  have hl : lv_has ls 6 [(0, .ref (F 0)), (1, .int x1), (2, .int x2)] := hl
  generalize zAo F G sz = A at C0 hw hS ⊢
  obtain ⟨hx, hb, hml, hr, hown, hts, hK, hA, hlk, hN⟩ := id C0
  refine lv_aload_n hx hb dX12_goesBy_0 rfl (lv_at hl 0 rfl) ?_
  refine z_get C0 in_X12_goesBy_X12 (C := RX12) (T := TX12) (N := 27) hw (k := 0) (ci := 12) (v := .ref (F 4)) rfl rfl rfl rfl 4 (by decide) rfl 1 rfl dX12_goesBy_1 ?_
  refine lv_iload_n hx hb dX12_goesBy_4 rfl (lv_at hl 1 rfl) ?_
  obtain ⟨b1, h⟩ := z_gd h
  refine z_iald C0 hw 4 rfl rfl zri_4 (zin_in b1) dX12_goesBy_5 ?_
  obtain ⟨v2, ev2, h⟩ := z_bd h
  refine z_top (Option.some.inj ev2) ?_
  refine lv_istore_n (lv' := [(3, .int v2), (0, .ref (F 0)), (1, .int x1), (2, .int x2)]) hx hb dX12_goesBy_6 rfl hl (by decide) rfl (fun ls hl => ?_)
  refine lv_iload_n hx hb dX12_goesBy_7 rfl (lv_at hl 3 rfl) ?_
  refine lv_istore (lv' := [(4, .int x2), (3, .int v2), (0, .ref (F 0)), (1, .int x1), (2, .int x2)]) hx hb dX12_goesBy_8 hl (by decide) rfl (fun ls hl => ?_)
  refine lv_iload_n hx hb dX12_goesBy_10 rfl (lv_at hl 1 rfl) ?_
  refine lv_bipush (v := 6) hx hb dX12_goesBy_11 (by decide) ?_
  refine lv_icmp_ne (tgt := 32) hx hb dX12_goesBy_13 (by decide) (fun c3 => ?_) (fun c3 => ?_)
  · replace h := z_ifn c3 h
    exact t_X12_goesBy_B32 C0 res S x1 x2 v2 x2 h _ _ _ hw hS (lv_sub hl [2, 3, 4, 1, 0] rfl)
  · replace h := z_ifp c3 h
    refine lv_aload_n hx hb dX12_goesBy_16 rfl (lv_at hl 2 rfl) ?_
    refine lv_bipush (v := 71) hx hb dX12_goesBy_17 (by decide) ?_
    obtain ⟨w13, ew13, h⟩ := z_bd h
    refine z_callVv0 C0 hw hS (k := 0) (As := [.int 71]) (rest := []) rfl rfl rfl rfl (c_X12_ran l D Y F G S _ 71 w13 ew13) (cwV 1 hts gX12_goesBy_X12_ran rfl rfl rfl (by decide +kernel) ⟨Nat.le_of_ble_eq_true rfl, Nat.le_of_ble_eq_true rfl⟩) rfl hl.1 rfl (Nat.le_of_ble_eq_true rfl) dX12_goesBy_19 ⟨Nat.zero_le _, Nat.zero_le _⟩ (fun H locs hw hS => ?_)
    refine lv_iload_n hx hb dX12_goesBy_22 rfl (lv_at hl 4 rfl) ?_
    refine lv_aload_n hx hb dX12_goesBy_23 rfl (lv_at hl 2 rfl) ?_
    refine z_get C0 in_X12_goesBy_X12 (C := RX12) (T := TX12) (N := 27) hw (k := 0) (ci := 12) (v := .ref (F 5)) rfl rfl rfl rfl 5 (by decide) rfl 2 rfl dX12_goesBy_24 ?_
    refine lv_iload_n hx hb dX12_goesBy_27 rfl (lv_at hl 3 rfl) ?_
    obtain ⟨b14, h⟩ := z_gd h
    refine z_iald C0 hw 5 rfl rfl zri_5 (zin_in b14) dX12_goesBy_28 ?_
    refine lv_isub hx hb dX12_goesBy_29 ?_
    obtain ⟨v15, ev15, h⟩ := z_bd h
    refine z_top (Option.some.inj ev15) ?_
    refine lv_istore (lv' := [(4, .int v15), (3, .int v2), (0, .ref (F 0)), (1, .int x1), (2, .int x2)]) hx hb dX12_goesBy_30 hl (by decide) rfl (fun ls hl => ?_)
    exact t_X12_goesBy_B32 C0 res w13 x1 x2 v2 v15 h _ _ _ hw hS (lv_sub hl [2, 3, 4, 1, 0] rfl)
def M_X12_looksBy_B34 (S : zSt) (x1 : Int32) (x2 : Int32) (x3 : Int32) : Option (Int32 × zSt) :=
  Option.bind (M_X12_ran S 12) (fun w6 => Option.bind (M_X12_goesBy w6 x1 x2) (fun w7 => zg (zin x1 6) (Option.bind (M_X12_livesBy w7.2 x1 ((x2 - (zar w7.2 5 (Int32.toNatClampNeg x1))))) (fun w9 => (if x3 = 4 then some ((-((w7.1 ^^^ w9.1))), w9.2) else (if x3 = 5 then some (((-((w7.1 ^^^ w9.1))) ^^^ 5), w9.2) else some ((w7.1 ^^^ w9.1), w9.2)))))))
set_option maxHeartbeats 4000000 in
set_option maxRecDepth 100000 in
theorem t_X12_looksBy_B34 {p : Program} {l : Launch} {e : Env} {s : State} {m : MethodId} {args : Array Value} {below : List Frame} {meth : Method} {c : Code} {D : va_G} {Y : Nat → ClassId} {F : Nat → Nat} {A : Nat → Prop} {G : zG} (C0 : zCx p s m args meth c D Y F A RX12 cX12_looksBy 6 (some .int) wsX12_looksBy) (res : Int32 × zSt) : ∀ (S : zSt) (x1 : Int32) (x2 : Int32) (x3 : Int32), M_X12_looksBy_B34 S x1 x2 x3 = some res → ∀ (H : Heap) (locs : List Loc) (ls : Array Slot), zH D Y F A G S H → va_S A s.heap H locs → lv_has ls 6 [(0, .ref (F 0)), (1, .int x1), (2, .int x2), (3, .int x3)] → W p l e (zRm 3 70) s m args below meth c H locs 0 0 (MQ below (zQi D Y F A G res) args s 0 0 A) (F0 m 34 ls []) := by
  obtain ⟨hx, hb, hml, hr, hown, hts, hK, hA, hlk, hN⟩ := id C0
  intro S x1 x2 x3 h H locs ls hw hS hl
  unfold M_X12_looksBy_B34 at h
  refine lv_aload_n hx hb dX12_looksBy_34 rfl (lv_at hl 0 rfl) ?_
  refine lv_bipush (v := 12) hx hb dX12_looksBy_35 (by decide) ?_
  obtain ⟨w6, ew6, h⟩ := z_bd h
  refine z_callVv0 C0 hw hS (k := 0) (As := [.int 12]) (rest := []) rfl rfl rfl rfl (c_X12_ran l D Y F G S _ 12 w6 ew6) (cwV 1 hts gX12_looksBy_X12_ran rfl rfl rfl (by decide +kernel) ⟨Nat.le_of_ble_eq_true rfl, Nat.le_of_ble_eq_true rfl⟩) rfl hl.1 rfl (Nat.le_of_ble_eq_true rfl) dX12_looksBy_37 ⟨Nat.zero_le _, Nat.zero_le _⟩ (fun H locs hw hS => ?_)
  refine lv_aload_n hx hb dX12_looksBy_40 rfl (lv_at hl 0 rfl) ?_
  refine lv_iload_n hx hb dX12_looksBy_41 rfl (lv_at hl 1 rfl) ?_
  refine lv_iload_n hx hb dX12_looksBy_42 rfl (lv_at hl 2 rfl) ?_
  obtain ⟨w7, ew7, h⟩ := z_bd h
  refine z_callVi0 C0 hw hS (k := 0) (As := [.int x1, .int x2]) (rest := []) rfl rfl rfl rfl (c_X12_goesBy l D Y F G w6 _ x1 x2 w7 ew7) (cwV 2 hts gX12_looksBy_X12_goesBy rfl rfl rfl (by decide +kernel) ⟨Nat.le_of_ble_eq_true rfl, Nat.le_of_ble_eq_true rfl⟩) rfl hl.1 rfl (Nat.le_of_ble_eq_true rfl) dX12_looksBy_43 ⟨Nat.zero_le _, Nat.zero_le _⟩ (fun H locs hw hS => ?_)
  refine lv_istore (lv' := [(4, .int w7.1), (0, .ref (F 0)), (1, .int x1), (2, .int x2), (3, .int x3)]) hx hb dX12_looksBy_46 hl (by decide) rfl (fun ls hl => ?_)
  refine lv_iload hx hb dX12_looksBy_48 (lv_at hl 0 rfl) ?_
  refine lv_aload_n hx hb dX12_looksBy_50 rfl (lv_at hl 1 rfl) ?_
  refine lv_iload_n hx hb dX12_looksBy_51 rfl (lv_at hl 2 rfl) ?_
  refine lv_iload_n hx hb dX12_looksBy_52 rfl (lv_at hl 3 rfl) ?_
  refine lv_aload_n hx hb dX12_looksBy_53 rfl (lv_at hl 1 rfl) ?_
  refine z_get C0 in_X12_looksBy_X12 (C := RX12) (T := TX12) (N := 27) hw (k := 0) (ci := 12) (v := .ref (F 5)) rfl rfl rfl rfl 5 (by decide) rfl 2 rfl dX12_looksBy_54 ?_
  refine lv_iload_n hx hb dX12_looksBy_57 rfl (lv_at hl 2 rfl) ?_
  obtain ⟨b8, h⟩ := z_gd h
  refine z_iald C0 hw 5 rfl rfl zri_5 (zin_in b8) dX12_looksBy_58 ?_
  refine lv_isub hx hb dX12_looksBy_59 ?_
  obtain ⟨w9, ew9, h⟩ := z_bd h
  refine z_callVi0 C0 hw hS (k := 0) (As := [.int x1, .int ((x2 - (zar w7.2 5 (Int32.toNatClampNeg x1))))]) (rest := [.int w7.1]) rfl rfl rfl rfl (c_X12_livesBy l D Y F G w7.2 _ x1 ((x2 - (zar w7.2 5 (Int32.toNatClampNeg x1)))) w9 ew9) (cwV 2 hts gX12_looksBy_X12_livesBy rfl rfl rfl (by decide +kernel) ⟨Nat.le_of_ble_eq_true rfl, Nat.le_of_ble_eq_true rfl⟩) rfl hl.1 rfl (Nat.le_of_ble_eq_true rfl) dX12_looksBy_60 ⟨Nat.zero_le _, Nat.zero_le _⟩ (fun H locs hw hS => ?_)
  refine lv_ixor hx hb dX12_looksBy_63 ?_
  refine lv_istore (lv' := [(5, .int ((w7.1 ^^^ w9.1))), (4, .int w7.1), (0, .ref (F 0)), (1, .int x1), (2, .int x2), (3, .int x3)]) hx hb dX12_looksBy_64 hl (by decide) rfl (fun ls hl => ?_)
  refine lv_iload_n hx hb dX12_looksBy_66 rfl (lv_at hl 5 rfl) ?_
  refine lv_iconst (v := 4) hx hb dX12_looksBy_67 (by decide) ?_
  refine lv_icmp_ne (tgt := 77) hx hb dX12_looksBy_68 (by decide) (fun c10 => ?_) (fun c10 => ?_)
  · replace h := z_ifn c10 h
    refine lv_iload_n hx hb dX12_looksBy_77 rfl (lv_at hl 5 rfl) ?_
    refine lv_iconst (v := 5) hx hb dX12_looksBy_78 (by decide) ?_
    refine lv_icmp_ne (tgt := 90) hx hb dX12_looksBy_79 (by decide) (fun c11 => ?_) (fun c11 => ?_)
    · replace h := z_ifn c11 h
      refine lv_iload hx hb dX12_looksBy_90 (lv_at hl 0 rfl) ?_
      exact z_reti C0 hw hS (Option.some.inj h) dX12_looksBy_92
    · replace h := z_ifp c11 h
      refine lv_iload hx hb dX12_looksBy_82 (lv_at hl 0 rfl) ?_
      refine lv_ineg hx hb dX12_looksBy_84 ?_
      refine lv_iconst (v := 5) hx hb dX12_looksBy_85 (by decide) ?_
      refine lv_ixor hx hb dX12_looksBy_86 ?_
      refine lv_goto (tgt := 92) hx hb dX12_looksBy_87 (by decide) ?_
      exact z_reti C0 hw hS (Option.some.inj h) dX12_looksBy_92
  · replace h := z_ifp c10 h
    refine lv_iload hx hb dX12_looksBy_71 (lv_at hl 0 rfl) ?_
    refine lv_ineg hx hb dX12_looksBy_73 ?_
    refine lv_goto (tgt := 92) hx hb dX12_looksBy_74 (by decide) ?_
    exact z_reti C0 hw hS (Option.some.inj h) dX12_looksBy_92
def M_X12_looksBy_B28 (S : zSt) (x1 : Int32) (x2 : Int32) (x3 : Int32) : Option (Int32 × zSt) :=
  Option.bind (M_X12_ran S 50) (fun w5 => M_X12_looksBy_B34 w5 x1 x2 x3)
set_option maxHeartbeats 4000000 in
set_option maxRecDepth 100000 in
theorem t_X12_looksBy_B28 {p : Program} {l : Launch} {e : Env} {s : State} {m : MethodId} {args : Array Value} {below : List Frame} {meth : Method} {c : Code} {D : va_G} {Y : Nat → ClassId} {F : Nat → Nat} {A : Nat → Prop} {G : zG} (C0 : zCx p s m args meth c D Y F A RX12 cX12_looksBy 6 (some .int) wsX12_looksBy) (res : Int32 × zSt) : ∀ (S : zSt) (x1 : Int32) (x2 : Int32) (x3 : Int32), M_X12_looksBy_B28 S x1 x2 x3 = some res → ∀ (H : Heap) (locs : List Loc) (ls : Array Slot), zH D Y F A G S H → va_S A s.heap H locs → lv_has ls 6 [(0, .ref (F 0)), (1, .int x1), (2, .int x2), (3, .int x3)] → W p l e (zRm 3 70) s m args below meth c H locs 0 0 (MQ below (zQi D Y F A G res) args s 0 0 A) (F0 m 28 ls []) := by
  obtain ⟨hx, hb, hml, hr, hown, hts, hK, hA, hlk, hN⟩ := id C0
  intro S x1 x2 x3 h H locs ls hw hS hl
  unfold M_X12_looksBy_B28 at h
  refine lv_aload_n hx hb dX12_looksBy_28 rfl (lv_at hl 0 rfl) ?_
  refine lv_bipush (v := 50) hx hb dX12_looksBy_29 (by decide) ?_
  obtain ⟨w5, ew5, h⟩ := z_bd h
  refine z_callVv0 C0 hw hS (k := 0) (As := [.int 50]) (rest := []) rfl rfl rfl rfl (c_X12_ran l D Y F G S _ 50 w5 ew5) (cwV 1 hts gX12_looksBy_X12_ran rfl rfl rfl (by decide +kernel) ⟨Nat.le_of_ble_eq_true rfl, Nat.le_of_ble_eq_true rfl⟩) rfl hl.1 rfl (Nat.le_of_ble_eq_true rfl) dX12_looksBy_31 ⟨Nat.zero_le _, Nat.zero_le _⟩ (fun H locs hw hS => ?_)
  exact t_X12_looksBy_B34 C0 res w5 x1 x2 x3 h _ _ _ hw hS (lv_sub hl [0, 1, 2, 3] rfl)
def M_X12_looksBy_B18 (S : zSt) (x1 : Int32) (x2 : Int32) (x3 : Int32) : Option (Int32 × zSt) :=
  (if x3 = 4 then M_X12_looksBy_B28 S x1 x2 x3 else (if x3 = 5 then M_X12_looksBy_B28 S x1 x2 x3 else M_X12_looksBy_B34 S x1 x2 x3))
set_option maxHeartbeats 4000000 in
set_option maxRecDepth 100000 in
theorem t_X12_looksBy_B18 {p : Program} {l : Launch} {e : Env} {s : State} {m : MethodId} {args : Array Value} {below : List Frame} {meth : Method} {c : Code} {D : va_G} {Y : Nat → ClassId} {F : Nat → Nat} {A : Nat → Prop} {G : zG} (C0 : zCx p s m args meth c D Y F A RX12 cX12_looksBy 6 (some .int) wsX12_looksBy) (res : Int32 × zSt) : ∀ (S : zSt) (x1 : Int32) (x2 : Int32) (x3 : Int32), M_X12_looksBy_B18 S x1 x2 x3 = some res → ∀ (H : Heap) (locs : List Loc) (ls : Array Slot), zH D Y F A G S H → va_S A s.heap H locs → lv_has ls 6 [(0, .ref (F 0)), (1, .int x1), (2, .int x2), (3, .int x3)] → W p l e (zRm 3 70) s m args below meth c H locs 0 0 (MQ below (zQi D Y F A G res) args s 0 0 A) (F0 m 18 ls []) := by
  obtain ⟨hx, hb, hml, hr, hown, hts, hK, hA, hlk, hN⟩ := id C0
  intro S x1 x2 x3 h H locs ls hw hS hl
  unfold M_X12_looksBy_B18 at h
  refine lv_iload_n hx hb dX12_looksBy_18 rfl (lv_at hl 3 rfl) ?_
  refine lv_iconst (v := 4) hx hb dX12_looksBy_19 (by decide) ?_
  refine lv_icmp_eq (tgt := 28) hx hb dX12_looksBy_20 (by decide) (fun c4 => ?_) (fun c4 => ?_)
  · replace h := z_ifp c4 h
    exact t_X12_looksBy_B28 C0 res S x1 x2 x3 h _ _ _ hw hS (lv_sub hl [0, 1, 2, 3] rfl)
  · replace h := z_ifn c4 h
    refine lv_iload_n hx hb dX12_looksBy_23 rfl (lv_at hl 3 rfl) ?_
    refine lv_iconst (v := 5) hx hb dX12_looksBy_24 (by decide) ?_
    refine lv_icmp_ne (tgt := 34) hx hb dX12_looksBy_25 (by decide) (fun c12 => ?_) (fun c12 => ?_)
    · replace h := z_ifn c12 h
      exact t_X12_looksBy_B34 C0 res S x1 x2 x3 h _ _ _ hw hS (lv_sub hl [0, 1, 2, 3] rfl)
    · replace h := z_ifp c12 h
      exact t_X12_looksBy_B28 C0 res S x1 x2 x3 h _ _ _ hw hS (lv_sub hl [0, 1, 2, 3] rfl)
def M_X12_looksBy (S : zSt) (x1 : Int32) (x2 : Int32) : Option (Int32 × zSt) :=
  zg (zin x1 6) (Option.bind (some ((zar S 4 (Int32.toNatClampNeg x1)))) (fun v2 => (if v2 = 5 then Option.bind (M_X12_ran S 60) (fun w13 => M_X12_looksBy_B18 w13 x1 x2 v2) else M_X12_looksBy_B18 S x1 x2 v2)))
set_option maxHeartbeats 4000000 in
set_option maxRecDepth 100000 in
theorem c_X12_looksBy (l : Launch) (D : va_G) (Y : Nat → ClassId) (F : Nat → Nat) (G : zG) (S : zSt) (sz : Nat) (x1 : Int32) (x2 : Int32) (res : Int32 × zSt) (h : M_X12_looksBy S x1 x2 = some res) : Met l yX12_looksBy wsX12_looksBy (zRm 3 70) (zPc D Y F G S sz [.ref (F 0), .int x1, .int x2]) (zQi D Y F (zAo F G sz) G res) 0 0 (zAo F G sz) := by
  unfold M_X12_looksBy at h
  refine zMet (cc := cX12_looksBy) (maxL := 6) (ret := (some .int)) (own := RX12) (by decide +kernel) rfl rfl (Nat.le_of_ble_eq_true rfl) ?_
  intro p e s m args below meth c C0 hin hw hS ls hl
  have hl : lv_has ls 6 [(0, .ref (F 0)), (1, .int x1), (2, .int x2)] := hl
  generalize zAo F G sz = A at C0 hw hS ⊢
  obtain ⟨hx, hb, hml, hr, hown, hts, hK, hA, hlk, hN⟩ := id C0
  refine lv_aload_n hx hb dX12_looksBy_0 rfl (lv_at hl 0 rfl) ?_
  refine z_get C0 in_X12_looksBy_X12 (C := RX12) (T := TX12) (N := 27) hw (k := 0) (ci := 12) (v := .ref (F 4)) rfl rfl rfl rfl 4 (by decide) rfl 1 rfl dX12_looksBy_1 ?_
  refine lv_iload_n hx hb dX12_looksBy_4 rfl (lv_at hl 1 rfl) ?_
  obtain ⟨b1, h⟩ := z_gd h
  refine z_iald C0 hw 4 rfl rfl zri_4 (zin_in b1) dX12_looksBy_5 ?_
  obtain ⟨v2, ev2, h⟩ := z_bd h
  refine z_top (Option.some.inj ev2) ?_
  refine lv_istore_n (lv' := [(3, .int v2), (0, .ref (F 0)), (1, .int x1), (2, .int x2)]) hx hb dX12_looksBy_6 rfl hl (by decide) rfl (fun ls hl => ?_)
  refine lv_iload_n hx hb dX12_looksBy_7 rfl (lv_at hl 0 rfl) ?_
  refine lv_iconst (v := 5) hx hb dX12_looksBy_8 (by decide) ?_
  refine lv_icmp_ne (tgt := 18) hx hb dX12_looksBy_9 (by decide) (fun c3 => ?_) (fun c3 => ?_)
  · replace h := z_ifn c3 h
    exact t_X12_looksBy_B18 C0 res S x1 x2 v2 h _ _ _ hw hS (lv_sub hl [1, 2, 3, 0] rfl)
  · replace h := z_ifp c3 h
    refine lv_aload_n hx hb dX12_looksBy_12 rfl (lv_at hl 1 rfl) ?_
    refine lv_bipush (v := 60) hx hb dX12_looksBy_13 (by decide) ?_
    obtain ⟨w13, ew13, h⟩ := z_bd h
    refine z_callVv0 C0 hw hS (k := 0) (As := [.int 60]) (rest := []) rfl rfl rfl rfl (c_X12_ran l D Y F G S _ 60 w13 ew13) (cwV 1 hts gX12_looksBy_X12_ran rfl rfl rfl (by decide +kernel) ⟨Nat.le_of_ble_eq_true rfl, Nat.le_of_ble_eq_true rfl⟩) rfl hl.1 rfl (Nat.le_of_ble_eq_true rfl) dX12_looksBy_15 ⟨Nat.zero_le _, Nat.zero_le _⟩ (fun H locs hw hS => ?_)
    exact t_X12_looksBy_B18 C0 res w13 x1 x2 v2 h _ _ _ hw hS (lv_sub hl [1, 2, 3, 0] rfl)
def M_X12_act (S : zSt) (x1 : Int32) (x2 : Int32) (x3 : Int32) : Option (Int32 × zSt) :=
  Option.bind (M_X12_isPerson ((zP S 0 17 0)) x1) (fun w1 => (if w1 = 0 then some (0, (zP S 0 17 0)) else Option.bind (M_X12_within ((zP S 0 17 0)) x2 0 2) (fun w3 => (if w3 = 0 then some (0, (zP S 0 17 0)) else (if x2 = 0 then Option.bind (M_X12_livesBy ((zP S 0 17 0)) x1 x3) (fun w9 => some (w9.1, w9.2)) else (if x2 = 1 then Option.bind (M_X12_goesBy ((zP S 0 17 0)) x1 x3) (fun w8 => some (w8.1, w8.2)) else Option.bind (M_X12_looksBy ((zP S 0 17 0)) x1 x3) (fun w7 => some (w7.1, w7.2))))))))
set_option maxHeartbeats 4000000 in
set_option maxRecDepth 100000 in
theorem c_X12_act (l : Launch) (D : va_G) (Y : Nat → ClassId) (F : Nat → Nat) (G : zG) (S : zSt) (sz : Nat) (x1 : Int32) (x2 : Int32) (x3 : Int32) (res : Int32 × zSt) (h : M_X12_act S x1 x2 x3 = some res) : Met l yX12_act wsX12_act (zRm 4 95) (zPc D Y F G S sz [.ref (F 0), .int x1, .int x2, .int x3]) (zQi D Y F (zAo F G sz) G res) 0 0 (zAo F G sz) := by
  unfold M_X12_act at h
  refine zMet (cc := cX12_act) (maxL := 4) (ret := (some .int)) (own := RX12) (by decide +kernel) rfl rfl (Nat.le_of_ble_eq_true rfl) ?_
  intro p e s m args below meth c C0 hin hw hS ls hl
  have hl : lv_has ls 4 [(0, .ref (F 0)), (1, .int x1), (2, .int x2), (3, .int x3)] := hl
  generalize zAo F G sz = A at C0 hw hS ⊢
  obtain ⟨hx, hb, hml, hr, hown, hts, hK, hA, hlk, hN⟩ := id C0
  refine lv_aload_n hx hb dX12_act_0 rfl (lv_at hl 0 rfl) ?_
  refine lv_iconst (v := 0) hx hb dX12_act_1 (by decide) ?_
  refine z_put C0 in_X12_act_X12 tyX12 tyX12_ok nmX12 (C := RX12) (T := TX12) (N := 27) hw hS (k := 0) (ci := 12) (v := 0) (ty := .int) rfl rfl rfl rfl 17 (by decide) 1 rfl rfl rfl rfl rfl (Nat.le_of_ble_eq_true rfl) rfl dX12_act_2 (fun H locs hw hS => ?_)
  refine lv_aload_n hx hb dX12_act_5 rfl (lv_at hl 0 rfl) ?_
  refine lv_iload_n hx hb dX12_act_6 rfl (lv_at hl 1 rfl) ?_
  obtain ⟨w1, ew1, h⟩ := z_bd h
  refine z_callVip C0 hw hS (k := 0) (As := [.int x1]) (rest := []) rfl rfl rfl rfl (c_X12_isPerson l D Y F G ((zP S 0 17 0)) _ x1 w1 ew1) (cwV 1 hts gX12_act_X12_isPerson rfl rfl rfl (by decide +kernel) ⟨Nat.le_of_ble_eq_true rfl, Nat.le_of_ble_eq_true rfl⟩) rfl hl.1 rfl (Nat.le_of_ble_eq_true rfl) dX12_act_7 ⟨Nat.zero_le _, Nat.zero_le _⟩ (fun H locs hw hS => ?_)
  refine lv_if_eq (tgt := 22) hx hb dX12_act_10 (by decide) (fun c2 => ?_) (fun c2 => ?_)
  · replace h := z_ifp c2 h
    refine lv_iconst (v := 0) hx hb dX12_act_22 (by decide) ?_
    exact z_reti C0 hw hS (Option.some.inj h) dX12_act_23
  · replace h := z_ifn c2 h
    refine lv_iload_n hx hb dX12_act_13 rfl (lv_at hl 2 rfl) ?_
    refine lv_iconst (v := 0) hx hb dX12_act_14 (by decide) ?_
    refine lv_iconst (v := 2) hx hb dX12_act_15 (by decide) ?_
    obtain ⟨w3, ew3, h⟩ := z_bd h
    refine z_callSip C0 hw hS (As := [.int x2, .int 0, .int 2]) (rest := []) (c_X12_within l D Y F G ((zP S 0 17 0)) _ x2 0 2 w3 ew3) (va_cwS 3 hts gX12_act_X12_within rfl rfl rfl (by decide +kernel) ⟨Nat.le_of_ble_eq_true rfl, Nat.le_of_ble_eq_true rfl⟩) rfl hl.1 rfl (Nat.le_of_ble_eq_true rfl) dX12_act_16 ⟨Nat.zero_le _, Nat.zero_le _⟩ (fun H locs hw hS => ?_)
    refine lv_if_ne (tgt := 24) hx hb dX12_act_19 (by decide) (fun c4 => ?_) (fun c4 => ?_)
    · replace h := z_ifn c4 h
      refine lv_iload_n hx hb dX12_act_24 rfl (lv_at hl 2 rfl) ?_
      refine lv_if_ne (tgt := 37) hx hb dX12_act_25 (by decide) (fun c5 => ?_) (fun c5 => ?_)
      · replace h := z_ifn c5 h
        refine lv_iload_n hx hb dX12_act_37 rfl (lv_at hl 2 rfl) ?_
        refine lv_iconst (v := 1) hx hb dX12_act_38 (by decide) ?_
        refine lv_icmp_ne (tgt := 51) hx hb dX12_act_39 (by decide) (fun c6 => ?_) (fun c6 => ?_)
        · replace h := z_ifn c6 h
          refine lv_aload_n hx hb dX12_act_51 rfl (lv_at hl 0 rfl) ?_
          refine lv_iload_n hx hb dX12_act_52 rfl (lv_at hl 1 rfl) ?_
          refine lv_iload_n hx hb dX12_act_53 rfl (lv_at hl 3 rfl) ?_
          obtain ⟨w7, ew7, h⟩ := z_bd h
          refine z_callVi0 C0 hw hS (k := 0) (As := [.int x1, .int x3]) (rest := []) rfl rfl rfl rfl (c_X12_looksBy l D Y F G ((zP S 0 17 0)) _ x1 x3 w7 ew7) (cwV 2 hts gX12_act_X12_looksBy rfl rfl rfl (by decide +kernel) ⟨Nat.le_of_ble_eq_true rfl, Nat.le_of_ble_eq_true rfl⟩) rfl hl.1 rfl (Nat.le_of_ble_eq_true rfl) dX12_act_54 ⟨Nat.zero_le _, Nat.zero_le _⟩ (fun H locs hw hS => ?_)
          exact z_reti C0 hw hS (Option.some.inj h) dX12_act_57
        · replace h := z_ifp c6 h
          refine lv_aload_n hx hb dX12_act_42 rfl (lv_at hl 0 rfl) ?_
          refine lv_iload_n hx hb dX12_act_43 rfl (lv_at hl 1 rfl) ?_
          refine lv_iload_n hx hb dX12_act_44 rfl (lv_at hl 3 rfl) ?_
          obtain ⟨w8, ew8, h⟩ := z_bd h
          refine z_callVi0 C0 hw hS (k := 0) (As := [.int x1, .int x3]) (rest := []) rfl rfl rfl rfl (c_X12_goesBy l D Y F G ((zP S 0 17 0)) _ x1 x3 w8 ew8) (cwV 2 hts gX12_act_X12_goesBy rfl rfl rfl (by decide +kernel) ⟨Nat.le_of_ble_eq_true rfl, Nat.le_of_ble_eq_true rfl⟩) rfl hl.1 rfl (Nat.le_of_ble_eq_true rfl) dX12_act_45 ⟨Nat.zero_le _, Nat.zero_le _⟩ (fun H locs hw hS => ?_)
          refine lv_goto (tgt := 57) hx hb dX12_act_48 (by decide) ?_
          exact z_reti C0 hw hS (Option.some.inj h) dX12_act_57
      · replace h := z_ifp c5 h
        refine lv_aload_n hx hb dX12_act_28 rfl (lv_at hl 0 rfl) ?_
        refine lv_iload_n hx hb dX12_act_29 rfl (lv_at hl 1 rfl) ?_
        refine lv_iload_n hx hb dX12_act_30 rfl (lv_at hl 3 rfl) ?_
        obtain ⟨w9, ew9, h⟩ := z_bd h
        refine z_callVi0 C0 hw hS (k := 0) (As := [.int x1, .int x3]) (rest := []) rfl rfl rfl rfl (c_X12_livesBy l D Y F G ((zP S 0 17 0)) _ x1 x3 w9 ew9) (cwV 2 hts gX12_act_X12_livesBy rfl rfl rfl (by decide +kernel) ⟨Nat.le_of_ble_eq_true rfl, Nat.le_of_ble_eq_true rfl⟩) rfl hl.1 rfl (Nat.le_of_ble_eq_true rfl) dX12_act_31 ⟨Nat.zero_le _, Nat.zero_le _⟩ (fun H locs hw hS => ?_)
        refine lv_goto (tgt := 57) hx hb dX12_act_34 (by decide) ?_
        exact z_reti C0 hw hS (Option.some.inj h) dX12_act_57
    · replace h := z_ifp c4 h
      refine lv_iconst (v := 0) hx hb dX12_act_22 (by decide) ?_
      exact z_reti C0 hw hS (Option.some.inj h) dX12_act_23
def M_X12_trace (S : zSt) (x1 : Int32) : Option (Int32) :=
  (if x1 < 0 then some (-1) else (if (zsc S 0 17) ≤ x1 then some (-1) else (if 20 ≤ x1 then some (-1) else zg (zin x1 20) (some ((zar S 12 (Int32.toNatClampNeg x1)))))))
set_option maxHeartbeats 4000000 in
set_option maxRecDepth 100000 in
theorem c_X12_trace (l : Launch) (D : va_G) (Y : Nat → ClassId) (F : Nat → Nat) (G : zG) (S : zSt) (sz : Nat) (x1 : Int32) (res : Int32) (h : M_X12_trace S x1 = some res) : Met l yX12_trace wsX12_trace (zRm 0 0) (zPc D Y F G S sz [.ref (F 0), .int x1]) (zQi D Y F (zAo F G sz) G (res, S)) 0 0 (zAo F G sz) := by
  unfold M_X12_trace at h
  refine zMet (cc := cX12_trace) (maxL := 2) (ret := (some .int)) (own := RX12) (by decide +kernel) rfl rfl (Nat.le_of_ble_eq_true rfl) ?_
  intro p e s m args below meth c C0 hin hw hS ls hl
  have hl : lv_has ls 2 [(0, .ref (F 0)), (1, .int x1)] := hl
  generalize zAo F G sz = A at C0 hw hS ⊢
  obtain ⟨hx, hb, hml, hr, hown, hts, hK, hA, hlk, hN⟩ := id C0
  refine lv_iload_n hx hb dX12_trace_0 rfl (lv_at hl 1 rfl) ?_
  refine lv_if_lt (tgt := 27) hx hb dX12_trace_1 (by decide) (fun c1 => ?_) (fun c1 => ?_)
  · replace h := z_ifp c1 h
    refine lv_iconst (v := (-1)) hx hb dX12_trace_27 (by decide) ?_
    exact z_reti C0 hw hS (congrArg (fun z => (z, S)) (Option.some.inj h)) dX12_trace_28
  · replace h := z_ifn c1 h
    refine lv_iload_n hx hb dX12_trace_4 rfl (lv_at hl 1 rfl) ?_
    refine lv_aload_n hx hb dX12_trace_5 rfl (lv_at hl 0 rfl) ?_
    refine z_get C0 in_X12_trace_X12 (C := RX12) (T := TX12) (N := 27) hw (k := 0) (ci := 12) (v := .int ((zsc S 0 17))) rfl rfl rfl rfl 17 (by decide) rfl 1 rfl dX12_trace_6 ?_
    refine lv_icmp_ge (tgt := 27) hx hb dX12_trace_9 (by decide) (fun c2 => ?_) (fun c2 => ?_)
    · replace h := z_ifp c2 h
      refine lv_iconst (v := (-1)) hx hb dX12_trace_27 (by decide) ?_
      exact z_reti C0 hw hS (congrArg (fun z => (z, S)) (Option.some.inj h)) dX12_trace_28
    · replace h := z_ifn c2 h
      refine lv_iload_n hx hb dX12_trace_12 rfl (lv_at hl 1 rfl) ?_
      refine lv_bipush (v := 20) hx hb dX12_trace_13 (by decide) ?_
      refine lv_icmp_ge (tgt := 27) hx hb dX12_trace_15 (by decide) (fun c3 => ?_) (fun c3 => ?_)
      · replace h := z_ifp c3 h
        refine lv_iconst (v := (-1)) hx hb dX12_trace_27 (by decide) ?_
        exact z_reti C0 hw hS (congrArg (fun z => (z, S)) (Option.some.inj h)) dX12_trace_28
      · replace h := z_ifn c3 h
        refine lv_aload_n hx hb dX12_trace_18 rfl (lv_at hl 0 rfl) ?_
        refine z_get C0 in_X12_trace_X12 (C := RX12) (T := TX12) (N := 27) hw (k := 0) (ci := 12) (v := .ref (F 12)) rfl rfl rfl rfl 18 (by decide) rfl 2 rfl dX12_trace_19 ?_
        refine lv_iload_n hx hb dX12_trace_22 rfl (lv_at hl 1 rfl) ?_
        obtain ⟨b4, h⟩ := z_gd h
        refine z_iald C0 hw 12 rfl rfl zri_12 (zin_in b4) dX12_trace_23 ?_
        refine lv_goto (tgt := 28) hx hb dX12_trace_24 (by decide) ?_
        exact z_reti C0 hw hS (congrArg (fun z => (z, S)) (Option.some.inj h)) dX12_trace_28
def M_X12_image (S : zSt) : Option (Int32 × zSt) :=
  Option.bind (M_X12_keep ((zP S 0 20 1)) 14) (fun w1 => some ((zsc w1 0 3), w1))
set_option maxHeartbeats 4000000 in
set_option maxRecDepth 100000 in
theorem c_X12_image (l : Launch) (D : va_G) (Y : Nat → ClassId) (F : Nat → Nat) (G : zG) (S : zSt) (sz : Nat) (res : Int32 × zSt) (h : M_X12_image S = some res) : Met l yX12_image wsX12_image (zRm 1 22) (zPc D Y F G S sz [.ref (F 0)]) (zQi D Y F (zAo F G sz) G res) 0 0 (zAo F G sz) := by
  unfold M_X12_image at h
  refine zMet (cc := cX12_image) (maxL := 1) (ret := (some .int)) (own := RX12) (by decide +kernel) rfl rfl (Nat.le_of_ble_eq_true rfl) ?_
  intro p e s m args below meth c C0 hin hw hS ls hl
  have hl : lv_has ls 1 [(0, .ref (F 0))] := hl
  generalize zAo F G sz = A at C0 hw hS ⊢
  obtain ⟨hx, hb, hml, hr, hown, hts, hK, hA, hlk, hN⟩ := id C0
  refine lv_aload_n hx hb dX12_image_0 rfl (lv_at hl 0 rfl) ?_
  refine lv_iconst (v := 1) hx hb dX12_image_1 (by decide) ?_
  refine z_put C0 in_X12_image_X12 tyX12 tyX12_ok nmX12 (C := RX12) (T := TX12) (N := 27) hw hS (k := 0) (ci := 12) (v := 1) (ty := .boolean) rfl rfl rfl rfl 20 (by decide) 1 rfl rfl rfl rfl rfl (Nat.le_of_ble_eq_true rfl) rfl dX12_image_2 (fun H locs hw hS => ?_)
  refine lv_aload_n hx hb dX12_image_5 rfl (lv_at hl 0 rfl) ?_
  refine lv_aload_n hx hb dX12_image_6 rfl (lv_at hl 0 rfl) ?_
  refine z_get C0 in_X12_image_X12 (C := RX12) (T := TX12) (N := 27) hw (k := 0) (ci := 12) (v := .ref (F 14)) rfl rfl rfl rfl 21 (by decide) rfl 2 rfl dX12_image_7 ?_
  obtain ⟨w1, ew1, h⟩ := z_bd h
  refine z_callVv0 C0 hw hS (k := 0) (As := [.ref (F 14)]) (rest := []) rfl rfl rfl rfl (c_X12_keep l D Y F G ((zP S 0 20 1)) _ 14 (Or.inl rfl) w1 ew1) (cwV 1 hts gX12_image_X12_keep rfl rfl rfl (by decide +kernel) ⟨Nat.le_of_ble_eq_true rfl, Nat.le_of_ble_eq_true rfl⟩) rfl hl.1 rfl (Nat.le_of_ble_eq_true rfl) dX12_image_10 ⟨Nat.zero_le _, Nat.zero_le _⟩ (fun H locs hw hS => ?_)
  refine lv_aload_n hx hb dX12_image_13 rfl (lv_at hl 0 rfl) ?_
  refine z_get C0 in_X12_image_X12 (C := RX12) (T := TX12) (N := 27) hw (k := 0) (ci := 12) (v := .int ((zsc w1 0 3))) rfl rfl rfl rfl 3 (by decide) rfl 3 rfl dX12_image_14 ?_
  exact z_reti C0 hw hS (Option.some.inj h) dX12_image_17
def M_X12_restore_B24 : Nat → zSt → Int32 → Option (Int32 × zSt)
  | 0, _, _ => none
  | n + 1, S, x1 =>
  (if 8 ≤ x1 then some ((zsc S 0 3), S) else Option.bind (M_X12_isRow S x1) (fun w4 => (if w4 = 0 then zg (zin x1 8) ((if (zar S 1 (Int32.toNatClampNeg x1)) < (zsc S 0 3) then M_X12_restore_B24 n S ((x1 + 1)) else zg (zin x1 8) (M_X12_restore_B24 n ((zAs S 1 (Int32.toNatClampNeg x1) (-1))) ((x1 + 1))))) else M_X12_restore_B24 n S ((x1 + 1)))))
set_option maxHeartbeats 4000000 in
set_option maxRecDepth 100000 in
theorem t_X12_restore_B24 {p : Program} {l : Launch} {e : Env} {s : State} {m : MethodId} {args : Array Value} {below : List Frame} {meth : Method} {c : Code} {D : va_G} {Y : Nat → ClassId} {F : Nat → Nat} {A : Nat → Prop} {G : zG} (C0 : zCx p s m args meth c D Y F A RX12 cX12_restore 2 (some .int) wsX12_restore) (res : Int32 × zSt) : ∀ (n : Nat), ∀ (S : zSt) (x1 : Int32), M_X12_restore_B24 n S x1 = some res → ∀ (H : Heap) (locs : List Loc) (ls : Array Slot), zH D Y F A G S H → va_S A s.heap H locs → lv_has ls 2 [(0, .ref (F 0)), (1, .int x1)] → W p l e (zRm 1 22) s m args below meth c H locs 0 0 (MQ below (zQi D Y F A G res) args s 0 0 A) (F0 m 24 ls []) := by
  obtain ⟨hx, hb, hml, hr, hown, hts, hK, hA, hlk, hN⟩ := id C0
  intro n
  induction n with
  | zero =>
    intro S x1 h
    unfold M_X12_restore_B24 at h
    cases h
  | succ n ih =>
    intro S x1 h H locs ls hw hS hl
    rw [M_X12_restore_B24] at h
    refine lv_iload_n hx hb dX12_restore_24 rfl (lv_at hl 1 rfl) ?_
    refine lv_bipush (v := 8) hx hb dX12_restore_25 (by decide) ?_
    refine lv_icmp_ge (tgt := 64) hx hb dX12_restore_27 (by decide) (fun c3 => ?_) (fun c3 => ?_)
    · replace h := z_ifp c3 h
      refine lv_aload_n hx hb dX12_restore_64 rfl (lv_at hl 0 rfl) ?_
      refine z_get C0 in_X12_restore_X12 (C := RX12) (T := TX12) (N := 27) hw (k := 0) (ci := 12) (v := .int ((zsc S 0 3))) rfl rfl rfl rfl 3 (by decide) rfl 4 rfl dX12_restore_65 ?_
      exact z_reti C0 hw hS (Option.some.inj h) dX12_restore_68
    · replace h := z_ifn c3 h
      refine lv_aload_n hx hb dX12_restore_30 rfl (lv_at hl 0 rfl) ?_
      refine lv_iload_n hx hb dX12_restore_31 rfl (lv_at hl 1 rfl) ?_
      obtain ⟨w4, ew4, h⟩ := z_bd h
      refine z_callVip C0 hw hS (k := 0) (As := [.int x1]) (rest := []) rfl rfl rfl rfl (c_X12_isRow l D Y F G S _ x1 w4 ew4) (cwV 1 hts gX12_restore_X12_isRow rfl rfl rfl (by decide +kernel) ⟨Nat.le_of_ble_eq_true rfl, Nat.le_of_ble_eq_true rfl⟩) rfl hl.1 rfl (Nat.le_of_ble_eq_true rfl) dX12_restore_32 ⟨Nat.zero_le _, Nat.zero_le _⟩ (fun H locs hw hS => ?_)
      refine lv_if_ne (tgt := 58) hx hb dX12_restore_35 (by decide) (fun c5 => ?_) (fun c5 => ?_)
      · replace h := z_ifn c5 h
        refine lv_iinc (v := (x1 + 1)) (lv' := [(1, .int ((x1 + 1))), (0, .ref (F 0))]) hx hb dX12_restore_58 hl (k := 1) rfl rfl (by decide) rfl (fun ls hl => ?_)
        refine lv_goto (tgt := 24) hx hb dX12_restore_61 (by decide) ?_
        exact ih S ((x1 + 1)) h _ _ _ hw hS (lv_sub hl [1, 0] rfl)
      · replace h := z_ifp c5 h
        refine lv_aload_n hx hb dX12_restore_38 rfl (lv_at hl 0 rfl) ?_
        refine z_get C0 in_X12_restore_X12 (C := RX12) (T := TX12) (N := 27) hw (k := 0) (ci := 12) (v := .ref (F 1)) rfl rfl rfl rfl 0 (by decide) rfl 3 rfl dX12_restore_39 ?_
        refine lv_iload_n hx hb dX12_restore_42 rfl (lv_at hl 1 rfl) ?_
        obtain ⟨b6, h⟩ := z_gd h
        refine z_iald C0 hw 1 rfl rfl zri_1 (zin_in b6) dX12_restore_43 ?_
        refine lv_aload_n hx hb dX12_restore_44 rfl (lv_at hl 0 rfl) ?_
        refine z_get C0 in_X12_restore_X12 (C := RX12) (T := TX12) (N := 27) hw (k := 0) (ci := 12) (v := .int ((zsc S 0 3))) rfl rfl rfl rfl 3 (by decide) rfl 4 rfl dX12_restore_45 ?_
        refine lv_icmp_lt (tgt := 58) hx hb dX12_restore_48 (by decide) (fun c7 => ?_) (fun c7 => ?_)
        · replace h := z_ifp c7 h
          refine lv_iinc (v := (x1 + 1)) (lv' := [(1, .int ((x1 + 1))), (0, .ref (F 0))]) hx hb dX12_restore_58 hl (k := 1) rfl rfl (by decide) rfl (fun ls hl => ?_)
          refine lv_goto (tgt := 24) hx hb dX12_restore_61 (by decide) ?_
          exact ih S ((x1 + 1)) h _ _ _ hw hS (lv_sub hl [1, 0] rfl)
        · replace h := z_ifn c7 h
          refine lv_aload_n hx hb dX12_restore_51 rfl (lv_at hl 0 rfl) ?_
          refine z_get C0 in_X12_restore_X12 (C := RX12) (T := TX12) (N := 27) hw (k := 0) (ci := 12) (v := .ref (F 1)) rfl rfl rfl rfl 0 (by decide) rfl 3 rfl dX12_restore_52 ?_
          refine lv_iload_n hx hb dX12_restore_55 rfl (lv_at hl 1 rfl) ?_
          refine lv_iconst (v := (-1)) hx hb dX12_restore_56 (by decide) ?_
          obtain ⟨b8, h⟩ := z_gd h
          refine z_iasts C0 hw hS 1 rfl rfl zri_1 (zin_in b8) dX12_restore_57 (fun H locs hw hS => ?_)
          refine lv_iinc (v := (x1 + 1)) (lv' := [(1, .int ((x1 + 1))), (0, .ref (F 0))]) hx hb dX12_restore_58 hl (k := 1) rfl rfl (by decide) rfl (fun ls hl => ?_)
          refine lv_goto (tgt := 24) hx hb dX12_restore_61 (by decide) ?_
          exact ih ((zAs S 1 (Int32.toNatClampNeg x1) (-1))) ((x1 + 1)) h _ _ _ hw hS (lv_sub hl [1, 0] rfl)
def M_X12_restore (S : zSt) : Option (Int32 × zSt) :=
  (if (zsc S 0 20) = 0 then Option.bind (M_X12_no S (-6)) (fun w9 => some (w9.1, w9.2)) else Option.bind (M_X12_again S 14) (fun w2 => M_X12_restore_B24 zF w2 0))
set_option maxHeartbeats 4000000 in
set_option maxRecDepth 100000 in
theorem c_X12_restore (l : Launch) (D : va_G) (Y : Nat → ClassId) (F : Nat → Nat) (G : zG) (S : zSt) (sz : Nat) (res : Int32 × zSt) (h : M_X12_restore S = some res) : Met l yX12_restore wsX12_restore (zRm 1 22) (zPc D Y F G S sz [.ref (F 0)]) (zQi D Y F (zAo F G sz) G res) 0 0 (zAo F G sz) := by
  unfold M_X12_restore at h
  refine zMet (cc := cX12_restore) (maxL := 2) (ret := (some .int)) (own := RX12) (by decide +kernel) rfl rfl (Nat.le_of_ble_eq_true rfl) ?_
  intro p e s m args below meth c C0 hin hw hS ls hl
  have hl : lv_has ls 2 [(0, .ref (F 0))] := hl
  generalize zAo F G sz = A at C0 hw hS ⊢
  obtain ⟨hx, hb, hml, hr, hown, hts, hK, hA, hlk, hN⟩ := id C0
  refine lv_aload_n hx hb dX12_restore_0 rfl (lv_at hl 0 rfl) ?_
  refine z_get C0 in_X12_restore_X12 (C := RX12) (T := TX12) (N := 27) hw (k := 0) (ci := 12) (v := .int ((zsc S 0 20))) rfl rfl rfl rfl 20 (by decide) rfl 1 rfl dX12_restore_1 ?_
  refine lv_if_ne (tgt := 14) hx hb dX12_restore_4 (by decide) (fun c1 => ?_) (fun c1 => ?_)
  · replace h := z_ifn c1 h
    refine lv_aload_n hx hb dX12_restore_14 rfl (lv_at hl 0 rfl) ?_
    refine lv_aload_n hx hb dX12_restore_15 rfl (lv_at hl 0 rfl) ?_
    refine z_get C0 in_X12_restore_X12 (C := RX12) (T := TX12) (N := 27) hw (k := 0) (ci := 12) (v := .ref (F 14)) rfl rfl rfl rfl 21 (by decide) rfl 2 rfl dX12_restore_16 ?_
    obtain ⟨w2, ew2, h⟩ := z_bd h
    refine z_callVv0 C0 hw hS (k := 0) (As := [.ref (F 14)]) (rest := []) rfl rfl rfl rfl (c_X12_again l D Y F G S _ 14 (Or.inl rfl) w2 ew2) (cwV 1 hts gX12_restore_X12_again rfl rfl rfl (by decide +kernel) ⟨Nat.le_of_ble_eq_true rfl, Nat.le_of_ble_eq_true rfl⟩) rfl hl.1 rfl (Nat.le_of_ble_eq_true rfl) dX12_restore_19 ⟨Nat.zero_le _, Nat.zero_le _⟩ (fun H locs hw hS => ?_)
    refine lv_iconst (v := 0) hx hb dX12_restore_22 (by decide) ?_
    refine lv_istore_n (lv' := [(1, .int 0), (0, .ref (F 0))]) hx hb dX12_restore_23 rfl hl (by decide) rfl (fun ls hl => ?_)
    exact t_X12_restore_B24 C0 res zF w2 0 h _ _ _ hw hS (lv_sub hl [1, 0] rfl)
  · replace h := z_ifp c1 h
    refine lv_aload_n hx hb dX12_restore_7 rfl (lv_at hl 0 rfl) ?_
    refine lv_bipush (v := (-6)) hx hb dX12_restore_8 (by decide) ?_
    obtain ⟨w9, ew9, h⟩ := z_bd h
    refine z_callVi0 C0 hw hS (k := 0) (As := [.int (-6)]) (rest := []) rfl rfl rfl rfl (c_X12_no l D Y F G S _ (-6) w9 ew9) (cwV 1 hts gX12_restore_X12_no rfl rfl rfl (by decide +kernel) ⟨Nat.le_of_ble_eq_true rfl, Nat.le_of_ble_eq_true rfl⟩) rfl hl.1 rfl (Nat.le_of_ble_eq_true rfl) dX12_restore_10 ⟨Nat.zero_le _, Nat.zero_le _⟩ (fun H locs hw hS => ?_)
    exact z_reti C0 hw hS (Option.some.inj h) dX12_restore_13
def M_X12_status (S : zSt) (x1 : Int32) : Option (Int32) :=
  (if x1 = 0 then some ((zsc S 0 3)) else (if x1 = 1 then Option.bind (M_X12_allDead S) (fun w3 => some w3) else (if x1 = 2 then some ((zsc S 0 11)) else (if x1 = 3 then Option.bind (M_X12_allStrength S) (fun w6 => some w6) else (if x1 = 4 then Option.bind (M_X12_allSmears S) (fun w8 => some w8) else (if x1 = 5 then some ((zsc S 0 12)) else (if x1 = 6 then some ((zsc S 0 17)) else Option.bind (M_X12_within S x1 11 17) (fun w11 => (if w11 = 0 then some (-1) else zg (zin ((x1 - 10)) 8) (some ((zar S 13 (Int32.toNatClampNeg ((x1 - 10)))))))))))))))
set_option maxHeartbeats 4000000 in
set_option maxRecDepth 100000 in
theorem c_X12_status (l : Launch) (D : va_G) (Y : Nat → ClassId) (F : Nat → Nat) (G : zG) (S : zSt) (sz : Nat) (x1 : Int32) (res : Int32) (h : M_X12_status S x1 = some res) : Met l yX12_status wsX12_status (zRm 2 45) (zPc D Y F G S sz [.ref (F 0), .int x1]) (zQi D Y F (zAo F G sz) G (res, S)) 0 0 (zAo F G sz) := by
  unfold M_X12_status at h
  refine zMet (cc := cX12_status) (maxL := 2) (ret := (some .int)) (own := RX12) (by decide +kernel) rfl rfl (Nat.le_of_ble_eq_true rfl) ?_
  intro p e s m args below meth c C0 hin hw hS ls hl
  have hl : lv_has ls 2 [(0, .ref (F 0)), (1, .int x1)] := hl
  generalize zAo F G sz = A at C0 hw hS ⊢
  obtain ⟨hx, hb, hml, hr, hown, hts, hK, hA, hlk, hN⟩ := id C0
  refine lv_iload_n hx hb dX12_status_0 rfl (lv_at hl 1 rfl) ?_
  by_cases c1 : x1 = 0
  · replace h := z_ifp c1 h
    refine z_top c1 ?_
    refine lv_tableIn (off := 43) (tgt := 44) hx hb dX12_status_1 (by decide) (by decide) rfl (by decide) ?_
    refine lv_aload_n hx hb dX12_status_44 rfl (lv_at hl 0 rfl) ?_
    refine z_get C0 in_X12_status_X12 (C := RX12) (T := TX12) (N := 27) hw (k := 0) (ci := 12) (v := .int ((zsc S 0 3))) rfl rfl rfl rfl 3 (by decide) rfl 1 rfl dX12_status_45 ?_
    exact z_reti C0 hw hS (congrArg (fun z => (z, S)) (Option.some.inj h)) dX12_status_48
  · replace h := z_ifn c1 h
    by_cases c2 : x1 = 1
    · replace h := z_ifp c2 h
      refine z_top c2 ?_
      refine lv_tableIn (off := 48) (tgt := 49) hx hb dX12_status_1 (by decide) (by decide) rfl (by decide) ?_
      refine lv_aload_n hx hb dX12_status_49 rfl (lv_at hl 0 rfl) ?_
      obtain ⟨w3, ew3, h⟩ := z_bd h
      refine z_callVip C0 hw hS (k := 0) (As := []) (rest := []) rfl rfl rfl rfl (c_X12_allDead l D Y F G S _ w3 ew3) (cwV 0 hts gX12_status_X12_allDead rfl rfl rfl (by decide +kernel) ⟨Nat.le_of_ble_eq_true rfl, Nat.le_of_ble_eq_true rfl⟩) rfl hl.1 rfl (Nat.le_of_ble_eq_true rfl) dX12_status_50 ⟨Nat.zero_le _, Nat.zero_le _⟩ (fun H locs hw hS => ?_)
      exact z_reti C0 hw hS (congrArg (fun z => (z, S)) (Option.some.inj h)) dX12_status_53
    · replace h := z_ifn c2 h
      by_cases c4 : x1 = 2
      · replace h := z_ifp c4 h
        refine z_top c4 ?_
        refine lv_tableIn (off := 53) (tgt := 54) hx hb dX12_status_1 (by decide) (by decide) rfl (by decide) ?_
        refine lv_aload_n hx hb dX12_status_54 rfl (lv_at hl 0 rfl) ?_
        refine z_get C0 in_X12_status_X12 (C := RX12) (T := TX12) (N := 27) hw (k := 0) (ci := 12) (v := .int ((zsc S 0 11))) rfl rfl rfl rfl 11 (by decide) rfl 2 rfl dX12_status_55 ?_
        exact z_reti C0 hw hS (congrArg (fun z => (z, S)) (Option.some.inj h)) dX12_status_58
      · replace h := z_ifn c4 h
        by_cases c5 : x1 = 3
        · replace h := z_ifp c5 h
          refine z_top c5 ?_
          refine lv_tableIn (off := 58) (tgt := 59) hx hb dX12_status_1 (by decide) (by decide) rfl (by decide) ?_
          refine lv_aload_n hx hb dX12_status_59 rfl (lv_at hl 0 rfl) ?_
          obtain ⟨w6, ew6, h⟩ := z_bd h
          refine z_callVip C0 hw hS (k := 0) (As := []) (rest := []) rfl rfl rfl rfl (c_X12_allStrength l D Y F G S _ w6 ew6) (cwV 0 hts gX12_status_X12_allStrength rfl rfl rfl (by decide +kernel) ⟨Nat.le_of_ble_eq_true rfl, Nat.le_of_ble_eq_true rfl⟩) rfl hl.1 rfl (Nat.le_of_ble_eq_true rfl) dX12_status_60 ⟨Nat.zero_le _, Nat.zero_le _⟩ (fun H locs hw hS => ?_)
          exact z_reti C0 hw hS (congrArg (fun z => (z, S)) (Option.some.inj h)) dX12_status_63
        · replace h := z_ifn c5 h
          by_cases c7 : x1 = 4
          · replace h := z_ifp c7 h
            refine z_top c7 ?_
            refine lv_tableIn (off := 63) (tgt := 64) hx hb dX12_status_1 (by decide) (by decide) rfl (by decide) ?_
            refine lv_aload_n hx hb dX12_status_64 rfl (lv_at hl 0 rfl) ?_
            obtain ⟨w8, ew8, h⟩ := z_bd h
            refine z_callVip C0 hw hS (k := 0) (As := []) (rest := []) rfl rfl rfl rfl (c_X12_allSmears l D Y F G S _ w8 ew8) (cwV 0 hts gX12_status_X12_allSmears rfl rfl rfl (by decide +kernel) ⟨Nat.le_of_ble_eq_true rfl, Nat.le_of_ble_eq_true rfl⟩) rfl hl.1 rfl (Nat.le_of_ble_eq_true rfl) dX12_status_65 ⟨Nat.zero_le _, Nat.zero_le _⟩ (fun H locs hw hS => ?_)
            exact z_reti C0 hw hS (congrArg (fun z => (z, S)) (Option.some.inj h)) dX12_status_68
          · replace h := z_ifn c7 h
            by_cases c9 : x1 = 5
            · replace h := z_ifp c9 h
              refine z_top c9 ?_
              refine lv_tableIn (off := 68) (tgt := 69) hx hb dX12_status_1 (by decide) (by decide) rfl (by decide) ?_
              refine lv_aload_n hx hb dX12_status_69 rfl (lv_at hl 0 rfl) ?_
              refine z_get C0 in_X12_status_X12 (C := RX12) (T := TX12) (N := 27) hw (k := 0) (ci := 12) (v := .int ((zsc S 0 12))) rfl rfl rfl rfl 12 (by decide) rfl 3 rfl dX12_status_70 ?_
              exact z_reti C0 hw hS (congrArg (fun z => (z, S)) (Option.some.inj h)) dX12_status_73
            · replace h := z_ifn c9 h
              by_cases c10 : x1 = 6
              · replace h := z_ifp c10 h
                refine z_top c10 ?_
                refine lv_tableIn (off := 73) (tgt := 74) hx hb dX12_status_1 (by decide) (by decide) rfl (by decide) ?_
                refine lv_aload_n hx hb dX12_status_74 rfl (lv_at hl 0 rfl) ?_
                refine z_get C0 in_X12_status_X12 (C := RX12) (T := TX12) (N := 27) hw (k := 0) (ci := 12) (v := .int ((zsc S 0 17))) rfl rfl rfl rfl 17 (by decide) rfl 4 rfl dX12_status_75 ?_
                exact z_reti C0 hw hS (congrArg (fun z => (z, S)) (Option.some.inj h)) dX12_status_78
              · replace h := z_ifn c10 h
                have nc1 : Int32.toInt x1 ≠ 0 := fun q => c1 (Int32.toInt_inj.mp (q.trans (by decide)))
                have nc2 : Int32.toInt x1 ≠ 1 := fun q => c2 (Int32.toInt_inj.mp (q.trans (by decide)))
                have nc4 : Int32.toInt x1 ≠ 2 := fun q => c4 (Int32.toInt_inj.mp (q.trans (by decide)))
                have nc5 : Int32.toInt x1 ≠ 3 := fun q => c5 (Int32.toInt_inj.mp (q.trans (by decide)))
                have nc7 : Int32.toInt x1 ≠ 4 := fun q => c7 (Int32.toInt_inj.mp (q.trans (by decide)))
                have nc9 : Int32.toInt x1 ≠ 5 := fun q => c9 (Int32.toInt_inj.mp (q.trans (by decide)))
                have nc10 : Int32.toInt x1 ≠ 6 := fun q => c10 (Int32.toInt_inj.mp (q.trans (by decide)))
                refine lv_tableOut (tgt := 79) hx hb dX12_status_1 (by omega) (by decide) ?_
                refine lv_iload_n hx hb dX12_status_79 rfl (lv_at hl 1 rfl) ?_
                refine lv_bipush (v := 11) hx hb dX12_status_80 (by decide) ?_
                refine lv_bipush (v := 17) hx hb dX12_status_82 (by decide) ?_
                obtain ⟨w11, ew11, h⟩ := z_bd h
                refine z_callSip C0 hw hS (As := [.int x1, .int 11, .int 17]) (rest := []) (c_X12_within l D Y F G S _ x1 11 17 w11 ew11) (va_cwS 3 hts gX12_status_X12_within rfl rfl rfl (by decide +kernel) ⟨Nat.le_of_ble_eq_true rfl, Nat.le_of_ble_eq_true rfl⟩) rfl hl.1 rfl (Nat.le_of_ble_eq_true rfl) dX12_status_84 ⟨Nat.zero_le _, Nat.zero_le _⟩ (fun H locs hw hS => ?_)
                refine lv_if_eq (tgt := 102) hx hb dX12_status_87 (by decide) (fun c12 => ?_) (fun c12 => ?_)
                · replace h := z_ifp c12 h
                  refine lv_iconst (v := (-1)) hx hb dX12_status_102 (by decide) ?_
                  exact z_reti C0 hw hS (congrArg (fun z => (z, S)) (Option.some.inj h)) dX12_status_103
                · replace h := z_ifn c12 h
                  refine lv_aload_n hx hb dX12_status_90 rfl (lv_at hl 0 rfl) ?_
                  refine z_get C0 in_X12_status_X12 (C := RX12) (T := TX12) (N := 27) hw (k := 0) (ci := 12) (v := .ref (F 13)) rfl rfl rfl rfl 19 (by decide) rfl 5 rfl dX12_status_91 ?_
                  refine lv_iload_n hx hb dX12_status_94 rfl (lv_at hl 1 rfl) ?_
                  refine lv_bipush (v := 10) hx hb dX12_status_95 (by decide) ?_
                  refine lv_isub hx hb dX12_status_97 ?_
                  obtain ⟨b13, h⟩ := z_gd h
                  refine z_iald C0 hw 13 rfl rfl zri_13 (zin_in b13) dX12_status_98 ?_
                  refine lv_goto (tgt := 103) hx hb dX12_status_99 (by decide) ?_
                  exact z_reti C0 hw hS (congrArg (fun z => (z, S)) (Option.some.inj h)) dX12_status_103
