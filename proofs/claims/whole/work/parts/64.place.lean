set_option maxRecDepth 20000 in
theorem in_X4_placeFor_X4 : ∀ w ∈ u_ws RX4 TX4 6, w ∈ wsX4_placeFor := by decide +kernel
set_option maxRecDepth 20000 in
theorem in_X4_placeFor_X8 : ∀ w ∈ u_ws RX8 TX5 9, w ∈ wsX4_placeFor := by decide +kernel
set_option maxRecDepth 20000 in
theorem in_X4_placeFor_X2 : ∀ w ∈ u_ws RX2 TX5 9, w ∈ wsX4_placeFor := by decide +kernel
set_option maxRecDepth 20000 in
theorem in_X4_placeFor_X10 : ∀ w ∈ u_ws RX10 TX5 9, w ∈ wsX4_placeFor := by decide +kernel
set_option maxRecDepth 20000 in
theorem in_X4_placeFor_X3 : ∀ w ∈ u_ws RX3 TX5 9, w ∈ wsX4_placeFor := by decide +kernel
set_option maxRecDepth 20000 in
theorem in_X4_placeFor_X0 : ∀ w ∈ u_ws RX0 TX5 9, w ∈ wsX4_placeFor := by decide +kernel
set_option maxRecDepth 20000 in
theorem in_X4_placeFor_X1 : ∀ w ∈ u_ws RX1 TX5 9, w ∈ wsX4_placeFor := by decide +kernel
set_option maxRecDepth 20000 in
theorem in_X4_placeFor_X5 : ∀ w ∈ u_ws RX5 TX5 9, w ∈ wsX4_placeFor := by decide +kernel
theorem fsX5 : ∀ j, j < 9 → defaultValue (tyX5 j) = vp_V [.int 0, .int 0, .null, .null, .null, .null, .int 0, .int 0, .int 0] j := by
  intro j hj
  match j, hj with
  | 0, _ => rfl
  | 1, _ => rfl
  | 2, _ => rfl
  | 3, _ => rfl
  | 4, _ => rfl
  | 5, _ => rfl
  | 6, _ => rfl
  | 7, _ => rfl
  | 8, _ => rfl
/-- the number that stands in a place for the kind x -/
def zcn (x : Int32) : Nat := if x = 1 then 9 else if x = 2 then 3 else if x = 3 then 11 else if x = 4 then 4 else if x = 5 then 1 else if x = 6 then 2 else 6
def zMkP (pk : Nat → Nat) (q : Nat) (c : Nat) : Nat → Nat := fun z => if z = q then c else pk z
def M_X4_placeFor_B33 (pk : Nat → Nat) (S : zSt) (i0 : Nat) (x1 x2 : Int32) : Option (Option Nat × (Nat → Nat) × zSt) :=
  some (some (6 * i0 + x1.toNatClampNeg), zMkP pk (6 * i0 + x1.toNatClampNeg) (zcn x2), zNewS S (6 * i0 + x1.toNatClampNeg) x2 x1)
def M_X4_placeFor (pk : Nat → Nat) (S : zSt) (i0 : Nat) (x1 x2 : Int32) : Option (Option Nat × (Nat → Nat) × zSt) :=
  if x1 < 0 then some (none, pk, S) else if x1 < 6 then zg (zin x1 6) (zm (zwho pk (6 * i0 + x1.toNatClampNeg)) (M_X4_placeFor_B33 pk S i0 x1 x2) (fun q => zg (zOKb pk q) (if zsc S (100 + 4 * q) 0 = x2 then some (some q, pk, S) else M_X4_placeFor_B33 pk S i0 x1 x2))) else some (none, pk, S)
set_option maxRecDepth 20000 in
theorem inP_X4_placeFor : ∀ w ∈ wsPers, w ∈ wsX4_placeFor := by decide +kernel
set_option maxHeartbeats 4000000 in
set_option maxRecDepth 100000 in
theorem t_X4_placeFor_B188 {p : Program} {l : Launch} {e : Env} {s : State} {m : MethodId} {args : Array Value} {below : List Frame} {meth : Method} {c : Code} {D : va_G} {Y : Nat → ClassId} {F : Nat → Nat} {A : Nat → Prop} {G : zG} (C0 : zCx p s m args meth c D Y F A RX4 cX4_placeFor 4 (some (.object "CarbonCopies$Person")) wsX4_placeFor) (S : zSt) (i0 : Nat) (hi0 : i0 < 3) (x1 x2 : Int32) (hx1 : zin x1 6 = true) (res : Option Nat × (Nat → Nat) × zSt) (ci a b1 b2 b3 : Nat) (C : String) (hC : vwCl[ci]? = some (C, TX5, 9)) (hca : C = RX5 ∨ (C, RX5) ∈ zCast) (hres : (some (6 * i0 + x1.toNatClampNeg), zMkP (zpk G) (6 * i0 + x1.toNatClampNeg) (ci + 1), zNewS S (6 * i0 + x1.toNatClampNeg) x2 x1) = res) (H : Heap) (locs : List Loc) (ls : Array Slot)
    (hP : va_P D vwCl (zW Y F G S ++ zN4 Y F ci x2 x1 a b1 b2 b3) H) (hD : va_D A (zW Y F G S ++ zN4 Y F ci x2 x1 a b1 b2 b3)) (hS : va_S A s.heap H locs) (hl : lv_has ls 4 [(3, .ref a), (0, .ref (zad F G (60 + 3 * i0))), (1, .int x1), (2, .int x2)]) : W p l e { frames := 4, cells := 4, slots := 69, locals := 81 } s m args below meth c H locs 4 69 (MQ below (zQqG D Y F A G i0 res) args s 4 69 A) (F0 m 188 ls []) := by
  obtain ⟨hx, hb, hml, hr, hown, hts, hK, hA, hlk, hN⟩ := id C0
  have hj : x1.toNatClampNeg < 6 := zin_lt hx1
  obtain ⟨qL, hqL, -⟩ := zAt (Y := Y) (F := F) (S := S) (zld_E (G := G) hi0)
  rw [zld_B hi0] at hqL
  obtain ⟨qP, hqP, hqI⟩ := zAt (Y := Y) (F := F) (S := S) (zld_E1 (G := G) hi0)
  rw [zld_BP hi0] at hqP
  have hqL' : (zW Y F G S ++ zN4 Y F ci x2 x1 a b1 b2 b3)[qL]? = _ := (List.getElem?_append_left (List.getElem?_eq_some_iff.mp hqL).1).trans hqL
  have hqP' : (zW Y F G S ++ zN4 Y F ci x2 x1 a b1 b2 b3)[qP]? = _ := (List.getElem?_append_left (List.getElem?_eq_some_iff.mp hqP).1).trans hqP
  have hqN : (zW Y F G S ++ zN4 Y F ci x2 x1 a b1 b2 b3)[(zW Y F G S).length + 0]? = _ := x_at (j := 0) (X := zN4 Y F ci x2 x1 a b1 b2 b3) rfl
  refine lv_aload_n hx hb dX4_placeFor_188 rfl (lv_at hl 1 rfl) ?_
  refine va_get hx hb hts in_X4_placeFor_X4 hown hK hP qL hqL' rfl 0 (by decide) (hts _ (List.mem_of_getElem? (i := 1) rfl)) (fun _ h => h) rfl dX4_placeFor_189 ?_
  refine lv_iload_n hx hb dX4_placeFor_192 rfl (lv_at hl 2 rfl) ?_
  refine lv_aload_n hx hb dX4_placeFor_193 rfl (lv_at hl 0 rfl) ?_
  have fin : ∀ (H1 : Heap) (locs1 : List Loc), va_P D vwCl ((zW Y F G S ++ zN4 Y F ci x2 x1 a b1 b2 b3).set qP (zPV Y F G i0 x1.toNatClampNeg a)) H1 → va_D A ((zW Y F G S ++ zN4 Y F ci x2 x1 a b1 b2 b3).set qP (zPV Y F G i0 x1.toNatClampNeg a)) → va_S A s.heap H1 locs1 → W p l e { frames := 4, cells := 4, slots := 69, locals := 81 } s m args below meth c H1 locs1 4 69 (MQ below (zQqG D Y F A G i0 res) args s 4 69 A) (F0 m (194 + 1) ls []) := by
    intro H1 locs1 h1 h2 h3
    have hw := z_place hi0 hj hqI h1 h2
    refine lv_aload_n hx hb dX4_placeFor_195 rfl (lv_at hl 0 rfl) ?_
    exact z_retqG (G := zNewG G (6 * i0 + x1.toNatClampNeg) (ci + 1) a b1 b2 b3) C0 hw h3 (some (6 * i0 + x1.toNatClampNeg)) (by show Value.ref a = Value.ref _; exact congrArg _ zNewG_a0.symm) (Nat.le_refl _) (Nat.le_refl _) (fun q hq => by
      show (if 100 + 4 * q = _ then _ else _) = _
      rw [if_neg (by omega), if_neg (by omega), if_neg (by omega), if_neg (by omega)]) hres dX4_placeFor_196
  rcases hca with rfl | hca
  · exact va_astq hx hb hK hP hD hS qP 2 ((zW Y F G S).length + 0) ci hqP' rfl hqN hC (zin_in hx1) dX4_placeFor_194 fin
  · exact va_astqO hx hb hK hP hD hS qP 2 ((zW Y F G S).length + 0) ci hqP' rfl (hN.2.1 _ hca) hqN hC (zin_in hx1) dX4_placeFor_194 fin
set_option maxHeartbeats 4000000 in
set_option maxRecDepth 100000 in
theorem t_X4_placeFor_N8 {p : Program} {l : Launch} {e : Env} {s : State} {m : MethodId} {args : Array Value} {below : List Frame} {meth : Method} {c : Code} {D : va_G} {Y : Nat → ClassId} {F : Nat → Nat} {A : Nat → Prop} {G : zG} (C0 : zCx p s m args meth c D Y F A RX4 cX4_placeFor 4 (some (.object "CarbonCopies$Person")) wsX4_placeFor) (S : zSt) (i0 : Nat) (hi0 : i0 < 3) (x1 x2 : Int32) (hx1 : zin x1 6 = true) (res : Option Nat × (Nat → Nat) × zSt) (hres : (some (6 * i0 + x1.toNatClampNeg), zMkP (zpk G) (6 * i0 + x1.toNatClampNeg) (8 + 1), zNewS S (6 * i0 + x1.toNatClampNeg) x2 x1) = res) (H : Heap) (locs : List Loc) (ls : Array Slot) (hw : zH D Y F A G S H) (hS : va_S A s.heap H locs) (hl : lv_has ls 4 [(0, .ref (zad F G (60 + 3 * i0))), (1, .int x1), (2, .int x2)]) : W p l e { frames := 4, cells := 4, slots := 69, locals := 81 } s m args below meth c H locs 0 0 (MQ below (zQqG D Y F A G i0 res) args s 4 69 A) (F0 m 72 ls []) := by
  obtain ⟨hx, hb, hml, hr, hown, hts, hK, hA, hlk, hN⟩ := id C0
  have Cx : xCx p s m args meth c D Y (fun _ => True) A RX4 cX4_placeFor 4 (some (.object "CarbonCopies$Person")) wsX4_placeFor := ⟨hx, hb, hml, hr, hown, hts, hK, hA, hlk, trivial⟩
  have hP : va_P D vwCl (zW Y F G S ++ []) H := by rw [List.append_nil]; exact hw.1
  have hD : va_D A (zW Y F G S ++ []) := by rw [List.append_nil]; exact hw.2
  obtain ⟨qL, hqL, -⟩ := zAt (Y := Y) (F := F) (S := S) (zld_E (G := G) hi0)
  rw [zld_B hi0] at hqL
  refine x_new Cx hP hD hS (C := RX8) (T := TX5) (N := 9) (ci := 8) in_X4_placeFor_X8 tyX5 tyX5_ok 0 0 0 (hts _ (List.mem_of_getElem? (i := 3) rfl)) (hts _ (List.mem_of_getElem? (i := 4) rfl)) (hts _ (List.mem_of_getElem? (i := 5) rfl)) rfl [.int 0, .int 0, .null, .null, .null, .null, .int 0, .int 0, .int 0] fsX5 (Nat.le_of_ble_eq_true rfl) (Nat.le_of_ble_eq_true rfl) dX4_placeFor_72 (fun a H hP hD hS => ?_)
  refine lv_dup hx hb dX4_placeFor_75 rfl ?_
  refine lv_iload_n hx hb dX4_placeFor_76 rfl (lv_at hl 2 rfl) ?_
  refine lv_iload_n hx hb dX4_placeFor_77 rfl (lv_at hl 1 rfl) ?_
  refine lv_aload_n hx hb dX4_placeFor_78 rfl (lv_at hl 0 rfl) ?_
  refine va_get hx hb hts in_X4_placeFor_X4 hown hK hP qL ((List.getElem?_append_left (List.getElem?_eq_some_iff.mp hqL).1).trans hqL) rfl 2 (by decide) (hts _ (List.mem_of_getElem? (i := 6) rfl)) (fun _ h => h) (v := .ref (F 56)) rfl dX4_placeFor_79 ?_
  refine x_callJ Cx (X := []) (o := (a, .inr (8, [.int 0, .int 0, .null, .null, .null, .null, .int 0, .int 0, .int 0]))) hP hD hS xOk_t (fun _ => trivial) (As := [.int x2, .int x1, .ref (F 56)]) (rest := [.ref a]) (E2 := fun _ => True) (c_X8_init l D Y (fun _ => True) xOk_t (zW Y F G S ++ []) _ 8 a x2 x1 (F 56) RX8 rfl (by simp)) (cwI 3 hts gX4_placeFor_X8_init rfl rfl rfl (hts _ (List.mem_of_getElem? (i := 5) rfl)) (hts _ (List.mem_of_getElem? (i := 25) rfl)) (hts _ (List.mem_of_getElem? (i := 26) rfl)) rfl (by decide +kernel) ⟨Nat.le_of_ble_eq_true rfl, Nat.le_of_ble_eq_true rfl⟩) rfl hl.1 rfl (Nat.le_of_ble_eq_true rfl) dX4_placeFor_82 ⟨Nat.le_of_ble_eq_true rfl, Nat.le_of_ble_eq_true rfl⟩ (fun u H locs hP hD hS => ?_)
  refine lv_astore_n (lv' := [(3, .ref a), (0, .ref (zad F G (60 + 3 * i0))), (1, .int x1), (2, .int x2)]) hx hb dX4_placeFor_85 rfl hl (by decide) rfl (fun ls hl => ?_)
  refine lv_goto (tgt := 188) hx hb dX4_placeFor_86 (by decide) ?_
  exact t_X4_placeFor_B188 C0 S i0 hi0 x1 x2 hx1 res 8 a (u 0) (u 1) (u 2) RX8 rfl (Or.inr (by decide +kernel)) hres H locs ls hP hD hS hl
set_option maxHeartbeats 4000000 in
set_option maxRecDepth 100000 in
theorem t_X4_placeFor_N2 {p : Program} {l : Launch} {e : Env} {s : State} {m : MethodId} {args : Array Value} {below : List Frame} {meth : Method} {c : Code} {D : va_G} {Y : Nat → ClassId} {F : Nat → Nat} {A : Nat → Prop} {G : zG} (C0 : zCx p s m args meth c D Y F A RX4 cX4_placeFor 4 (some (.object "CarbonCopies$Person")) wsX4_placeFor) (S : zSt) (i0 : Nat) (hi0 : i0 < 3) (x1 x2 : Int32) (hx1 : zin x1 6 = true) (res : Option Nat × (Nat → Nat) × zSt) (hres : (some (6 * i0 + x1.toNatClampNeg), zMkP (zpk G) (6 * i0 + x1.toNatClampNeg) (2 + 1), zNewS S (6 * i0 + x1.toNatClampNeg) x2 x1) = res) (H : Heap) (locs : List Loc) (ls : Array Slot) (hw : zH D Y F A G S H) (hS : va_S A s.heap H locs) (hl : lv_has ls 4 [(0, .ref (zad F G (60 + 3 * i0))), (1, .int x1), (2, .int x2)]) : W p l e { frames := 4, cells := 4, slots := 69, locals := 81 } s m args below meth c H locs 0 0 (MQ below (zQqG D Y F A G i0 res) args s 4 69 A) (F0 m 89 ls []) := by
  obtain ⟨hx, hb, hml, hr, hown, hts, hK, hA, hlk, hN⟩ := id C0
  have Cx : xCx p s m args meth c D Y (fun _ => True) A RX4 cX4_placeFor 4 (some (.object "CarbonCopies$Person")) wsX4_placeFor := ⟨hx, hb, hml, hr, hown, hts, hK, hA, hlk, trivial⟩
  have hP : va_P D vwCl (zW Y F G S ++ []) H := by rw [List.append_nil]; exact hw.1
  have hD : va_D A (zW Y F G S ++ []) := by rw [List.append_nil]; exact hw.2
  obtain ⟨qL, hqL, -⟩ := zAt (Y := Y) (F := F) (S := S) (zld_E (G := G) hi0)
  rw [zld_B hi0] at hqL
  refine x_new Cx hP hD hS (C := RX2) (T := TX5) (N := 9) (ci := 2) in_X4_placeFor_X2 tyX5 tyX5_ok 0 0 0 (hts _ (List.mem_of_getElem? (i := 7) rfl)) (hts _ (List.mem_of_getElem? (i := 8) rfl)) (hts _ (List.mem_of_getElem? (i := 9) rfl)) rfl [.int 0, .int 0, .null, .null, .null, .null, .int 0, .int 0, .int 0] fsX5 (Nat.le_of_ble_eq_true rfl) (Nat.le_of_ble_eq_true rfl) dX4_placeFor_89 (fun a H hP hD hS => ?_)
  refine lv_dup hx hb dX4_placeFor_92 rfl ?_
  refine lv_iload_n hx hb dX4_placeFor_93 rfl (lv_at hl 2 rfl) ?_
  refine lv_iload_n hx hb dX4_placeFor_94 rfl (lv_at hl 1 rfl) ?_
  refine lv_aload_n hx hb dX4_placeFor_95 rfl (lv_at hl 0 rfl) ?_
  refine va_get hx hb hts in_X4_placeFor_X4 hown hK hP qL ((List.getElem?_append_left (List.getElem?_eq_some_iff.mp hqL).1).trans hqL) rfl 2 (by decide) (hts _ (List.mem_of_getElem? (i := 6) rfl)) (fun _ h => h) (v := .ref (F 56)) rfl dX4_placeFor_96 ?_
  refine x_callJ Cx (X := []) (o := (a, .inr (2, [.int 0, .int 0, .null, .null, .null, .null, .int 0, .int 0, .int 0]))) hP hD hS xOk_t (fun _ => trivial) (As := [.int x2, .int x1, .ref (F 56)]) (rest := [.ref a]) (E2 := fun _ => True) (c_X2_init l D Y (fun _ => True) xOk_t (zW Y F G S ++ []) _ 2 a x2 x1 (F 56) RX2 rfl (by simp)) (cwI 3 hts gX4_placeFor_X2_init rfl rfl rfl (hts _ (List.mem_of_getElem? (i := 9) rfl)) (hts _ (List.mem_of_getElem? (i := 44) rfl)) (hts _ (List.mem_of_getElem? (i := 45) rfl)) rfl (by decide +kernel) ⟨Nat.le_of_ble_eq_true rfl, Nat.le_of_ble_eq_true rfl⟩) rfl hl.1 rfl (Nat.le_of_ble_eq_true rfl) dX4_placeFor_99 ⟨Nat.le_of_ble_eq_true rfl, Nat.le_of_ble_eq_true rfl⟩ (fun u H locs hP hD hS => ?_)
  refine lv_astore_n (lv' := [(3, .ref a), (0, .ref (zad F G (60 + 3 * i0))), (1, .int x1), (2, .int x2)]) hx hb dX4_placeFor_102 rfl hl (by decide) rfl (fun ls hl => ?_)
  refine lv_goto (tgt := 188) hx hb dX4_placeFor_103 (by decide) ?_
  exact t_X4_placeFor_B188 C0 S i0 hi0 x1 x2 hx1 res 2 a (u 0) (u 1) (u 2) RX2 rfl (Or.inr (by decide +kernel)) hres H locs ls hP hD hS hl
set_option maxHeartbeats 4000000 in
set_option maxRecDepth 100000 in
theorem t_X4_placeFor_N10 {p : Program} {l : Launch} {e : Env} {s : State} {m : MethodId} {args : Array Value} {below : List Frame} {meth : Method} {c : Code} {D : va_G} {Y : Nat → ClassId} {F : Nat → Nat} {A : Nat → Prop} {G : zG} (C0 : zCx p s m args meth c D Y F A RX4 cX4_placeFor 4 (some (.object "CarbonCopies$Person")) wsX4_placeFor) (S : zSt) (i0 : Nat) (hi0 : i0 < 3) (x1 x2 : Int32) (hx1 : zin x1 6 = true) (res : Option Nat × (Nat → Nat) × zSt) (hres : (some (6 * i0 + x1.toNatClampNeg), zMkP (zpk G) (6 * i0 + x1.toNatClampNeg) (10 + 1), zNewS S (6 * i0 + x1.toNatClampNeg) x2 x1) = res) (H : Heap) (locs : List Loc) (ls : Array Slot) (hw : zH D Y F A G S H) (hS : va_S A s.heap H locs) (hl : lv_has ls 4 [(0, .ref (zad F G (60 + 3 * i0))), (1, .int x1), (2, .int x2)]) : W p l e { frames := 4, cells := 4, slots := 69, locals := 81 } s m args below meth c H locs 0 0 (MQ below (zQqG D Y F A G i0 res) args s 4 69 A) (F0 m 106 ls []) := by
  obtain ⟨hx, hb, hml, hr, hown, hts, hK, hA, hlk, hN⟩ := id C0
  have Cx : xCx p s m args meth c D Y (fun _ => True) A RX4 cX4_placeFor 4 (some (.object "CarbonCopies$Person")) wsX4_placeFor := ⟨hx, hb, hml, hr, hown, hts, hK, hA, hlk, trivial⟩
  have hP : va_P D vwCl (zW Y F G S ++ []) H := by rw [List.append_nil]; exact hw.1
  have hD : va_D A (zW Y F G S ++ []) := by rw [List.append_nil]; exact hw.2
  obtain ⟨qL, hqL, -⟩ := zAt (Y := Y) (F := F) (S := S) (zld_E (G := G) hi0)
  rw [zld_B hi0] at hqL
  refine x_new Cx hP hD hS (C := RX10) (T := TX5) (N := 9) (ci := 10) in_X4_placeFor_X10 tyX5 tyX5_ok 0 0 0 (hts _ (List.mem_of_getElem? (i := 10) rfl)) (hts _ (List.mem_of_getElem? (i := 11) rfl)) (hts _ (List.mem_of_getElem? (i := 12) rfl)) rfl [.int 0, .int 0, .null, .null, .null, .null, .int 0, .int 0, .int 0] fsX5 (Nat.le_of_ble_eq_true rfl) (Nat.le_of_ble_eq_true rfl) dX4_placeFor_106 (fun a H hP hD hS => ?_)
  refine lv_dup hx hb dX4_placeFor_109 rfl ?_
  refine lv_iload_n hx hb dX4_placeFor_110 rfl (lv_at hl 2 rfl) ?_
  refine lv_iload_n hx hb dX4_placeFor_111 rfl (lv_at hl 1 rfl) ?_
  refine lv_aload_n hx hb dX4_placeFor_112 rfl (lv_at hl 0 rfl) ?_
  refine va_get hx hb hts in_X4_placeFor_X4 hown hK hP qL ((List.getElem?_append_left (List.getElem?_eq_some_iff.mp hqL).1).trans hqL) rfl 2 (by decide) (hts _ (List.mem_of_getElem? (i := 6) rfl)) (fun _ h => h) (v := .ref (F 56)) rfl dX4_placeFor_113 ?_
  refine x_callJ Cx (X := []) (o := (a, .inr (10, [.int 0, .int 0, .null, .null, .null, .null, .int 0, .int 0, .int 0]))) hP hD hS xOk_t (fun _ => trivial) (As := [.int x2, .int x1, .ref (F 56)]) (rest := [.ref a]) (E2 := fun _ => True) (c_X10_init l D Y (fun _ => True) xOk_t (zW Y F G S ++ []) _ 10 a x2 x1 (F 56) RX10 rfl (by simp)) (cwI 3 hts gX4_placeFor_X10_init rfl rfl rfl (hts _ (List.mem_of_getElem? (i := 12) rfl)) (hts _ (List.mem_of_getElem? (i := 48) rfl)) (hts _ (List.mem_of_getElem? (i := 49) rfl)) rfl (by decide +kernel) ⟨Nat.le_of_ble_eq_true rfl, Nat.le_of_ble_eq_true rfl⟩) rfl hl.1 rfl (Nat.le_of_ble_eq_true rfl) dX4_placeFor_116 ⟨Nat.le_of_ble_eq_true rfl, Nat.le_of_ble_eq_true rfl⟩ (fun u H locs hP hD hS => ?_)
  refine lv_astore_n (lv' := [(3, .ref a), (0, .ref (zad F G (60 + 3 * i0))), (1, .int x1), (2, .int x2)]) hx hb dX4_placeFor_119 rfl hl (by decide) rfl (fun ls hl => ?_)
  refine lv_goto (tgt := 188) hx hb dX4_placeFor_120 (by decide) ?_
  exact t_X4_placeFor_B188 C0 S i0 hi0 x1 x2 hx1 res 10 a (u 0) (u 1) (u 2) RX10 rfl (Or.inr (by decide +kernel)) hres H locs ls hP hD hS hl
set_option maxHeartbeats 4000000 in
set_option maxRecDepth 100000 in
theorem t_X4_placeFor_N3 {p : Program} {l : Launch} {e : Env} {s : State} {m : MethodId} {args : Array Value} {below : List Frame} {meth : Method} {c : Code} {D : va_G} {Y : Nat → ClassId} {F : Nat → Nat} {A : Nat → Prop} {G : zG} (C0 : zCx p s m args meth c D Y F A RX4 cX4_placeFor 4 (some (.object "CarbonCopies$Person")) wsX4_placeFor) (S : zSt) (i0 : Nat) (hi0 : i0 < 3) (x1 x2 : Int32) (hx1 : zin x1 6 = true) (res : Option Nat × (Nat → Nat) × zSt) (hres : (some (6 * i0 + x1.toNatClampNeg), zMkP (zpk G) (6 * i0 + x1.toNatClampNeg) (3 + 1), zNewS S (6 * i0 + x1.toNatClampNeg) x2 x1) = res) (H : Heap) (locs : List Loc) (ls : Array Slot) (hw : zH D Y F A G S H) (hS : va_S A s.heap H locs) (hl : lv_has ls 4 [(0, .ref (zad F G (60 + 3 * i0))), (1, .int x1), (2, .int x2)]) : W p l e { frames := 4, cells := 4, slots := 69, locals := 81 } s m args below meth c H locs 0 0 (MQ below (zQqG D Y F A G i0 res) args s 4 69 A) (F0 m 123 ls []) := by
  obtain ⟨hx, hb, hml, hr, hown, hts, hK, hA, hlk, hN⟩ := id C0
  have Cx : xCx p s m args meth c D Y (fun _ => True) A RX4 cX4_placeFor 4 (some (.object "CarbonCopies$Person")) wsX4_placeFor := ⟨hx, hb, hml, hr, hown, hts, hK, hA, hlk, trivial⟩
  have hP : va_P D vwCl (zW Y F G S ++ []) H := by rw [List.append_nil]; exact hw.1
  have hD : va_D A (zW Y F G S ++ []) := by rw [List.append_nil]; exact hw.2
  obtain ⟨qL, hqL, -⟩ := zAt (Y := Y) (F := F) (S := S) (zld_E (G := G) hi0)
  rw [zld_B hi0] at hqL
  refine x_new Cx hP hD hS (C := RX3) (T := TX5) (N := 9) (ci := 3) in_X4_placeFor_X3 tyX5 tyX5_ok 0 0 0 (hts _ (List.mem_of_getElem? (i := 13) rfl)) (hts _ (List.mem_of_getElem? (i := 14) rfl)) (hts _ (List.mem_of_getElem? (i := 15) rfl)) rfl [.int 0, .int 0, .null, .null, .null, .null, .int 0, .int 0, .int 0] fsX5 (Nat.le_of_ble_eq_true rfl) (Nat.le_of_ble_eq_true rfl) dX4_placeFor_123 (fun a H hP hD hS => ?_)
  refine lv_dup hx hb dX4_placeFor_126 rfl ?_
  refine lv_iload_n hx hb dX4_placeFor_127 rfl (lv_at hl 2 rfl) ?_
  refine lv_iload_n hx hb dX4_placeFor_128 rfl (lv_at hl 1 rfl) ?_
  refine lv_aload_n hx hb dX4_placeFor_129 rfl (lv_at hl 0 rfl) ?_
  refine va_get hx hb hts in_X4_placeFor_X4 hown hK hP qL ((List.getElem?_append_left (List.getElem?_eq_some_iff.mp hqL).1).trans hqL) rfl 2 (by decide) (hts _ (List.mem_of_getElem? (i := 6) rfl)) (fun _ h => h) (v := .ref (F 56)) rfl dX4_placeFor_130 ?_
  refine x_callJ Cx (X := []) (o := (a, .inr (3, [.int 0, .int 0, .null, .null, .null, .null, .int 0, .int 0, .int 0]))) hP hD hS xOk_t (fun _ => trivial) (As := [.int x2, .int x1, .ref (F 56)]) (rest := [.ref a]) (E2 := fun _ => True) (c_X3_init l D Y (fun _ => True) xOk_t (zW Y F G S ++ []) _ 3 a x2 x1 (F 56) RX3 rfl (by simp)) (cwI 3 hts gX4_placeFor_X3_init rfl rfl rfl (hts _ (List.mem_of_getElem? (i := 15) rfl)) (hts _ (List.mem_of_getElem? (i := 52) rfl)) (hts _ (List.mem_of_getElem? (i := 53) rfl)) rfl (by decide +kernel) ⟨Nat.le_of_ble_eq_true rfl, Nat.le_of_ble_eq_true rfl⟩) rfl hl.1 rfl (Nat.le_of_ble_eq_true rfl) dX4_placeFor_133 ⟨Nat.le_of_ble_eq_true rfl, Nat.le_of_ble_eq_true rfl⟩ (fun u H locs hP hD hS => ?_)
  refine lv_astore_n (lv' := [(3, .ref a), (0, .ref (zad F G (60 + 3 * i0))), (1, .int x1), (2, .int x2)]) hx hb dX4_placeFor_136 rfl hl (by decide) rfl (fun ls hl => ?_)
  refine lv_goto (tgt := 188) hx hb dX4_placeFor_137 (by decide) ?_
  exact t_X4_placeFor_B188 C0 S i0 hi0 x1 x2 hx1 res 3 a (u 0) (u 1) (u 2) RX3 rfl (Or.inr (by decide +kernel)) hres H locs ls hP hD hS hl
set_option maxHeartbeats 4000000 in
set_option maxRecDepth 100000 in
theorem t_X4_placeFor_N0 {p : Program} {l : Launch} {e : Env} {s : State} {m : MethodId} {args : Array Value} {below : List Frame} {meth : Method} {c : Code} {D : va_G} {Y : Nat → ClassId} {F : Nat → Nat} {A : Nat → Prop} {G : zG} (C0 : zCx p s m args meth c D Y F A RX4 cX4_placeFor 4 (some (.object "CarbonCopies$Person")) wsX4_placeFor) (S : zSt) (i0 : Nat) (hi0 : i0 < 3) (x1 x2 : Int32) (hx1 : zin x1 6 = true) (res : Option Nat × (Nat → Nat) × zSt) (hres : (some (6 * i0 + x1.toNatClampNeg), zMkP (zpk G) (6 * i0 + x1.toNatClampNeg) (0 + 1), zNewS S (6 * i0 + x1.toNatClampNeg) x2 x1) = res) (H : Heap) (locs : List Loc) (ls : Array Slot) (hw : zH D Y F A G S H) (hS : va_S A s.heap H locs) (hl : lv_has ls 4 [(0, .ref (zad F G (60 + 3 * i0))), (1, .int x1), (2, .int x2)]) : W p l e { frames := 4, cells := 4, slots := 69, locals := 81 } s m args below meth c H locs 0 0 (MQ below (zQqG D Y F A G i0 res) args s 4 69 A) (F0 m 140 ls []) := by
  obtain ⟨hx, hb, hml, hr, hown, hts, hK, hA, hlk, hN⟩ := id C0
  have Cx : xCx p s m args meth c D Y (fun _ => True) A RX4 cX4_placeFor 4 (some (.object "CarbonCopies$Person")) wsX4_placeFor := ⟨hx, hb, hml, hr, hown, hts, hK, hA, hlk, trivial⟩
  have hP : va_P D vwCl (zW Y F G S ++ []) H := by rw [List.append_nil]; exact hw.1
  have hD : va_D A (zW Y F G S ++ []) := by rw [List.append_nil]; exact hw.2
  obtain ⟨qL, hqL, -⟩ := zAt (Y := Y) (F := F) (S := S) (zld_E (G := G) hi0)
  rw [zld_B hi0] at hqL
  refine x_new Cx hP hD hS (C := RX0) (T := TX5) (N := 9) (ci := 0) in_X4_placeFor_X0 tyX5 tyX5_ok 0 0 0 (hts _ (List.mem_of_getElem? (i := 16) rfl)) (hts _ (List.mem_of_getElem? (i := 17) rfl)) (hts _ (List.mem_of_getElem? (i := 18) rfl)) rfl [.int 0, .int 0, .null, .null, .null, .null, .int 0, .int 0, .int 0] fsX5 (Nat.le_of_ble_eq_true rfl) (Nat.le_of_ble_eq_true rfl) dX4_placeFor_140 (fun a H hP hD hS => ?_)
  refine lv_dup hx hb dX4_placeFor_143 rfl ?_
  refine lv_iload_n hx hb dX4_placeFor_144 rfl (lv_at hl 2 rfl) ?_
  refine lv_iload_n hx hb dX4_placeFor_145 rfl (lv_at hl 1 rfl) ?_
  refine lv_aload_n hx hb dX4_placeFor_146 rfl (lv_at hl 0 rfl) ?_
  refine va_get hx hb hts in_X4_placeFor_X4 hown hK hP qL ((List.getElem?_append_left (List.getElem?_eq_some_iff.mp hqL).1).trans hqL) rfl 2 (by decide) (hts _ (List.mem_of_getElem? (i := 6) rfl)) (fun _ h => h) (v := .ref (F 56)) rfl dX4_placeFor_147 ?_
  refine x_callJ Cx (X := []) (o := (a, .inr (0, [.int 0, .int 0, .null, .null, .null, .null, .int 0, .int 0, .int 0]))) hP hD hS xOk_t (fun _ => trivial) (As := [.int x2, .int x1, .ref (F 56)]) (rest := [.ref a]) (E2 := fun _ => True) (c_X0_init l D Y (fun _ => True) xOk_t (zW Y F G S ++ []) _ 0 a x2 x1 (F 56) RX0 rfl (by simp)) (cwI 3 hts gX4_placeFor_X0_init rfl rfl rfl (hts _ (List.mem_of_getElem? (i := 18) rfl)) (hts _ (List.mem_of_getElem? (i := 56) rfl)) (hts _ (List.mem_of_getElem? (i := 57) rfl)) rfl (by decide +kernel) ⟨Nat.le_of_ble_eq_true rfl, Nat.le_of_ble_eq_true rfl⟩) rfl hl.1 rfl (Nat.le_of_ble_eq_true rfl) dX4_placeFor_150 ⟨Nat.le_of_ble_eq_true rfl, Nat.le_of_ble_eq_true rfl⟩ (fun u H locs hP hD hS => ?_)
  refine lv_astore_n (lv' := [(3, .ref a), (0, .ref (zad F G (60 + 3 * i0))), (1, .int x1), (2, .int x2)]) hx hb dX4_placeFor_153 rfl hl (by decide) rfl (fun ls hl => ?_)
  refine lv_goto (tgt := 188) hx hb dX4_placeFor_154 (by decide) ?_
  exact t_X4_placeFor_B188 C0 S i0 hi0 x1 x2 hx1 res 0 a (u 0) (u 1) (u 2) RX0 rfl (Or.inr (by decide +kernel)) hres H locs ls hP hD hS hl
set_option maxHeartbeats 4000000 in
set_option maxRecDepth 100000 in
theorem t_X4_placeFor_N1 {p : Program} {l : Launch} {e : Env} {s : State} {m : MethodId} {args : Array Value} {below : List Frame} {meth : Method} {c : Code} {D : va_G} {Y : Nat → ClassId} {F : Nat → Nat} {A : Nat → Prop} {G : zG} (C0 : zCx p s m args meth c D Y F A RX4 cX4_placeFor 4 (some (.object "CarbonCopies$Person")) wsX4_placeFor) (S : zSt) (i0 : Nat) (hi0 : i0 < 3) (x1 x2 : Int32) (hx1 : zin x1 6 = true) (res : Option Nat × (Nat → Nat) × zSt) (hres : (some (6 * i0 + x1.toNatClampNeg), zMkP (zpk G) (6 * i0 + x1.toNatClampNeg) (1 + 1), zNewS S (6 * i0 + x1.toNatClampNeg) x2 x1) = res) (H : Heap) (locs : List Loc) (ls : Array Slot) (hw : zH D Y F A G S H) (hS : va_S A s.heap H locs) (hl : lv_has ls 4 [(0, .ref (zad F G (60 + 3 * i0))), (1, .int x1), (2, .int x2)]) : W p l e { frames := 4, cells := 4, slots := 69, locals := 81 } s m args below meth c H locs 0 0 (MQ below (zQqG D Y F A G i0 res) args s 4 69 A) (F0 m 157 ls []) := by
  obtain ⟨hx, hb, hml, hr, hown, hts, hK, hA, hlk, hN⟩ := id C0
  have Cx : xCx p s m args meth c D Y (fun _ => True) A RX4 cX4_placeFor 4 (some (.object "CarbonCopies$Person")) wsX4_placeFor := ⟨hx, hb, hml, hr, hown, hts, hK, hA, hlk, trivial⟩
  have hP : va_P D vwCl (zW Y F G S ++ []) H := by rw [List.append_nil]; exact hw.1
  have hD : va_D A (zW Y F G S ++ []) := by rw [List.append_nil]; exact hw.2
  obtain ⟨qL, hqL, -⟩ := zAt (Y := Y) (F := F) (S := S) (zld_E (G := G) hi0)
  rw [zld_B hi0] at hqL
  refine x_new Cx hP hD hS (C := RX1) (T := TX5) (N := 9) (ci := 1) in_X4_placeFor_X1 tyX5 tyX5_ok 0 0 0 (hts _ (List.mem_of_getElem? (i := 19) rfl)) (hts _ (List.mem_of_getElem? (i := 20) rfl)) (hts _ (List.mem_of_getElem? (i := 21) rfl)) rfl [.int 0, .int 0, .null, .null, .null, .null, .int 0, .int 0, .int 0] fsX5 (Nat.le_of_ble_eq_true rfl) (Nat.le_of_ble_eq_true rfl) dX4_placeFor_157 (fun a H hP hD hS => ?_)
  refine lv_dup hx hb dX4_placeFor_160 rfl ?_
  refine lv_iload_n hx hb dX4_placeFor_161 rfl (lv_at hl 2 rfl) ?_
  refine lv_iload_n hx hb dX4_placeFor_162 rfl (lv_at hl 1 rfl) ?_
  refine lv_aload_n hx hb dX4_placeFor_163 rfl (lv_at hl 0 rfl) ?_
  refine va_get hx hb hts in_X4_placeFor_X4 hown hK hP qL ((List.getElem?_append_left (List.getElem?_eq_some_iff.mp hqL).1).trans hqL) rfl 2 (by decide) (hts _ (List.mem_of_getElem? (i := 6) rfl)) (fun _ h => h) (v := .ref (F 56)) rfl dX4_placeFor_164 ?_
  refine x_callJ Cx (X := []) (o := (a, .inr (1, [.int 0, .int 0, .null, .null, .null, .null, .int 0, .int 0, .int 0]))) hP hD hS xOk_t (fun _ => trivial) (As := [.int x2, .int x1, .ref (F 56)]) (rest := [.ref a]) (E2 := fun _ => True) (c_X1_init l D Y (fun _ => True) xOk_t (zW Y F G S ++ []) _ 1 a x2 x1 (F 56) RX1 rfl (by simp)) (cwI 3 hts gX4_placeFor_X1_init rfl rfl rfl (hts _ (List.mem_of_getElem? (i := 21) rfl)) (hts _ (List.mem_of_getElem? (i := 60) rfl)) (hts _ (List.mem_of_getElem? (i := 61) rfl)) rfl (by decide +kernel) ⟨Nat.le_of_ble_eq_true rfl, Nat.le_of_ble_eq_true rfl⟩) rfl hl.1 rfl (Nat.le_of_ble_eq_true rfl) dX4_placeFor_167 ⟨Nat.le_of_ble_eq_true rfl, Nat.le_of_ble_eq_true rfl⟩ (fun u H locs hP hD hS => ?_)
  refine lv_astore_n (lv' := [(3, .ref a), (0, .ref (zad F G (60 + 3 * i0))), (1, .int x1), (2, .int x2)]) hx hb dX4_placeFor_170 rfl hl (by decide) rfl (fun ls hl => ?_)
  refine lv_goto (tgt := 188) hx hb dX4_placeFor_171 (by decide) ?_
  exact t_X4_placeFor_B188 C0 S i0 hi0 x1 x2 hx1 res 1 a (u 0) (u 1) (u 2) RX1 rfl (Or.inr (by decide +kernel)) hres H locs ls hP hD hS hl
set_option maxHeartbeats 4000000 in
set_option maxRecDepth 100000 in
theorem t_X4_placeFor_N5 {p : Program} {l : Launch} {e : Env} {s : State} {m : MethodId} {args : Array Value} {below : List Frame} {meth : Method} {c : Code} {D : va_G} {Y : Nat → ClassId} {F : Nat → Nat} {A : Nat → Prop} {G : zG} (C0 : zCx p s m args meth c D Y F A RX4 cX4_placeFor 4 (some (.object "CarbonCopies$Person")) wsX4_placeFor) (S : zSt) (i0 : Nat) (hi0 : i0 < 3) (x1 x2 : Int32) (hx1 : zin x1 6 = true) (res : Option Nat × (Nat → Nat) × zSt) (hres : (some (6 * i0 + x1.toNatClampNeg), zMkP (zpk G) (6 * i0 + x1.toNatClampNeg) (5 + 1), zNewS S (6 * i0 + x1.toNatClampNeg) x2 x1) = res) (H : Heap) (locs : List Loc) (ls : Array Slot) (hw : zH D Y F A G S H) (hS : va_S A s.heap H locs) (hl : lv_has ls 4 [(0, .ref (zad F G (60 + 3 * i0))), (1, .int x1), (2, .int x2)]) : W p l e { frames := 4, cells := 4, slots := 69, locals := 81 } s m args below meth c H locs 0 0 (MQ below (zQqG D Y F A G i0 res) args s 4 69 A) (F0 m 174 ls []) := by
  obtain ⟨hx, hb, hml, hr, hown, hts, hK, hA, hlk, hN⟩ := id C0
  have Cx : xCx p s m args meth c D Y (fun _ => True) A RX4 cX4_placeFor 4 (some (.object "CarbonCopies$Person")) wsX4_placeFor := ⟨hx, hb, hml, hr, hown, hts, hK, hA, hlk, trivial⟩
  have hP : va_P D vwCl (zW Y F G S ++ []) H := by rw [List.append_nil]; exact hw.1
  have hD : va_D A (zW Y F G S ++ []) := by rw [List.append_nil]; exact hw.2
  obtain ⟨qL, hqL, -⟩ := zAt (Y := Y) (F := F) (S := S) (zld_E (G := G) hi0)
  rw [zld_B hi0] at hqL
  refine x_new Cx hP hD hS (C := RX5) (T := TX5) (N := 9) (ci := 5) in_X4_placeFor_X5 tyX5 tyX5_ok 0 0 0 (hts _ (List.mem_of_getElem? (i := 22) rfl)) (hts _ (List.mem_of_getElem? (i := 23) rfl)) (hts _ (List.mem_of_getElem? (i := 24) rfl)) rfl [.int 0, .int 0, .null, .null, .null, .null, .int 0, .int 0, .int 0] fsX5 (Nat.le_of_ble_eq_true rfl) (Nat.le_of_ble_eq_true rfl) dX4_placeFor_174 (fun a H hP hD hS => ?_)
  refine lv_dup hx hb dX4_placeFor_177 rfl ?_
  refine lv_iload_n hx hb dX4_placeFor_178 rfl (lv_at hl 2 rfl) ?_
  refine lv_iload_n hx hb dX4_placeFor_179 rfl (lv_at hl 1 rfl) ?_
  refine lv_aload_n hx hb dX4_placeFor_180 rfl (lv_at hl 0 rfl) ?_
  refine va_get hx hb hts in_X4_placeFor_X4 hown hK hP qL ((List.getElem?_append_left (List.getElem?_eq_some_iff.mp hqL).1).trans hqL) rfl 2 (by decide) (hts _ (List.mem_of_getElem? (i := 6) rfl)) (fun _ h => h) (v := .ref (F 56)) rfl dX4_placeFor_181 ?_
  refine x_callJ Cx (X := []) (o := (a, .inr (5, [.int 0, .int 0, .null, .null, .null, .null, .int 0, .int 0, .int 0]))) hP hD hS xOk_t (fun _ => trivial) (As := [.int x2, .int x1, .ref (F 56)]) (rest := [.ref a]) (E2 := fun _ => True) (c_X5_init l D Y (fun _ => True) xOk_t (zW Y F G S ++ []) _ 5 a x2 x1 (F 56) RX5 rfl (by simp)) (cwI 3 hts gX4_placeFor_X5_init rfl rfl rfl (hts _ (List.mem_of_getElem? (i := 24) rfl)) (hts _ (List.mem_of_getElem? (i := 64) rfl)) (hts _ (List.mem_of_getElem? (i := 29) rfl)) rfl (by decide +kernel) ⟨Nat.le_of_ble_eq_true rfl, Nat.le_of_ble_eq_true rfl⟩) rfl hl.1 rfl (Nat.le_of_ble_eq_true rfl) dX4_placeFor_184 ⟨Nat.le_of_ble_eq_true rfl, Nat.le_of_ble_eq_true rfl⟩ (fun u H locs hP hD hS => ?_)
  refine lv_astore_n (lv' := [(3, .ref a), (0, .ref (zad F G (60 + 3 * i0))), (1, .int x1), (2, .int x2)]) hx hb dX4_placeFor_187 rfl hl (by decide) rfl (fun ls hl => ?_)
  exact t_X4_placeFor_B188 C0 S i0 hi0 x1 x2 hx1 res 5 a (u 0) (u 1) (u 2) RX5 rfl (Or.inl rfl) hres H locs ls hP hD hS hl
set_option maxHeartbeats 4000000 in
set_option maxRecDepth 100000 in
theorem t_X4_placeFor_B33 {p : Program} {l : Launch} {e : Env} {s : State} {m : MethodId} {args : Array Value} {below : List Frame} {meth : Method} {c : Code} {D : va_G} {Y : Nat → ClassId} {F : Nat → Nat} {A : Nat → Prop} {G : zG} (C0 : zCx p s m args meth c D Y F A RX4 cX4_placeFor 4 (some (.object "CarbonCopies$Person")) wsX4_placeFor) (S : zSt) (i0 : Nat) (hi0 : i0 < 3) (x1 x2 : Int32) (hx1 : zin x1 6 = true) (res : Option Nat × (Nat → Nat) × zSt) (h : M_X4_placeFor_B33 (zpk G) S i0 x1 x2 = some res) (H : Heap) (locs : List Loc) (ls : Array Slot) (hw : zH D Y F A G S H) (hS : va_S A s.heap H locs) (hl : lv_has ls 4 [(0, .ref (zad F G (60 + 3 * i0))), (1, .int x1), (2, .int x2)]) : W p l e { frames := 4, cells := 4, slots := 69, locals := 81 } s m args below meth c H locs 0 0 (MQ below (zQqG D Y F A G i0 res) args s 4 69 A) (F0 m 33 ls []) := by
  obtain ⟨hx, hb, hml, hr, hown, hts, hK, hA, hlk, hN⟩ := id C0
  unfold M_X4_placeFor_B33 at h
  refine lv_iload_n hx hb dX4_placeFor_33 rfl (lv_at hl 2 rfl) ?_
  by_cases c1 : x2 = 1
  · refine z_top c1 ?_
    refine lv_tableIn (off := 38) (tgt := 72) hx hb dX4_placeFor_34 (by decide) (by decide) rfl (by decide) ?_
    exact t_X4_placeFor_N8 C0 S i0 hi0 x1 x2 hx1 res (by rw [← Option.some.inj h, c1]; rfl) H locs ls hw hS hl
  by_cases c2 : x2 = 2
  · refine z_top c2 ?_
    refine lv_tableIn (off := 55) (tgt := 89) hx hb dX4_placeFor_34 (by decide) (by decide) rfl (by decide) ?_
    exact t_X4_placeFor_N2 C0 S i0 hi0 x1 x2 hx1 res (by rw [← Option.some.inj h, c2]; rfl) H locs ls hw hS hl
  by_cases c3 : x2 = 3
  · refine z_top c3 ?_
    refine lv_tableIn (off := 72) (tgt := 106) hx hb dX4_placeFor_34 (by decide) (by decide) rfl (by decide) ?_
    exact t_X4_placeFor_N10 C0 S i0 hi0 x1 x2 hx1 res (by rw [← Option.some.inj h, c3]; rfl) H locs ls hw hS hl
  by_cases c4 : x2 = 4
  · refine z_top c4 ?_
    refine lv_tableIn (off := 89) (tgt := 123) hx hb dX4_placeFor_34 (by decide) (by decide) rfl (by decide) ?_
    exact t_X4_placeFor_N3 C0 S i0 hi0 x1 x2 hx1 res (by rw [← Option.some.inj h, c4]; rfl) H locs ls hw hS hl
  by_cases c5 : x2 = 5
  · refine z_top c5 ?_
    refine lv_tableIn (off := 106) (tgt := 140) hx hb dX4_placeFor_34 (by decide) (by decide) rfl (by decide) ?_
    exact t_X4_placeFor_N0 C0 S i0 hi0 x1 x2 hx1 res (by rw [← Option.some.inj h, c5]; rfl) H locs ls hw hS hl
  by_cases c6 : x2 = 6
  · refine z_top c6 ?_
    refine lv_tableIn (off := 123) (tgt := 157) hx hb dX4_placeFor_34 (by decide) (by decide) rfl (by decide) ?_
    exact t_X4_placeFor_N1 C0 S i0 hi0 x1 x2 hx1 res (by rw [← Option.some.inj h, c6]; rfl) H locs ls hw hS hl
  have n1 : Int32.toInt x2 ≠ 1 := fun q => c1 (Int32.toInt_inj.mp (q.trans (by decide)))
  have n2 : Int32.toInt x2 ≠ 2 := fun q => c2 (Int32.toInt_inj.mp (q.trans (by decide)))
  have n3 : Int32.toInt x2 ≠ 3 := fun q => c3 (Int32.toInt_inj.mp (q.trans (by decide)))
  have n4 : Int32.toInt x2 ≠ 4 := fun q => c4 (Int32.toInt_inj.mp (q.trans (by decide)))
  have n5 : Int32.toInt x2 ≠ 5 := fun q => c5 (Int32.toInt_inj.mp (q.trans (by decide)))
  have n6 : Int32.toInt x2 ≠ 6 := fun q => c6 (Int32.toInt_inj.mp (q.trans (by decide)))
  refine lv_tableOut (tgt := 174) hx hb dX4_placeFor_34 (by omega) (by decide) ?_
  exact t_X4_placeFor_N5 C0 S i0 hi0 x1 x2 hx1 res (by rw [← Option.some.inj h]; unfold zcn; rw [if_neg c1, if_neg c2, if_neg c3, if_neg c4, if_neg c5, if_neg c6]) H locs ls hw hS hl
set_option maxHeartbeats 4000000 in
set_option maxRecDepth 100000 in
theorem c_X4_placeFor (l : Launch) (D : va_G) (Y : Nat → ClassId) (F : Nat → Nat) (G : zG) (S : zSt) (sz : Nat) (i0 : Nat) (hi0 : i0 < 3) (x1 x2 : Int32) (res : Option Nat × (Nat → Nat) × zSt) (h : M_X4_placeFor (zpk G) S i0 x1 x2 = some res) : Met l yX4_placeFor wsX4_placeFor { frames := 4, cells := 4, slots := 69, locals := 81 } (zPc D Y F G S sz [.ref (zad F G (60 + 3 * i0)), .int x1, .int x2]) (zQqG D Y F (zAo F G sz) G i0 res) 4 69 (zAo F G sz) := by
  unfold M_X4_placeFor at h
  refine zMet (cc := cX4_placeFor) (maxL := 4) (ret := (some (.object "CarbonCopies$Person"))) (own := RX4) (by decide +kernel) rfl rfl (Nat.le_of_ble_eq_true rfl) ?_
  intro p e s m args below meth c C0 hin hw hS ls hl
  have hl : lv_has ls 4 [(0, .ref (zad F G (60 + 3 * i0))), (1, .int x1), (2, .int x2)] := hl
  generalize zAo F G sz = A at C0 hw hS ⊢
  obtain ⟨hx, hb, hml, hr, hown, hts, hK, hA, hlk, hN⟩ := id C0
  refine lv_iload_n hx hb dX4_placeFor_0 rfl (lv_at hl 1 rfl) ?_
  refine lv_if_lt (tgt := 10) hx hb dX4_placeFor_1 (by decide) (fun c1 => ?_) (fun c1 => ?_)
  · replace h := z_ifp c1 h
    refine lv_null hx hb dX4_placeFor_10 ?_
    exact z_retqG (G := G) C0 hw hS none rfl (Nat.zero_le _) (Nat.zero_le _) (fun _ _ => rfl) (Option.some.inj h) dX4_placeFor_11
  · replace h := z_ifn c1 h
    refine lv_iload_n hx hb dX4_placeFor_4 rfl (lv_at hl 1 rfl) ?_
    refine lv_bipush (v := 6) hx hb dX4_placeFor_5 (by decide) ?_
    refine lv_icmp_lt (tgt := 12) hx hb dX4_placeFor_7 (by decide) (fun c2 => ?_) (fun c2 => ?_)
    · replace h := z_ifp c2 h
      obtain ⟨b1, h⟩ := z_gd h
      refine lv_aload_n hx hb dX4_placeFor_12 rfl (lv_at hl 0 rfl) ?_
      refine z_getU C0 in_X4_placeFor_X4 (C := RX4) (T := TX4) (N := 6) hw (k := (60 + 3 * i0)) (ci := 4) (v := .ref (zad F G (60 + 3 * i0 + 1))) (zld_E hi0) rfl (zld_B hi0) rfl 0 (by decide) rfl 1 rfl (Or.inl rfl) dX4_placeFor_13 ?_
      refine lv_iload_n hx hb dX4_placeFor_16 rfl (lv_at hl 1 rfl) ?_
      refine z_aald C0 hw (k := (60 + 3 * i0 + 1)) (t0 := 2) (zld_E1 hi0) (zld_BP hi0) rfl (zin_in b1) rfl dX4_placeFor_17 ?_
      obtain ⟨wq, ewq⟩ : ∃ wq, zwho (zpk G) (6 * i0 + x1.toNatClampNeg) = wq := ⟨_, rfl⟩
      rw [ewq] at h
      refine z_topv (y := va_rf (wq.map (zpa F G))) (by subst ewq; rfl) ?_
      rcases wq with _ | q
      · replace h := zm_n h
        refine z_topv (y := .null) rfl ?_
        refine lv_astore_nN (lv' := [(3, .null), (0, .ref (zad F G (60 + 3 * i0))), (1, .int x1), (2, .int x2)]) hx hb dX4_placeFor_18 rfl hl (by decide) rfl (fun ls hl => ?_)
        refine lv_aload_nN hx hb dX4_placeFor_19 rfl (lv_at hl 0 rfl) ?_
        refine lv_ifnullN (tgt := 33) hx hb dX4_placeFor_20 (by decide) ?_
        exact t_X4_placeFor_B33 C0 S i0 hi0 x1 x2 b1 res h _ _ _ hw hS (lv_sub hl [1, 2, 3] rfl)
      · replace h := zm_s h
        obtain ⟨bq, h⟩ := z_gd h
        refine z_topv (y := .ref (zad F G (100 + 4 * q))) rfl ?_
        refine lv_astore_n (lv' := [(3, .ref (zad F G (100 + 4 * q))), (0, .ref (zad F G (60 + 3 * i0))), (1, .int x1), (2, .int x2)]) hx hb dX4_placeFor_18 rfl hl (by decide) rfl (fun ls hl => ?_)
        refine lv_aload_n hx hb dX4_placeFor_19 rfl (lv_at hl 0 rfl) ?_
        refine lv_ifnull hx hb dX4_placeFor_20 ?_
        refine lv_aload_n hx hb dX4_placeFor_23 rfl (lv_at hl 0 rfl) ?_
        refine z_getP C0 inP_X4_placeFor hw bq 0 (by decide) (v := .int (zsc S (100 + 4 * q) 0)) rfl 2 rfl (Or.inl rfl) dX4_placeFor_24 ?_
        refine lv_iload_n hx hb dX4_placeFor_27 rfl (lv_at hl 3 rfl) ?_
        refine lv_icmp_ne (tgt := 33) hx hb dX4_placeFor_28 (by decide) (fun c3 => ?_) (fun c3 => ?_)
        · replace h := z_ifn c3 h
          exact t_X4_placeFor_B33 C0 S i0 hi0 x1 x2 b1 res h _ _ _ hw hS (lv_sub hl [1, 2, 3] rfl)
        · replace h := z_ifp c3 h
          refine lv_aload_n hx hb dX4_placeFor_31 rfl (lv_at hl 0 rfl) ?_
          exact z_retqG (G := G) C0 hw hS (some q) rfl (Nat.zero_le _) (Nat.zero_le _) (fun _ _ => rfl) (Option.some.inj h) dX4_placeFor_32
    · replace h := z_ifn c2 h
      refine lv_null hx hb dX4_placeFor_10 ?_
      exact z_retqG (G := G) C0 hw hS none rfl (Nat.zero_le _) (Nat.zero_le _) (fun _ _ => rfl) (Option.some.inj h) dX4_placeFor_11
