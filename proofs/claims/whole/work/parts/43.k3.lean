set_option maxRecDepth 20000 in
theorem in_X11_bear_X11 : ∀ w ∈ u_ws RX11 TX11 14, w ∈ wsX11_bear := by decide +kernel
set_option maxRecDepth 20000 in
theorem in_X11_bear_X4 : ∀ w ∈ u_ws RX4 TX4 6, w ∈ wsX11_bear := by decide +kernel
set_option maxRecDepth 20000 in
theorem in_X11_dies_X11 : ∀ w ∈ u_ws RX11 TX11 14, w ∈ wsX11_dies := by decide +kernel
set_option maxRecDepth 20000 in
theorem in_X11_done_X11 : ∀ w ∈ u_ws RX11 TX11 14, w ∈ wsX11_done := by decide +kernel
set_option maxRecDepth 20000 in
theorem in_X11_heir_X11 : ∀ w ∈ u_ws RX11 TX11 14, w ∈ wsX11_heir := by decide +kernel
set_option maxRecDepth 20000 in
theorem in_X11_heir_X4 : ∀ w ∈ u_ws RX4 TX4 6, w ∈ wsX11_heir := by decide +kernel
set_option maxRecDepth 20000 in
theorem in_X11_judge_X11 : ∀ w ∈ u_ws RX11 TX11 14, w ∈ wsX11_judge := by decide +kernel
set_option maxRecDepth 20000 in
theorem in_X11_pairBest_X11 : ∀ w ∈ u_ws RX11 TX11 14, w ∈ wsX11_pairBest := by decide +kernel
set_option maxRecDepth 20000 in
theorem in_X11_pairBest_X4 : ∀ w ∈ u_ws RX4 TX4 6, w ∈ wsX11_pairBest := by decide +kernel
set_option maxRecDepth 20000 in
theorem in_X11_paired_X11 : ∀ w ∈ u_ws RX11 TX11 14, w ∈ wsX11_paired := by decide +kernel
set_option maxRecDepth 20000 in
theorem in_X11_press_X11 : ∀ w ∈ u_ws RX11 TX11 14, w ∈ wsX11_press := by decide +kernel
set_option maxRecDepth 20000 in
theorem in_X11_rub_X11 : ∀ w ∈ u_ws RX11 TX11 14, w ∈ wsX11_rub := by decide +kernel
set_option maxRecDepth 20000 in
theorem in_X11_seed_X11 : ∀ w ∈ u_ws RX11 TX11 14, w ∈ wsX11_seed := by decide +kernel
set_option maxRecDepth 20000 in
theorem in_X11_seed_X4 : ∀ w ∈ u_ws RX4 TX4 6, w ∈ wsX11_seed := by decide +kernel
set_option maxRecDepth 20000 in
theorem in_X11_straight_X11 : ∀ w ∈ u_ws RX11 TX11 14, w ∈ wsX11_straight := by decide +kernel
set_option maxRecDepth 20000 in
theorem in_X11_years_X11 : ∀ w ∈ u_ws RX11 TX11 14, w ∈ wsX11_years := by decide +kernel
set_option maxRecDepth 20000 in
theorem in_X11_years_X4 : ∀ w ∈ u_ws RX4 TX4 6, w ∈ wsX11_years := by decide +kernel
set_option maxRecDepth 20000 in
theorem inP_X11_dies : ∀ w ∈ wsPers, w ∈ wsX11_dies := by decide +kernel
set_option maxRecDepth 20000 in
theorem inP_X11_paired : ∀ w ∈ wsPers, w ∈ wsX11_paired := by decide +kernel
def M_X11_pairBest_B193 (pk : Nat → Nat) (q1 : Nat) (q2 : Nat) (K137 : zSt → Int32 → Int32 → Int32 → Option (Int32 × zSt)) (S : zSt) (x3 : Int32) (x5 : Int32) (y0 : Int32) (y1 : Int32) : Option (Int32 × zSt) :=
  K137 S x3 ((y1 ||| y0)) ((x5 + 1))
set_option maxHeartbeats 4000000 in
set_option maxRecDepth 100000 in
theorem t_X11_pairBest_B193 {p : Program} {l : Launch} {e : Env} {s : State} {m : MethodId} {args : Array Value} {below : List Frame} {meth : Method} {c : Code} {D : va_G} {Y : Nat → ClassId} {F : Nat → Nat} {A : Nat → Prop} {G : zG} (C0 : zCx p s m args meth c D Y F A RX11 cX11_pairBest 7 (some .int) wsX11_pairBest) (q1 : Nat) (q2 : Nat) (hq1 : zOKb (zpk G) q1 = true) (hq2 : zOKb (zpk G) q2 = true) (res : Int32 × zSt) (K137 : zSt → Int32 → Int32 → Int32 → Option (Int32 × zSt)) (hK137 : ∀ (S : zSt) (x3 : Int32) (x4 : Int32) (x5 : Int32), K137 S x3 x4 x5 = some res → ∀ (H : Heap) (locs : List Loc) (ls : Array Slot), zH D Y F A G S H → va_S A s.heap H locs → lv_has ls 7 [(0, .ref (F 20)), (1, .ref (zad F G (100 + 4 * q1))), (2, .ref (zad F G (100 + 4 * q2))), (3, .int x3), (4, .int x4), (5, .int x5)] → W p l e (zRm 3 69) s m args below meth c H locs 0 0 (MQ below (zQi D Y F A G res) args s 0 0 A) (F0 m 137 ls [])) : ∀ (S : zSt) (x3 : Int32) (x5 : Int32) (y0 : Int32) (y1 : Int32), M_X11_pairBest_B193 (zpk G) q1 q2 K137 S x3 x5 y0 y1 = some res → ∀ (H : Heap) (locs : List Loc) (ls : Array Slot), zH D Y F A G S H → va_S A s.heap H locs → lv_has ls 7 [(0, .ref (F 20)), (1, .ref (zad F G (100 + 4 * q1))), (2, .ref (zad F G (100 + 4 * q2))), (3, .int x3), (5, .int x5)] → W p l e (zRm 3 69) s m args below meth c H locs 0 0 (MQ below (zQi D Y F A G res) args s 0 0 A) (F0 m 193 ls [.int y0, .int y1]) := by
  obtain ⟨hx, hb, hml, hr, hown, hts, hK, hA, hlk, hN⟩ := id C0
  intro S x3 x5 y0 y1 h H locs ls hw hS hl
  unfold M_X11_pairBest_B193 at h
  refine lv_ior hx hb dX11_pairBest_193 ?_
  refine lv_istore (lv' := [(4, .int ((y1 ||| y0))), (0, .ref (F 20)), (1, .ref (zad F G (100 + 4 * q1))), (2, .ref (zad F G (100 + 4 * q2))), (3, .int x3), (5, .int x5)]) hx hb dX11_pairBest_194 hl (by decide) rfl (fun ls hl => ?_)
  refine lv_iinc (v := (x5 + 1)) (lv' := [(5, .int ((x5 + 1))), (4, .int ((y1 ||| y0))), (0, .ref (F 20)), (1, .ref (zad F G (100 + 4 * q1))), (2, .ref (zad F G (100 + 4 * q2))), (3, .int x3)]) hx hb dX11_pairBest_196 hl (k := 5) rfl rfl (by decide) rfl (fun ls hl => ?_)
  refine lv_goto (tgt := 137) hx hb dX11_pairBest_199 (by decide) ?_
  exact hK137 S x3 ((y1 ||| y0)) ((x5 + 1)) h _ _ _ hw hS (lv_sub hl [2, 3, 4, 5, 1, 0] rfl)
def M_X11_pairBest_B166 (pk : Nat → Nat) (q1 : Nat) (q2 : Nat) (K137 : zSt → Int32 → Int32 → Int32 → Option (Int32 × zSt)) (S : zSt) (x3 : Int32) (x4 : Int32) (x5 : Int32) (y0 : Int32) : Option (Int32 × zSt) :=
  zg (zin x5 6) ((if y0 = (-1) then M_X11_pairBest_B193 pk q1 q2 K137 ((zAs S 26 (Int32.toNatClampNeg x5) y0)) x3 x5 0 x4 else M_X11_pairBest_B193 pk q1 q2 K137 ((zAs S 26 (Int32.toNatClampNeg x5) y0)) x3 x5 (((1 : Int32) <<< (y0 &&& 31))) x4))
set_option maxHeartbeats 4000000 in
set_option maxRecDepth 100000 in
theorem t_X11_pairBest_B166 {p : Program} {l : Launch} {e : Env} {s : State} {m : MethodId} {args : Array Value} {below : List Frame} {meth : Method} {c : Code} {D : va_G} {Y : Nat → ClassId} {F : Nat → Nat} {A : Nat → Prop} {G : zG} (C0 : zCx p s m args meth c D Y F A RX11 cX11_pairBest 7 (some .int) wsX11_pairBest) (q1 : Nat) (q2 : Nat) (hq1 : zOKb (zpk G) q1 = true) (hq2 : zOKb (zpk G) q2 = true) (res : Int32 × zSt) (K137 : zSt → Int32 → Int32 → Int32 → Option (Int32 × zSt)) (hK137 : ∀ (S : zSt) (x3 : Int32) (x4 : Int32) (x5 : Int32), K137 S x3 x4 x5 = some res → ∀ (H : Heap) (locs : List Loc) (ls : Array Slot), zH D Y F A G S H → va_S A s.heap H locs → lv_has ls 7 [(0, .ref (F 20)), (1, .ref (zad F G (100 + 4 * q1))), (2, .ref (zad F G (100 + 4 * q2))), (3, .int x3), (4, .int x4), (5, .int x5)] → W p l e (zRm 3 69) s m args below meth c H locs 0 0 (MQ below (zQi D Y F A G res) args s 0 0 A) (F0 m 137 ls [])) : ∀ (S : zSt) (x3 : Int32) (x4 : Int32) (x5 : Int32) (y0 : Int32), M_X11_pairBest_B166 (zpk G) q1 q2 K137 S x3 x4 x5 y0 = some res → ∀ (H : Heap) (locs : List Loc) (ls : Array Slot), zH D Y F A G S H → va_S A s.heap H locs → lv_has ls 7 [(0, .ref (F 20)), (1, .ref (zad F G (100 + 4 * q1))), (2, .ref (zad F G (100 + 4 * q2))), (3, .int x3), (4, .int x4), (5, .int x5)] → W p l e (zRm 3 69) s m args below meth c H locs 0 0 (MQ below (zQi D Y F A G res) args s 0 0 A) (F0 m 166 ls [.int y0]) := by
  obtain ⟨hx, hb, hml, hr, hown, hts, hK, hA, hlk, hN⟩ := id C0
  intro S x3 x4 x5 y0 h H locs ls hw hS hl
  unfold M_X11_pairBest_B166 at h
  refine lv_istore (lv' := [(6, .int y0), (0, .ref (F 20)), (1, .ref (zad F G (100 + 4 * q1))), (2, .ref (zad F G (100 + 4 * q2))), (3, .int x3), (4, .int x4), (5, .int x5)]) hx hb dX11_pairBest_166 hl (by decide) rfl (fun ls hl => ?_)
  refine lv_aload_n hx hb dX11_pairBest_168 rfl (lv_at hl 1 rfl) ?_
  refine z_getU C0 in_X11_pairBest_X11 (C := RX11) (T := TX11) (N := 14) hw (k := 20) (ci := 11) (v := .ref (F 26)) rfl rfl rfl rfl 10 (by decide) rfl 6 rfl (Or.inl rfl) dX11_pairBest_169 ?_
  refine lv_iload hx hb dX11_pairBest_172 (lv_at hl 6 rfl) ?_
  refine lv_iload hx hb dX11_pairBest_174 (lv_at hl 0 rfl) ?_
  obtain ⟨b8, h⟩ := z_gd h
  refine z_iasts C0 hw hS 26 rfl rfl zri_26 (zin_in b8) dX11_pairBest_176 (fun H locs hw hS => ?_)
  refine lv_iload hx hb dX11_pairBest_177 (lv_at hl 5 rfl) ?_
  refine lv_iload hx hb dX11_pairBest_179 (lv_at hl 0 rfl) ?_
  refine lv_iconst (v := (-1)) hx hb dX11_pairBest_181 (by decide) ?_
  refine lv_icmp_ne (tgt := 189) hx hb dX11_pairBest_182 (by decide) (fun c9 => ?_) (fun c9 => ?_)
  · replace h := z_ifn c9 h
    refine lv_iconst (v := 1) hx hb dX11_pairBest_189 (by decide) ?_
    refine lv_iload hx hb dX11_pairBest_190 (lv_at hl 0 rfl) ?_
    refine lv_ishl hx hb dX11_pairBest_192 ?_
    exact t_X11_pairBest_B193 C0 q1 q2 hq1 hq2 res K137 hK137 ((zAs S 26 (Int32.toNatClampNeg x5) y0)) x3 x5 (((1 : Int32) <<< (y0 &&& 31))) x4 h _ _ _ hw hS (lv_sub hl [1, 2, 3, 4, 6] rfl)
  · replace h := z_ifp c9 h
    refine lv_iconst (v := 0) hx hb dX11_pairBest_185 (by decide) ?_
    refine lv_goto (tgt := 193) hx hb dX11_pairBest_186 (by decide) ?_
    exact t_X11_pairBest_B193 C0 q1 q2 hq1 hq2 res K137 hK137 ((zAs S 26 (Int32.toNatClampNeg x5) y0)) x3 x5 0 x4 h _ _ _ hw hS (lv_sub hl [1, 2, 3, 4, 6] rfl)
def M_X11_pairBest_B137 (pk : Nat → Nat) (q1 : Nat) (q2 : Nat) : Nat → zSt → Int32 → Int32 → Int32 → Option (Int32 × zSt)
  | 0, _, _, _, _ => none
  | n + 1, S, x3, x4, x5 =>
  (if 6 ≤ x5 then some (x3, S) else Option.bind (M_X5_isLeft pk S q1 x5) (fun w6 => (if w6 = 0 then M_X11_pairBest_B166 pk q1 q2 (fun S_ x3_ x4_ x5_ => M_X11_pairBest_B137 pk q1 q2 n S_ x3_ x4_ x5_) S x3 x4 x5 (-1) else Option.bind (M_X11_firstBest pk S q2 x5 x4) (fun w10 => M_X11_pairBest_B166 pk q1 q2 (fun S_ x3_ x4_ x5_ => M_X11_pairBest_B137 pk q1 q2 n S_ x3_ x4_ x5_) S x3 x4 x5 w10))))
set_option maxHeartbeats 4000000 in
set_option maxRecDepth 100000 in
theorem t_X11_pairBest_B137 {p : Program} {l : Launch} {e : Env} {s : State} {m : MethodId} {args : Array Value} {below : List Frame} {meth : Method} {c : Code} {D : va_G} {Y : Nat → ClassId} {F : Nat → Nat} {A : Nat → Prop} {G : zG} (C0 : zCx p s m args meth c D Y F A RX11 cX11_pairBest 7 (some .int) wsX11_pairBest) (q1 : Nat) (q2 : Nat) (hq1 : zOKb (zpk G) q1 = true) (hq2 : zOKb (zpk G) q2 = true) (res : Int32 × zSt) : ∀ (n : Nat), ∀ (S : zSt) (x3 : Int32) (x4 : Int32) (x5 : Int32), M_X11_pairBest_B137 (zpk G) q1 q2 n S x3 x4 x5 = some res → ∀ (H : Heap) (locs : List Loc) (ls : Array Slot), zH D Y F A G S H → va_S A s.heap H locs → lv_has ls 7 [(0, .ref (F 20)), (1, .ref (zad F G (100 + 4 * q1))), (2, .ref (zad F G (100 + 4 * q2))), (3, .int x3), (4, .int x4), (5, .int x5)] → W p l e (zRm 3 69) s m args below meth c H locs 0 0 (MQ below (zQi D Y F A G res) args s 0 0 A) (F0 m 137 ls []) := by
  obtain ⟨hx, hb, hml, hr, hown, hts, hK, hA, hlk, hN⟩ := id C0
  intro n
  induction n with
  | zero =>
    intro S x3 x4 x5 h
    unfold M_X11_pairBest_B137 at h
    cases h
  | succ n ih =>
    intro S x3 x4 x5 h H locs ls hw hS hl
    rw [M_X11_pairBest_B137] at h
    refine lv_iload hx hb dX11_pairBest_137 (lv_at hl 5 rfl) ?_
    refine lv_bipush (v := 6) hx hb dX11_pairBest_139 (by decide) ?_
    refine lv_icmp_ge (tgt := 202) hx hb dX11_pairBest_141 (by decide) (fun c5 => ?_) (fun c5 => ?_)
    · replace h := z_ifp c5 h
      refine lv_iload_n hx hb dX11_pairBest_202 rfl (lv_at hl 3 rfl) ?_
      exact z_reti C0 hw hS (Option.some.inj h) dX11_pairBest_203
    · replace h := z_ifn c5 h
      refine lv_aload_n hx hb dX11_pairBest_144 rfl (lv_at hl 1 rfl) ?_
      refine lv_iload hx hb dX11_pairBest_145 (lv_at hl 5 rfl) ?_
      obtain ⟨w6, ew6, h⟩ := z_bd h
      refine z_goi C0 hw hS (res := (w6, S)) (rest := []) (arr := (Value.ref (zad F G (100 + 4 * q1)) :: [.int x5]).toArray) ?_ (fun H locs hw hS => ?_)
      · rcases zOK_cases hq1 with zz | zz | zz | zz | zz | zz | zz
        · exact va_runU (z_fix C0) (c_X5_isLeft l D Y F G S _ q1 hq1 x5 w6 ew6) (va_cwU 1 hts gX11_pairBest_X5_isLeft_u181X0 rfl rfl rfl rfl (by decide +kernel) ⟨Nat.le_of_ble_eq_true rfl, Nat.le_of_ble_eq_true rfl⟩) ⟨zPc_blind, z_prec C0 hw hq1 (ci := 0) zz rfl, z_give C0 hw hS _⟩ rfl rfl hl.1 rfl (lv_room (Nat.le_of_ble_eq_true rfl)) dX11_pairBest_147 ⟨Nat.zero_le _, Nat.zero_le _⟩
        · exact va_runU (z_fix C0) (c_X5_isLeft l D Y F G S _ q1 hq1 x5 w6 ew6) (va_cwU 1 hts gX11_pairBest_X5_isLeft_u181X1 rfl rfl rfl rfl (by decide +kernel) ⟨Nat.le_of_ble_eq_true rfl, Nat.le_of_ble_eq_true rfl⟩) ⟨zPc_blind, z_prec C0 hw hq1 (ci := 1) zz rfl, z_give C0 hw hS _⟩ rfl rfl hl.1 rfl (lv_room (Nat.le_of_ble_eq_true rfl)) dX11_pairBest_147 ⟨Nat.zero_le _, Nat.zero_le _⟩
        · exact va_runU (z_fix C0) (c_X5_isLeft l D Y F G S _ q1 hq1 x5 w6 ew6) (va_cwU 1 hts gX11_pairBest_X5_isLeft_u181X2 rfl rfl rfl rfl (by decide +kernel) ⟨Nat.le_of_ble_eq_true rfl, Nat.le_of_ble_eq_true rfl⟩) ⟨zPc_blind, z_prec C0 hw hq1 (ci := 2) zz rfl, z_give C0 hw hS _⟩ rfl rfl hl.1 rfl (lv_room (Nat.le_of_ble_eq_true rfl)) dX11_pairBest_147 ⟨Nat.zero_le _, Nat.zero_le _⟩
        · exact va_runU (z_fix C0) (c_X5_isLeft l D Y F G S _ q1 hq1 x5 w6 ew6) (va_cwU 1 hts gX11_pairBest_X5_isLeft_u181X3 rfl rfl rfl rfl (by decide +kernel) ⟨Nat.le_of_ble_eq_true rfl, Nat.le_of_ble_eq_true rfl⟩) ⟨zPc_blind, z_prec C0 hw hq1 (ci := 3) zz rfl, z_give C0 hw hS _⟩ rfl rfl hl.1 rfl (lv_room (Nat.le_of_ble_eq_true rfl)) dX11_pairBest_147 ⟨Nat.zero_le _, Nat.zero_le _⟩
        · exact va_runV (z_fix C0) (c_X5_isLeft l D Y F G S _ q1 hq1 x5 w6 ew6) (cwV 1 hts gX11_pairBest_X5_isLeft rfl rfl rfl (by decide +kernel) ⟨Nat.le_of_ble_eq_true rfl, Nat.le_of_ble_eq_true rfl⟩) ⟨zPc_blind, z_prec C0 hw hq1 (ci := 5) zz rfl, z_give C0 hw hS _⟩ rfl rfl hl.1 rfl (lv_room (Nat.le_of_ble_eq_true rfl)) dX11_pairBest_147 ⟨Nat.zero_le _, Nat.zero_le _⟩
        · exact va_runU (z_fix C0) (c_X5_isLeft l D Y F G S _ q1 hq1 x5 w6 ew6) (va_cwU 1 hts gX11_pairBest_X5_isLeft_u181X8 rfl rfl rfl rfl (by decide +kernel) ⟨Nat.le_of_ble_eq_true rfl, Nat.le_of_ble_eq_true rfl⟩) ⟨zPc_blind, z_prec C0 hw hq1 (ci := 8) zz rfl, z_give C0 hw hS _⟩ rfl rfl hl.1 rfl (lv_room (Nat.le_of_ble_eq_true rfl)) dX11_pairBest_147 ⟨Nat.zero_le _, Nat.zero_le _⟩
        · exact va_runU (z_fix C0) (c_X5_isLeft l D Y F G S _ q1 hq1 x5 w6 ew6) (va_cwU 1 hts gX11_pairBest_X5_isLeft_u181X10 rfl rfl rfl rfl (by decide +kernel) ⟨Nat.le_of_ble_eq_true rfl, Nat.le_of_ble_eq_true rfl⟩) ⟨zPc_blind, z_prec C0 hw hq1 (ci := 10) zz rfl, z_give C0 hw hS _⟩ rfl rfl hl.1 rfl (lv_room (Nat.le_of_ble_eq_true rfl)) dX11_pairBest_147 ⟨Nat.zero_le _, Nat.zero_le _⟩
      refine lv_if_eq (tgt := 165) hx hb dX11_pairBest_150 (by decide) (fun c7 => ?_) (fun c7 => ?_)
      · replace h := z_ifp c7 h
        refine lv_iconst (v := (-1)) hx hb dX11_pairBest_165 (by decide) ?_
        exact t_X11_pairBest_B166 C0 q1 q2 hq1 hq2 res (fun S_ x3_ x4_ x5_ => M_X11_pairBest_B137 (zpk G) q1 q2 n S_ x3_ x4_ x5_) ih S x3 x4 x5 (-1) h _ _ _ hw hS (lv_sub hl [0, 1, 2, 3, 4, 5] rfl)
      · replace h := z_ifn c7 h
        refine lv_aload_n hx hb dX11_pairBest_153 rfl (lv_at hl 0 rfl) ?_
        refine lv_iload hx hb dX11_pairBest_154 (lv_at hl 5 rfl) ?_
        refine lv_iload hx hb dX11_pairBest_156 (lv_at hl 4 rfl) ?_
        refine lv_aload_n hx hb dX11_pairBest_158 rfl (lv_at hl 2 rfl) ?_
        obtain ⟨w10, ew10, h⟩ := z_bd h
        refine z_goi C0 hw hS (res := (w10, S)) (rest := []) (arr := (Value.ref (F 20) :: [.int x5, .int x4, .ref (zad F G (100 + 4 * q2))]).toArray) ?_ (fun H locs hw hS => ?_)
        · exact va_runV (z_fix C0) (c_X11_firstBest l D Y F G S _ q2 hq2 x5 x4 w10 ew10) (cwV 3 hts gX11_pairBest_X11_firstBest rfl rfl rfl (by decide +kernel) ⟨Nat.le_of_ble_eq_true rfl, Nat.le_of_ble_eq_true rfl⟩) ⟨zPc_blind, z_rv C0 hw (k := 20) rfl rfl rfl rfl, z_give C0 hw hS _⟩ rfl rfl hl.1 rfl (lv_room (Nat.le_of_ble_eq_true rfl)) dX11_pairBest_159 ⟨Nat.zero_le _, Nat.zero_le _⟩
        refine lv_goto (tgt := 166) hx hb dX11_pairBest_162 (by decide) ?_
        exact t_X11_pairBest_B166 C0 q1 q2 hq1 hq2 res (fun S_ x3_ x4_ x5_ => M_X11_pairBest_B137 (zpk G) q1 q2 n S_ x3_ x4_ x5_) ih S x3 x4 x5 w10 h _ _ _ hw hS (lv_sub hl [0, 1, 2, 3, 4, 5] rfl)
def M_X11_pairBest_B131 (pk : Nat → Nat) (q1 : Nat) (q2 : Nat) (S : zSt) (x3 : Int32) : Option (Int32 × zSt) :=
  M_X11_pairBest_B137 pk q1 q2 zF S x3 0 0
set_option maxHeartbeats 4000000 in
set_option maxRecDepth 100000 in
theorem t_X11_pairBest_B131 {p : Program} {l : Launch} {e : Env} {s : State} {m : MethodId} {args : Array Value} {below : List Frame} {meth : Method} {c : Code} {D : va_G} {Y : Nat → ClassId} {F : Nat → Nat} {A : Nat → Prop} {G : zG} (C0 : zCx p s m args meth c D Y F A RX11 cX11_pairBest 7 (some .int) wsX11_pairBest) (q1 : Nat) (q2 : Nat) (hq1 : zOKb (zpk G) q1 = true) (hq2 : zOKb (zpk G) q2 = true) (res : Int32 × zSt) : ∀ (S : zSt) (x3 : Int32), M_X11_pairBest_B131 (zpk G) q1 q2 S x3 = some res → ∀ (H : Heap) (locs : List Loc) (ls : Array Slot), zH D Y F A G S H → va_S A s.heap H locs → lv_has ls 7 [(0, .ref (F 20)), (1, .ref (zad F G (100 + 4 * q1))), (2, .ref (zad F G (100 + 4 * q2))), (3, .int x3)] → W p l e (zRm 3 69) s m args below meth c H locs 0 0 (MQ below (zQi D Y F A G res) args s 0 0 A) (F0 m 131 ls []) := by
  obtain ⟨hx, hb, hml, hr, hown, hts, hK, hA, hlk, hN⟩ := id C0
  intro S x3 h H locs ls hw hS hl
  unfold M_X11_pairBest_B131 at h
  refine lv_iconst (v := 0) hx hb dX11_pairBest_131 (by decide) ?_
  refine lv_istore (lv' := [(4, .int 0), (0, .ref (F 20)), (1, .ref (zad F G (100 + 4 * q1))), (2, .ref (zad F G (100 + 4 * q2))), (3, .int x3)]) hx hb dX11_pairBest_132 hl (by decide) rfl (fun ls hl => ?_)
  refine lv_iconst (v := 0) hx hb dX11_pairBest_134 (by decide) ?_
  refine lv_istore (lv' := [(5, .int 0), (4, .int 0), (0, .ref (F 20)), (1, .ref (zad F G (100 + 4 * q1))), (2, .ref (zad F G (100 + 4 * q2))), (3, .int x3)]) hx hb dX11_pairBest_135 hl (by decide) rfl (fun ls hl => ?_)
  exact t_X11_pairBest_B137 C0 q1 q2 hq1 hq2 res zF S x3 0 0 h _ _ _ hw hS (lv_sub hl [2, 3, 4, 5, 1, 0] rfl)
def M_X11_pairBest_B83 (pk : Nat → Nat) (q1 : Nat) (q2 : Nat) (K66 : zSt → Int32 → Int32 → Option (Int32 × zSt)) : Nat → zSt → Int32 → Int32 → Option (Int32 × zSt)
  | 0, _, _, _ => none
  | n + 1, S, x4, x5 =>
  (if 64 ≤ x5 then zg (zin x4 7) (zg (zin 0 64) (Option.bind (some ((zar S ((28 + Int32.toNatClampNeg x4)) (Int32.toNatClampNeg 0)))) (fun v16 => K66 S v16 ((x4 + (-1)))))) else zg (zin x4 7) (Option.bind (M_X11_bestFrom pk S q2 x4 x5) (fun w18 => zg (zin x5 64) (M_X11_pairBest_B83 pk q1 q2 K66 n ((zAs S ((28 + Int32.toNatClampNeg x4)) (Int32.toNatClampNeg x5) w18)) x4 ((x5 + 1))))))
set_option maxHeartbeats 4000000 in
set_option maxRecDepth 100000 in
theorem t_X11_pairBest_B83 {p : Program} {l : Launch} {e : Env} {s : State} {m : MethodId} {args : Array Value} {below : List Frame} {meth : Method} {c : Code} {D : va_G} {Y : Nat → ClassId} {F : Nat → Nat} {A : Nat → Prop} {G : zG} (C0 : zCx p s m args meth c D Y F A RX11 cX11_pairBest 7 (some .int) wsX11_pairBest) (q1 : Nat) (q2 : Nat) (hq1 : zOKb (zpk G) q1 = true) (hq2 : zOKb (zpk G) q2 = true) (res : Int32 × zSt) (K66 : zSt → Int32 → Int32 → Option (Int32 × zSt)) (hK66 : ∀ (S : zSt) (x3 : Int32) (x4 : Int32), K66 S x3 x4 = some res → ∀ (H : Heap) (locs : List Loc) (ls : Array Slot), zH D Y F A G S H → va_S A s.heap H locs → lv_has ls 7 [(0, .ref (F 20)), (1, .ref (zad F G (100 + 4 * q1))), (2, .ref (zad F G (100 + 4 * q2))), (3, .int x3), (4, .int x4)] → W p l e (zRm 3 69) s m args below meth c H locs 0 0 (MQ below (zQi D Y F A G res) args s 0 0 A) (F0 m 66 ls [])) : ∀ (n : Nat), ∀ (S : zSt) (x4 : Int32) (x5 : Int32), M_X11_pairBest_B83 (zpk G) q1 q2 K66 n S x4 x5 = some res → ∀ (H : Heap) (locs : List Loc) (ls : Array Slot), zH D Y F A G S H → va_S A s.heap H locs → lv_has ls 7 [(0, .ref (F 20)), (1, .ref (zad F G (100 + 4 * q1))), (2, .ref (zad F G (100 + 4 * q2))), (4, .int x4), (5, .int x5)] → W p l e (zRm 3 69) s m args below meth c H locs 0 0 (MQ below (zQi D Y F A G res) args s 0 0 A) (F0 m 83 ls []) := by
  obtain ⟨hx, hb, hml, hr, hown, hts, hK, hA, hlk, hN⟩ := id C0
  intro n
  induction n with
  | zero =>
    intro S x4 x5 h
    unfold M_X11_pairBest_B83 at h
    cases h
  | succ n ih =>
    intro S x4 x5 h H locs ls hw hS hl
    rw [M_X11_pairBest_B83] at h
    refine lv_iload hx hb dX11_pairBest_83 (lv_at hl 4 rfl) ?_
    refine lv_bipush (v := 64) hx hb dX11_pairBest_85 (by decide) ?_
    refine lv_icmp_ge (tgt := 115) hx hb dX11_pairBest_87 (by decide) (fun c13 => ?_) (fun c13 => ?_)
    · replace h := z_ifp c13 h
      refine lv_aload_n hx hb dX11_pairBest_115 rfl (lv_at hl 0 rfl) ?_
      refine z_getU C0 in_X11_pairBest_X11 (C := RX11) (T := TX11) (N := 14) hw (k := 20) (ci := 11) (v := .ref (F 27)) rfl rfl rfl rfl 11 (by decide) rfl 5 rfl (Or.inl rfl) dX11_pairBest_116 ?_
      refine lv_iload hx hb dX11_pairBest_119 (lv_at hl 3 rfl) ?_
      obtain ⟨b14, h⟩ := z_gd h
      refine z_aaldI C0 hw (zin_in b14) rfl dX11_pairBest_121 ?_
      refine z_topv (y := .ref (zad F G (28 + Int32.toNatClampNeg x4))) rfl ?_
      refine lv_iconst (v := 0) hx hb dX11_pairBest_122 (by decide) ?_
      obtain ⟨b15, h⟩ := z_gd h
      refine z_iald C0 hw ((28 + Int32.toNatClampNeg x4)) (zbb_E (zin_lt b14)) rfl (zbb_R (zin_lt b14)) (zin_in b15) dX11_pairBest_123 ?_
      obtain ⟨v16, ev16, h⟩ := z_bd h
      refine z_top (Option.some.inj ev16) ?_
      refine lv_istore_n (lv' := [(3, .int v16), (0, .ref (F 20)), (1, .ref (zad F G (100 + 4 * q1))), (2, .ref (zad F G (100 + 4 * q2))), (4, .int x4), (5, .int x5)]) hx hb dX11_pairBest_124 rfl hl (by decide) rfl (fun ls hl => ?_)
      refine lv_iinc (v := (x4 + (-1))) (lv' := [(4, .int ((x4 + (-1)))), (3, .int v16), (0, .ref (F 20)), (1, .ref (zad F G (100 + 4 * q1))), (2, .ref (zad F G (100 + 4 * q2))), (5, .int x5)]) hx hb dX11_pairBest_125 hl (k := 4) rfl rfl (by decide) rfl (fun ls hl => ?_)
      refine lv_goto (tgt := 66) hx hb dX11_pairBest_128 (by decide) ?_
      exact hK66 S v16 ((x4 + (-1))) h _ _ _ hw hS (lv_sub hl [2, 3, 4, 1, 0] rfl)
    · replace h := z_ifn c13 h
      refine lv_aload_n hx hb dX11_pairBest_90 rfl (lv_at hl 0 rfl) ?_
      refine z_getU C0 in_X11_pairBest_X11 (C := RX11) (T := TX11) (N := 14) hw (k := 20) (ci := 11) (v := .ref (F 27)) rfl rfl rfl rfl 11 (by decide) rfl 5 rfl (Or.inl rfl) dX11_pairBest_91 ?_
      refine lv_iload hx hb dX11_pairBest_94 (lv_at hl 3 rfl) ?_
      obtain ⟨b17, h⟩ := z_gd h
      refine z_aaldI C0 hw (zin_in b17) rfl dX11_pairBest_96 ?_
      refine z_topv (y := .ref (zad F G (28 + Int32.toNatClampNeg x4))) rfl ?_
      refine lv_iload hx hb dX11_pairBest_97 (lv_at hl 4 rfl) ?_
      refine lv_aload_n hx hb dX11_pairBest_99 rfl (lv_at hl 0 rfl) ?_
      refine lv_iload hx hb dX11_pairBest_100 (lv_at hl 3 rfl) ?_
      refine lv_iload hx hb dX11_pairBest_102 (lv_at hl 4 rfl) ?_
      refine lv_aload_n hx hb dX11_pairBest_104 rfl (lv_at hl 2 rfl) ?_
      obtain ⟨w18, ew18, h⟩ := z_bd h
      refine z_goi C0 hw hS (res := (w18, S)) (rest := [.int x5, .ref (zad F G (28 + Int32.toNatClampNeg x4))]) (arr := (Value.ref (F 20) :: [.int x4, .int x5, .ref (zad F G (100 + 4 * q2))]).toArray) ?_ (fun H locs hw hS => ?_)
      · exact va_runV (z_fix C0) (c_X11_bestFrom l D Y F G S _ q2 hq2 x4 x5 w18 ew18) (cwV 3 hts gX11_pairBest_X11_bestFrom rfl rfl rfl (by decide +kernel) ⟨Nat.le_of_ble_eq_true rfl, Nat.le_of_ble_eq_true rfl⟩) ⟨zPc_blind, z_rv C0 hw (k := 20) rfl rfl rfl rfl, z_give C0 hw hS _⟩ rfl rfl hl.1 rfl (lv_room (Nat.le_of_ble_eq_true rfl)) dX11_pairBest_105 ⟨Nat.zero_le _, Nat.zero_le _⟩
      obtain ⟨b19, h⟩ := z_gd h
      refine z_iasts C0 hw hS ((28 + Int32.toNatClampNeg x4)) (zbb_E (zin_lt b17)) rfl (zbb_R (zin_lt b17)) (zin_in b19) dX11_pairBest_108 (fun H locs hw hS => ?_)
      refine lv_iinc (v := (x5 + 1)) (lv' := [(5, .int ((x5 + 1))), (0, .ref (F 20)), (1, .ref (zad F G (100 + 4 * q1))), (2, .ref (zad F G (100 + 4 * q2))), (4, .int x4)]) hx hb dX11_pairBest_109 hl (k := 4) rfl rfl (by decide) rfl (fun ls hl => ?_)
      refine lv_goto (tgt := 83) hx hb dX11_pairBest_112 (by decide) ?_
      exact ih ((zAs S ((28 + Int32.toNatClampNeg x4)) (Int32.toNatClampNeg x5) w18)) x4 ((x5 + 1)) h _ _ _ hw hS (lv_sub hl [1, 2, 3, 4, 0] rfl)
def M_X11_pairBest_B66 (pk : Nat → Nat) (q1 : Nat) (q2 : Nat) : Nat → zSt → Int32 → Int32 → Option (Int32 × zSt)
  | 0, _, _, _ => none
  | n + 1, S, x3, x4 =>
  (if x4 < 0 then M_X11_pairBest_B131 pk q1 q2 S x3 else Option.bind (M_X5_isLeft pk S q1 x4) (fun w11 => (if w11 = 0 then M_X11_pairBest_B131 pk q1 q2 S x3 else M_X11_pairBest_B83 pk q1 q2 (fun S_ x3_ x4_ => M_X11_pairBest_B66 pk q1 q2 n S_ x3_ x4_) zF S x4 0)))
set_option maxHeartbeats 4000000 in
set_option maxRecDepth 100000 in
theorem t_X11_pairBest_B66 {p : Program} {l : Launch} {e : Env} {s : State} {m : MethodId} {args : Array Value} {below : List Frame} {meth : Method} {c : Code} {D : va_G} {Y : Nat → ClassId} {F : Nat → Nat} {A : Nat → Prop} {G : zG} (C0 : zCx p s m args meth c D Y F A RX11 cX11_pairBest 7 (some .int) wsX11_pairBest) (q1 : Nat) (q2 : Nat) (hq1 : zOKb (zpk G) q1 = true) (hq2 : zOKb (zpk G) q2 = true) (res : Int32 × zSt) : ∀ (n : Nat), ∀ (S : zSt) (x3 : Int32) (x4 : Int32), M_X11_pairBest_B66 (zpk G) q1 q2 n S x3 x4 = some res → ∀ (H : Heap) (locs : List Loc) (ls : Array Slot), zH D Y F A G S H → va_S A s.heap H locs → lv_has ls 7 [(0, .ref (F 20)), (1, .ref (zad F G (100 + 4 * q1))), (2, .ref (zad F G (100 + 4 * q2))), (3, .int x3), (4, .int x4)] → W p l e (zRm 3 69) s m args below meth c H locs 0 0 (MQ below (zQi D Y F A G res) args s 0 0 A) (F0 m 66 ls []) := by
  obtain ⟨hx, hb, hml, hr, hown, hts, hK, hA, hlk, hN⟩ := id C0
  intro n
  induction n with
  | zero =>
    intro S x3 x4 h
    unfold M_X11_pairBest_B66 at h
    cases h
  | succ n ih =>
    intro S x3 x4 h H locs ls hw hS hl
    rw [M_X11_pairBest_B66] at h
    refine lv_iload hx hb dX11_pairBest_66 (lv_at hl 4 rfl) ?_
    refine lv_if_lt (tgt := 131) hx hb dX11_pairBest_68 (by decide) (fun c4 => ?_) (fun c4 => ?_)
    · replace h := z_ifp c4 h
      exact t_X11_pairBest_B131 C0 q1 q2 hq1 hq2 res S x3 h _ _ _ hw hS (lv_sub hl [0, 1, 2, 3] rfl)
    · replace h := z_ifn c4 h
      refine lv_aload_n hx hb dX11_pairBest_71 rfl (lv_at hl 1 rfl) ?_
      refine lv_iload hx hb dX11_pairBest_72 (lv_at hl 4 rfl) ?_
      obtain ⟨w11, ew11, h⟩ := z_bd h
      refine z_goi C0 hw hS (res := (w11, S)) (rest := []) (arr := (Value.ref (zad F G (100 + 4 * q1)) :: [.int x4]).toArray) ?_ (fun H locs hw hS => ?_)
      · rcases zOK_cases hq1 with zz | zz | zz | zz | zz | zz | zz
        · exact va_runU (z_fix C0) (c_X5_isLeft l D Y F G S _ q1 hq1 x4 w11 ew11) (va_cwU 1 hts gX11_pairBest_X5_isLeft_u181X0 rfl rfl rfl rfl (by decide +kernel) ⟨Nat.le_of_ble_eq_true rfl, Nat.le_of_ble_eq_true rfl⟩) ⟨zPc_blind, z_prec C0 hw hq1 (ci := 0) zz rfl, z_give C0 hw hS _⟩ rfl rfl hl.1 rfl (lv_room (Nat.le_of_ble_eq_true rfl)) dX11_pairBest_74 ⟨Nat.zero_le _, Nat.zero_le _⟩
        · exact va_runU (z_fix C0) (c_X5_isLeft l D Y F G S _ q1 hq1 x4 w11 ew11) (va_cwU 1 hts gX11_pairBest_X5_isLeft_u181X1 rfl rfl rfl rfl (by decide +kernel) ⟨Nat.le_of_ble_eq_true rfl, Nat.le_of_ble_eq_true rfl⟩) ⟨zPc_blind, z_prec C0 hw hq1 (ci := 1) zz rfl, z_give C0 hw hS _⟩ rfl rfl hl.1 rfl (lv_room (Nat.le_of_ble_eq_true rfl)) dX11_pairBest_74 ⟨Nat.zero_le _, Nat.zero_le _⟩
        · exact va_runU (z_fix C0) (c_X5_isLeft l D Y F G S _ q1 hq1 x4 w11 ew11) (va_cwU 1 hts gX11_pairBest_X5_isLeft_u181X2 rfl rfl rfl rfl (by decide +kernel) ⟨Nat.le_of_ble_eq_true rfl, Nat.le_of_ble_eq_true rfl⟩) ⟨zPc_blind, z_prec C0 hw hq1 (ci := 2) zz rfl, z_give C0 hw hS _⟩ rfl rfl hl.1 rfl (lv_room (Nat.le_of_ble_eq_true rfl)) dX11_pairBest_74 ⟨Nat.zero_le _, Nat.zero_le _⟩
        · exact va_runU (z_fix C0) (c_X5_isLeft l D Y F G S _ q1 hq1 x4 w11 ew11) (va_cwU 1 hts gX11_pairBest_X5_isLeft_u181X3 rfl rfl rfl rfl (by decide +kernel) ⟨Nat.le_of_ble_eq_true rfl, Nat.le_of_ble_eq_true rfl⟩) ⟨zPc_blind, z_prec C0 hw hq1 (ci := 3) zz rfl, z_give C0 hw hS _⟩ rfl rfl hl.1 rfl (lv_room (Nat.le_of_ble_eq_true rfl)) dX11_pairBest_74 ⟨Nat.zero_le _, Nat.zero_le _⟩
        · exact va_runV (z_fix C0) (c_X5_isLeft l D Y F G S _ q1 hq1 x4 w11 ew11) (cwV 1 hts gX11_pairBest_X5_isLeft rfl rfl rfl (by decide +kernel) ⟨Nat.le_of_ble_eq_true rfl, Nat.le_of_ble_eq_true rfl⟩) ⟨zPc_blind, z_prec C0 hw hq1 (ci := 5) zz rfl, z_give C0 hw hS _⟩ rfl rfl hl.1 rfl (lv_room (Nat.le_of_ble_eq_true rfl)) dX11_pairBest_74 ⟨Nat.zero_le _, Nat.zero_le _⟩
        · exact va_runU (z_fix C0) (c_X5_isLeft l D Y F G S _ q1 hq1 x4 w11 ew11) (va_cwU 1 hts gX11_pairBest_X5_isLeft_u181X8 rfl rfl rfl rfl (by decide +kernel) ⟨Nat.le_of_ble_eq_true rfl, Nat.le_of_ble_eq_true rfl⟩) ⟨zPc_blind, z_prec C0 hw hq1 (ci := 8) zz rfl, z_give C0 hw hS _⟩ rfl rfl hl.1 rfl (lv_room (Nat.le_of_ble_eq_true rfl)) dX11_pairBest_74 ⟨Nat.zero_le _, Nat.zero_le _⟩
        · exact va_runU (z_fix C0) (c_X5_isLeft l D Y F G S _ q1 hq1 x4 w11 ew11) (va_cwU 1 hts gX11_pairBest_X5_isLeft_u181X10 rfl rfl rfl rfl (by decide +kernel) ⟨Nat.le_of_ble_eq_true rfl, Nat.le_of_ble_eq_true rfl⟩) ⟨zPc_blind, z_prec C0 hw hq1 (ci := 10) zz rfl, z_give C0 hw hS _⟩ rfl rfl hl.1 rfl (lv_room (Nat.le_of_ble_eq_true rfl)) dX11_pairBest_74 ⟨Nat.zero_le _, Nat.zero_le _⟩
      refine lv_if_eq (tgt := 131) hx hb dX11_pairBest_77 (by decide) (fun c12 => ?_) (fun c12 => ?_)
      · replace h := z_ifp c12 h
        exact t_X11_pairBest_B131 C0 q1 q2 hq1 hq2 res S x3 h _ _ _ hw hS (lv_sub hl [0, 1, 2, 3] rfl)
      · replace h := z_ifn c12 h
        refine lv_iconst (v := 0) hx hb dX11_pairBest_80 (by decide) ?_
        refine lv_istore (lv' := [(5, .int 0), (0, .ref (F 20)), (1, .ref (zad F G (100 + 4 * q1))), (2, .ref (zad F G (100 + 4 * q2))), (3, .int x3), (4, .int x4)]) hx hb dX11_pairBest_81 hl (by decide) rfl (fun ls hl => ?_)
        exact t_X11_pairBest_B83 C0 q1 q2 hq1 hq2 res (fun S_ x3_ x4_ => M_X11_pairBest_B66 (zpk G) q1 q2 n S_ x3_ x4_) ih zF S x4 0 h _ _ _ hw hS (lv_sub hl [1, 2, 3, 5, 0] rfl)
def M_X11_pairBest_B2 (pk : Nat → Nat) (q1 : Nat) (q2 : Nat) : Nat → zSt → Int32 → Option (Int32 × zSt)
  | 0, _, _ => none
  | n + 1, S, x3 =>
  (if 6 ≤ x3 then zg (zin 6 7) (Option.bind (M_J7_fill_53178 S ((28 + Int32.toNatClampNeg 6)) 64 0) (fun w3 => M_X11_pairBest_B66 pk q1 q2 zF w3 0 5)) else Option.bind (M_X5_hasBits pk S q1 x3 ((zsc S 60 4))) (fun w20 => zg (zin x3 6) (Option.bind (M_X5_hasBits pk ((zAs S 24 (Int32.toNatClampNeg x3) w20)) q2 x3 ((zsc ((zAs S 24 (Int32.toNatClampNeg x3) w20)) 60 4))) (fun w22 => zg (zin x3 6) (M_X11_pairBest_B2 pk q1 q2 n ((zAs ((zAs S 24 (Int32.toNatClampNeg x3) w20)) 25 (Int32.toNatClampNeg x3) w22)) ((x3 + 1)))))))
set_option maxHeartbeats 4000000 in
set_option maxRecDepth 100000 in
theorem t_X11_pairBest_B2 {p : Program} {l : Launch} {e : Env} {s : State} {m : MethodId} {args : Array Value} {below : List Frame} {meth : Method} {c : Code} {D : va_G} {Y : Nat → ClassId} {F : Nat → Nat} {A : Nat → Prop} {G : zG} (C0 : zCx p s m args meth c D Y F A RX11 cX11_pairBest 7 (some .int) wsX11_pairBest) (q1 : Nat) (q2 : Nat) (hq1 : zOKb (zpk G) q1 = true) (hq2 : zOKb (zpk G) q2 = true) (res : Int32 × zSt) : ∀ (n : Nat), ∀ (S : zSt) (x3 : Int32), M_X11_pairBest_B2 (zpk G) q1 q2 n S x3 = some res → ∀ (H : Heap) (locs : List Loc) (ls : Array Slot), zH D Y F A G S H → va_S A s.heap H locs → lv_has ls 7 [(0, .ref (F 20)), (1, .ref (zad F G (100 + 4 * q1))), (2, .ref (zad F G (100 + 4 * q2))), (3, .int x3)] → W p l e (zRm 3 69) s m args below meth c H locs 0 0 (MQ below (zQi D Y F A G res) args s 0 0 A) (F0 m 2 ls []) := by
  obtain ⟨hx, hb, hml, hr, hown, hts, hK, hA, hlk, hN⟩ := id C0
  intro n
  induction n with
  | zero =>
    intro S x3 h
    unfold M_X11_pairBest_B2 at h
    cases h
  | succ n ih =>
    intro S x3 h H locs ls hw hS hl
    rw [M_X11_pairBest_B2] at h
    refine lv_iload_n hx hb dX11_pairBest_2 rfl (lv_at hl 3 rfl) ?_
    refine lv_bipush (v := 6) hx hb dX11_pairBest_3 (by decide) ?_
    refine lv_icmp_ge (tgt := 50) hx hb dX11_pairBest_5 (by decide) (fun c1 => ?_) (fun c1 => ?_)
    · replace h := z_ifp c1 h
      refine lv_iconst (v := 0) hx hb dX11_pairBest_50 (by decide) ?_
      refine lv_istore_n (lv' := [(3, .int 0), (0, .ref (F 20)), (1, .ref (zad F G (100 + 4 * q1))), (2, .ref (zad F G (100 + 4 * q2)))]) hx hb dX11_pairBest_51 rfl hl (by decide) rfl (fun ls hl => ?_)
      refine lv_aload_n hx hb dX11_pairBest_52 rfl (lv_at hl 1 rfl) ?_
      refine z_getU C0 in_X11_pairBest_X11 (C := RX11) (T := TX11) (N := 14) hw (k := 20) (ci := 11) (v := .ref (F 27)) rfl rfl rfl rfl 11 (by decide) rfl 5 rfl (Or.inl rfl) dX11_pairBest_53 ?_
      refine lv_bipush (v := 6) hx hb dX11_pairBest_56 (by decide) ?_
      obtain ⟨b2, h⟩ := z_gd h
      refine z_aaldI C0 hw (zin_in b2) rfl dX11_pairBest_58 ?_
      refine z_topv (y := .ref (zad F G (28 + Int32.toNatClampNeg 6))) rfl ?_
      refine lv_iconst (v := 0) hx hb dX11_pairBest_59 (by decide) ?_
      obtain ⟨w3, ew3, h⟩ := z_bd h
      refine z_gov C0 hw hS (res := w3) (rest := []) (arr := ([.ref (zad F G (28 + Int32.toNatClampNeg 6)), .int 0] : List Value).toArray) ?_ (fun H locs hw hS => ?_)
      · exact va_runS (z_fix C0) (c_J7_fill_53178 l D Y F G S _ ((28 + Int32.toNatClampNeg 6)) 64 (zbb_E (zin_lt b2)) (zbb_R (zin_lt b2)) 0 w3 ew3) (va_cwS 2 hts gX11_pairBest_J7_fill_53178 rfl rfl rfl (by decide +kernel) ⟨Nat.le_of_ble_eq_true rfl, Nat.le_of_ble_eq_true rfl⟩) ⟨zPc_blind, z_give C0 hw hS _⟩ rfl rfl hl.1 rfl (lv_room (Nat.le_of_ble_eq_true rfl)) dX11_pairBest_60 ⟨Nat.zero_le _, Nat.zero_le _⟩
      refine lv_iconst (v := 5) hx hb dX11_pairBest_63 (by decide) ?_
      refine lv_istore (lv' := [(4, .int 5), (3, .int 0), (0, .ref (F 20)), (1, .ref (zad F G (100 + 4 * q1))), (2, .ref (zad F G (100 + 4 * q2)))]) hx hb dX11_pairBest_64 hl (by decide) rfl (fun ls hl => ?_)
      exact t_X11_pairBest_B66 C0 q1 q2 hq1 hq2 res zF w3 0 5 h _ _ _ hw hS (lv_sub hl [2, 3, 4, 1, 0] rfl)
    · replace h := z_ifn c1 h
      refine lv_aload_n hx hb dX11_pairBest_8 rfl (lv_at hl 0 rfl) ?_
      refine z_getU C0 in_X11_pairBest_X11 (C := RX11) (T := TX11) (N := 14) hw (k := 20) (ci := 11) (v := .ref (F 24)) rfl rfl rfl rfl 8 (by decide) rfl 1 rfl (Or.inl rfl) dX11_pairBest_9 ?_
      refine lv_iload_n hx hb dX11_pairBest_12 rfl (lv_at hl 3 rfl) ?_
      refine lv_aload_n hx hb dX11_pairBest_13 rfl (lv_at hl 1 rfl) ?_
      refine lv_iload_n hx hb dX11_pairBest_14 rfl (lv_at hl 3 rfl) ?_
      refine lv_aload_n hx hb dX11_pairBest_15 rfl (lv_at hl 0 rfl) ?_
      refine z_getU C0 in_X11_pairBest_X11 (C := RX11) (T := TX11) (N := 14) hw (k := 20) (ci := 11) (v := .ref (F 60)) rfl rfl rfl rfl 3 (by decide) rfl 2 rfl (Or.inl rfl) dX11_pairBest_16 ?_
      refine z_getU C0 in_X11_pairBest_X4 (C := RX4) (T := TX4) (N := 6) hw (k := 60) (ci := 4) (v := .int ((zsc S 60 4))) rfl rfl rfl rfl 4 (by decide) rfl 3 rfl (Or.inl rfl) dX11_pairBest_19 ?_
      obtain ⟨w20, ew20, h⟩ := z_bd h
      refine z_goi C0 hw hS (res := (w20, S)) (rest := [.int x3, .ref (F 24)]) (arr := (Value.ref (zad F G (100 + 4 * q1)) :: [.int x3, .int ((zsc S 60 4))]).toArray) ?_ (fun H locs hw hS => ?_)
      · rcases zOK_cases hq1 with zz | zz | zz | zz | zz | zz | zz
        · exact va_runU (z_fix C0) (c_X5_hasBits l D Y F G S _ q1 hq1 x3 ((zsc S 60 4)) w20 ew20) (va_cwU 2 hts gX11_pairBest_X5_hasBits_u177X0 rfl rfl rfl rfl (by decide +kernel) ⟨Nat.le_of_ble_eq_true rfl, Nat.le_of_ble_eq_true rfl⟩) ⟨zPc_blind, z_prec C0 hw hq1 (ci := 0) zz rfl, z_give C0 hw hS _⟩ rfl rfl hl.1 rfl (lv_room (Nat.le_of_ble_eq_true rfl)) dX11_pairBest_22 ⟨Nat.zero_le _, Nat.zero_le _⟩
        · exact va_runU (z_fix C0) (c_X5_hasBits l D Y F G S _ q1 hq1 x3 ((zsc S 60 4)) w20 ew20) (va_cwU 2 hts gX11_pairBest_X5_hasBits_u177X1 rfl rfl rfl rfl (by decide +kernel) ⟨Nat.le_of_ble_eq_true rfl, Nat.le_of_ble_eq_true rfl⟩) ⟨zPc_blind, z_prec C0 hw hq1 (ci := 1) zz rfl, z_give C0 hw hS _⟩ rfl rfl hl.1 rfl (lv_room (Nat.le_of_ble_eq_true rfl)) dX11_pairBest_22 ⟨Nat.zero_le _, Nat.zero_le _⟩
        · exact va_runU (z_fix C0) (c_X5_hasBits l D Y F G S _ q1 hq1 x3 ((zsc S 60 4)) w20 ew20) (va_cwU 2 hts gX11_pairBest_X5_hasBits_u177X2 rfl rfl rfl rfl (by decide +kernel) ⟨Nat.le_of_ble_eq_true rfl, Nat.le_of_ble_eq_true rfl⟩) ⟨zPc_blind, z_prec C0 hw hq1 (ci := 2) zz rfl, z_give C0 hw hS _⟩ rfl rfl hl.1 rfl (lv_room (Nat.le_of_ble_eq_true rfl)) dX11_pairBest_22 ⟨Nat.zero_le _, Nat.zero_le _⟩
        · exact va_runU (z_fix C0) (c_X5_hasBits l D Y F G S _ q1 hq1 x3 ((zsc S 60 4)) w20 ew20) (va_cwU 2 hts gX11_pairBest_X5_hasBits_u177X3 rfl rfl rfl rfl (by decide +kernel) ⟨Nat.le_of_ble_eq_true rfl, Nat.le_of_ble_eq_true rfl⟩) ⟨zPc_blind, z_prec C0 hw hq1 (ci := 3) zz rfl, z_give C0 hw hS _⟩ rfl rfl hl.1 rfl (lv_room (Nat.le_of_ble_eq_true rfl)) dX11_pairBest_22 ⟨Nat.zero_le _, Nat.zero_le _⟩
        · exact va_runV (z_fix C0) (c_X5_hasBits l D Y F G S _ q1 hq1 x3 ((zsc S 60 4)) w20 ew20) (cwV 2 hts gX11_pairBest_X5_hasBits rfl rfl rfl (by decide +kernel) ⟨Nat.le_of_ble_eq_true rfl, Nat.le_of_ble_eq_true rfl⟩) ⟨zPc_blind, z_prec C0 hw hq1 (ci := 5) zz rfl, z_give C0 hw hS _⟩ rfl rfl hl.1 rfl (lv_room (Nat.le_of_ble_eq_true rfl)) dX11_pairBest_22 ⟨Nat.zero_le _, Nat.zero_le _⟩
        · exact va_runU (z_fix C0) (c_X5_hasBits l D Y F G S _ q1 hq1 x3 ((zsc S 60 4)) w20 ew20) (va_cwU 2 hts gX11_pairBest_X5_hasBits_u177X8 rfl rfl rfl rfl (by decide +kernel) ⟨Nat.le_of_ble_eq_true rfl, Nat.le_of_ble_eq_true rfl⟩) ⟨zPc_blind, z_prec C0 hw hq1 (ci := 8) zz rfl, z_give C0 hw hS _⟩ rfl rfl hl.1 rfl (lv_room (Nat.le_of_ble_eq_true rfl)) dX11_pairBest_22 ⟨Nat.zero_le _, Nat.zero_le _⟩
        · exact va_runU (z_fix C0) (c_X5_hasBits l D Y F G S _ q1 hq1 x3 ((zsc S 60 4)) w20 ew20) (va_cwU 2 hts gX11_pairBest_X5_hasBits_u177X10 rfl rfl rfl rfl (by decide +kernel) ⟨Nat.le_of_ble_eq_true rfl, Nat.le_of_ble_eq_true rfl⟩) ⟨zPc_blind, z_prec C0 hw hq1 (ci := 10) zz rfl, z_give C0 hw hS _⟩ rfl rfl hl.1 rfl (lv_room (Nat.le_of_ble_eq_true rfl)) dX11_pairBest_22 ⟨Nat.zero_le _, Nat.zero_le _⟩
      obtain ⟨b21, h⟩ := z_gd h
      refine z_iasts C0 hw hS 24 rfl rfl zri_24 (zin_in b21) dX11_pairBest_25 (fun H locs hw hS => ?_)
      refine lv_aload_n hx hb dX11_pairBest_26 rfl (lv_at hl 0 rfl) ?_
      refine z_getU C0 in_X11_pairBest_X11 (C := RX11) (T := TX11) (N := 14) hw (k := 20) (ci := 11) (v := .ref (F 25)) rfl rfl rfl rfl 9 (by decide) rfl 4 rfl (Or.inl rfl) dX11_pairBest_27 ?_
      refine lv_iload_n hx hb dX11_pairBest_30 rfl (lv_at hl 3 rfl) ?_
      refine lv_aload_n hx hb dX11_pairBest_31 rfl (lv_at hl 2 rfl) ?_
      refine lv_iload_n hx hb dX11_pairBest_32 rfl (lv_at hl 3 rfl) ?_
      refine lv_aload_n hx hb dX11_pairBest_33 rfl (lv_at hl 0 rfl) ?_
      refine z_getU C0 in_X11_pairBest_X11 (C := RX11) (T := TX11) (N := 14) hw (k := 20) (ci := 11) (v := .ref (F 60)) rfl rfl rfl rfl 3 (by decide) rfl 2 rfl (Or.inl rfl) dX11_pairBest_34 ?_
      refine z_getU C0 in_X11_pairBest_X4 (C := RX4) (T := TX4) (N := 6) hw (k := 60) (ci := 4) (v := .int ((zsc ((zAs S 24 (Int32.toNatClampNeg x3) w20)) 60 4))) rfl rfl rfl rfl 4 (by decide) rfl 3 rfl (Or.inl rfl) dX11_pairBest_37 ?_
      obtain ⟨w22, ew22, h⟩ := z_bd h
      refine z_goi C0 hw hS (res := (w22, ((zAs S 24 (Int32.toNatClampNeg x3) w20)))) (rest := [.int x3, .ref (F 25)]) (arr := (Value.ref (zad F G (100 + 4 * q2)) :: [.int x3, .int ((zsc ((zAs S 24 (Int32.toNatClampNeg x3) w20)) 60 4))]).toArray) ?_ (fun H locs hw hS => ?_)
      · rcases zOK_cases hq2 with zz | zz | zz | zz | zz | zz | zz
        · exact va_runU (z_fix C0) (c_X5_hasBits l D Y F G ((zAs S 24 (Int32.toNatClampNeg x3) w20)) _ q2 hq2 x3 ((zsc ((zAs S 24 (Int32.toNatClampNeg x3) w20)) 60 4)) w22 ew22) (va_cwU 2 hts gX11_pairBest_X5_hasBits_u177X0 rfl rfl rfl rfl (by decide +kernel) ⟨Nat.le_of_ble_eq_true rfl, Nat.le_of_ble_eq_true rfl⟩) ⟨zPc_blind, z_prec C0 hw hq2 (ci := 0) zz rfl, z_give C0 hw hS _⟩ rfl rfl hl.1 rfl (lv_room (Nat.le_of_ble_eq_true rfl)) dX11_pairBest_40 ⟨Nat.zero_le _, Nat.zero_le _⟩
        · exact va_runU (z_fix C0) (c_X5_hasBits l D Y F G ((zAs S 24 (Int32.toNatClampNeg x3) w20)) _ q2 hq2 x3 ((zsc ((zAs S 24 (Int32.toNatClampNeg x3) w20)) 60 4)) w22 ew22) (va_cwU 2 hts gX11_pairBest_X5_hasBits_u177X1 rfl rfl rfl rfl (by decide +kernel) ⟨Nat.le_of_ble_eq_true rfl, Nat.le_of_ble_eq_true rfl⟩) ⟨zPc_blind, z_prec C0 hw hq2 (ci := 1) zz rfl, z_give C0 hw hS _⟩ rfl rfl hl.1 rfl (lv_room (Nat.le_of_ble_eq_true rfl)) dX11_pairBest_40 ⟨Nat.zero_le _, Nat.zero_le _⟩
        · exact va_runU (z_fix C0) (c_X5_hasBits l D Y F G ((zAs S 24 (Int32.toNatClampNeg x3) w20)) _ q2 hq2 x3 ((zsc ((zAs S 24 (Int32.toNatClampNeg x3) w20)) 60 4)) w22 ew22) (va_cwU 2 hts gX11_pairBest_X5_hasBits_u177X2 rfl rfl rfl rfl (by decide +kernel) ⟨Nat.le_of_ble_eq_true rfl, Nat.le_of_ble_eq_true rfl⟩) ⟨zPc_blind, z_prec C0 hw hq2 (ci := 2) zz rfl, z_give C0 hw hS _⟩ rfl rfl hl.1 rfl (lv_room (Nat.le_of_ble_eq_true rfl)) dX11_pairBest_40 ⟨Nat.zero_le _, Nat.zero_le _⟩
        · exact va_runU (z_fix C0) (c_X5_hasBits l D Y F G ((zAs S 24 (Int32.toNatClampNeg x3) w20)) _ q2 hq2 x3 ((zsc ((zAs S 24 (Int32.toNatClampNeg x3) w20)) 60 4)) w22 ew22) (va_cwU 2 hts gX11_pairBest_X5_hasBits_u177X3 rfl rfl rfl rfl (by decide +kernel) ⟨Nat.le_of_ble_eq_true rfl, Nat.le_of_ble_eq_true rfl⟩) ⟨zPc_blind, z_prec C0 hw hq2 (ci := 3) zz rfl, z_give C0 hw hS _⟩ rfl rfl hl.1 rfl (lv_room (Nat.le_of_ble_eq_true rfl)) dX11_pairBest_40 ⟨Nat.zero_le _, Nat.zero_le _⟩
        · exact va_runV (z_fix C0) (c_X5_hasBits l D Y F G ((zAs S 24 (Int32.toNatClampNeg x3) w20)) _ q2 hq2 x3 ((zsc ((zAs S 24 (Int32.toNatClampNeg x3) w20)) 60 4)) w22 ew22) (cwV 2 hts gX11_pairBest_X5_hasBits rfl rfl rfl (by decide +kernel) ⟨Nat.le_of_ble_eq_true rfl, Nat.le_of_ble_eq_true rfl⟩) ⟨zPc_blind, z_prec C0 hw hq2 (ci := 5) zz rfl, z_give C0 hw hS _⟩ rfl rfl hl.1 rfl (lv_room (Nat.le_of_ble_eq_true rfl)) dX11_pairBest_40 ⟨Nat.zero_le _, Nat.zero_le _⟩
        · exact va_runU (z_fix C0) (c_X5_hasBits l D Y F G ((zAs S 24 (Int32.toNatClampNeg x3) w20)) _ q2 hq2 x3 ((zsc ((zAs S 24 (Int32.toNatClampNeg x3) w20)) 60 4)) w22 ew22) (va_cwU 2 hts gX11_pairBest_X5_hasBits_u177X8 rfl rfl rfl rfl (by decide +kernel) ⟨Nat.le_of_ble_eq_true rfl, Nat.le_of_ble_eq_true rfl⟩) ⟨zPc_blind, z_prec C0 hw hq2 (ci := 8) zz rfl, z_give C0 hw hS _⟩ rfl rfl hl.1 rfl (lv_room (Nat.le_of_ble_eq_true rfl)) dX11_pairBest_40 ⟨Nat.zero_le _, Nat.zero_le _⟩
        · exact va_runU (z_fix C0) (c_X5_hasBits l D Y F G ((zAs S 24 (Int32.toNatClampNeg x3) w20)) _ q2 hq2 x3 ((zsc ((zAs S 24 (Int32.toNatClampNeg x3) w20)) 60 4)) w22 ew22) (va_cwU 2 hts gX11_pairBest_X5_hasBits_u177X10 rfl rfl rfl rfl (by decide +kernel) ⟨Nat.le_of_ble_eq_true rfl, Nat.le_of_ble_eq_true rfl⟩) ⟨zPc_blind, z_prec C0 hw hq2 (ci := 10) zz rfl, z_give C0 hw hS _⟩ rfl rfl hl.1 rfl (lv_room (Nat.le_of_ble_eq_true rfl)) dX11_pairBest_40 ⟨Nat.zero_le _, Nat.zero_le _⟩
      obtain ⟨b23, h⟩ := z_gd h
      refine z_iasts C0 hw hS 25 rfl rfl zri_25 (zin_in b23) dX11_pairBest_43 (fun H locs hw hS => ?_)
      refine lv_iinc (v := (x3 + 1)) (lv' := [(3, .int ((x3 + 1))), (0, .ref (F 20)), (1, .ref (zad F G (100 + 4 * q1))), (2, .ref (zad F G (100 + 4 * q2)))]) hx hb dX11_pairBest_44 hl (k := 3) rfl rfl (by decide) rfl (fun ls hl => ?_)
      refine lv_goto (tgt := 2) hx hb dX11_pairBest_47 (by decide) ?_
      exact ih ((zAs ((zAs S 24 (Int32.toNatClampNeg x3) w20)) 25 (Int32.toNatClampNeg x3) w22)) ((x3 + 1)) h _ _ _ hw hS (lv_sub hl [1, 2, 3, 0] rfl)
def M_X11_pairBest (pk : Nat → Nat) (S : zSt) (q1 : Nat) (q2 : Nat) : Option (Int32 × zSt) :=
  M_X11_pairBest_B2 pk q1 q2 zF S 0
set_option maxHeartbeats 4000000 in
set_option maxRecDepth 100000 in
theorem c_X11_pairBest (l : Launch) (D : va_G) (Y : Nat → ClassId) (F : Nat → Nat) (G : zG) (S : zSt) (sz : Nat) (q1 : Nat) (q2 : Nat) (hq1 : zOKb (zpk G) q1 = true) (hq2 : zOKb (zpk G) q2 = true) (res : Int32 × zSt) (h : M_X11_pairBest (zpk G) S q1 q2 = some res) : Met l yX11_pairBest wsX11_pairBest (zRm 3 69) (zPc D Y F G S sz [.ref (F 20), .ref (zad F G (100 + 4 * q1)), .ref (zad F G (100 + 4 * q2))]) (zQi D Y F (zAo F G sz) G res) 0 0 (zAo F G sz) := by
  unfold M_X11_pairBest at h
  refine zMet (cc := cX11_pairBest) (maxL := 7) (ret := (some .int)) (own := RX11) (by decide +kernel) rfl rfl (Nat.le_of_ble_eq_true rfl) ?_
  intro p e s m args below meth c C0 hin hw hS ls hl
  have hl : lv_has ls 7 [(0, .ref (F 20)), (1, .ref (zad F G (100 + 4 * q1))), (2, .ref (zad F G (100 + 4 * q2)))] := hl
  generalize zAo F G sz = A at C0 hw hS ⊢
  obtain ⟨hx, hb, hml, hr, hown, hts, hK, hA, hlk, hN⟩ := id C0
  refine lv_iconst (v := 0) hx hb dX11_pairBest_0 (by decide) ?_
  refine lv_istore_n (lv' := [(3, .int 0), (0, .ref (F 20)), (1, .ref (zad F G (100 + 4 * q1))), (2, .ref (zad F G (100 + 4 * q2)))]) hx hb dX11_pairBest_1 rfl hl (by decide) rfl (fun ls hl => ?_)
  exact t_X11_pairBest_B2 C0 q1 q2 hq1 hq2 res zF S 0 h _ _ _ hw hS (lv_sub hl [1, 2, 3, 0] rfl)
def M_X11_paired_B35 (pk : Nat → Nat) (S : zSt) : Option (Int32 × zSt) :=
  Option.bind (M_X11_refuseLess pk S (-1) 10) (fun w5 => some (w5.1, w5.2))
set_option maxHeartbeats 4000000 in
set_option maxRecDepth 100000 in
theorem t_X11_paired_B35 {p : Program} {l : Launch} {e : Env} {s : State} {m : MethodId} {args : Array Value} {below : List Frame} {meth : Method} {c : Code} {D : va_G} {Y : Nat → ClassId} {F : Nat → Nat} {A : Nat → Prop} {G : zG} (C0 : zCx p s m args meth c D Y F A RX11 cX11_paired 9 (some .int) wsX11_paired) (res : Int32 × zSt) : ∀ (S : zSt), M_X11_paired_B35 (zpk G) S = some res → ∀ (H : Heap) (locs : List Loc) (ls : Array Slot), zH D Y F A G S H → va_S A s.heap H locs → lv_has ls 9 [(0, .ref (F 20))] → W p l e (zRm 4 95) s m args below meth c H locs 0 0 (MQ below (zQi D Y F A G res) args s 0 0 A) (F0 m 35 ls []) := by
  obtain ⟨hx, hb, hml, hr, hown, hts, hK, hA, hlk, hN⟩ := id C0
  intro S h H locs ls hw hS hl
  unfold M_X11_paired_B35 at h
  refine lv_aload_n hx hb dX11_paired_35 rfl (lv_at hl 0 rfl) ?_
  refine lv_iconst (v := (-1)) hx hb dX11_paired_36 (by decide) ?_
  refine lv_bipush (v := 10) hx hb dX11_paired_37 (by decide) ?_
  obtain ⟨w5, ew5, h⟩ := z_bd h
  refine z_goi C0 hw hS (res := w5) (rest := []) (arr := (Value.ref (F 20) :: [.int (-1), .int 10]).toArray) ?_ (fun H locs hw hS => ?_)
  · exact va_runV (z_fix C0) (c_X11_refuseLess l D Y F G S _ (-1) 10 w5 ew5) (cwV 2 hts gX11_paired_X11_refuseLess rfl rfl rfl (by decide +kernel) ⟨Nat.le_of_ble_eq_true rfl, Nat.le_of_ble_eq_true rfl⟩) ⟨zPc_blind, z_rv C0 hw (k := 20) rfl rfl rfl rfl, z_give C0 hw hS _⟩ rfl rfl hl.1 rfl (lv_room (Nat.le_of_ble_eq_true rfl)) dX11_paired_39 ⟨Nat.zero_le _, Nat.zero_le _⟩
  exact z_reti C0 hw hS (Option.some.inj h) dX11_paired_42
def M_X11_paired_B64 (pk : Nat → Nat) (S : zSt) : Option (Int32 × zSt) :=
  Option.bind (M_X11_refuseLess pk S (-5) 10) (fun w11 => some (w11.1, w11.2))
set_option maxHeartbeats 4000000 in
set_option maxRecDepth 100000 in
theorem t_X11_paired_B64 {p : Program} {l : Launch} {e : Env} {s : State} {m : MethodId} {args : Array Value} {below : List Frame} {meth : Method} {c : Code} {D : va_G} {Y : Nat → ClassId} {F : Nat → Nat} {A : Nat → Prop} {G : zG} (C0 : zCx p s m args meth c D Y F A RX11 cX11_paired 9 (some .int) wsX11_paired) (res : Int32 × zSt) : ∀ (S : zSt), M_X11_paired_B64 (zpk G) S = some res → ∀ (H : Heap) (locs : List Loc) (ls : Array Slot), zH D Y F A G S H → va_S A s.heap H locs → lv_has ls 9 [(0, .ref (F 20))] → W p l e (zRm 4 95) s m args below meth c H locs 0 0 (MQ below (zQi D Y F A G res) args s 0 0 A) (F0 m 64 ls []) := by
  obtain ⟨hx, hb, hml, hr, hown, hts, hK, hA, hlk, hN⟩ := id C0
  intro S h H locs ls hw hS hl
  unfold M_X11_paired_B64 at h
  refine lv_aload_n hx hb dX11_paired_64 rfl (lv_at hl 0 rfl) ?_
  refine lv_bipush (v := (-5)) hx hb dX11_paired_65 (by decide) ?_
  refine lv_bipush (v := 10) hx hb dX11_paired_67 (by decide) ?_
  obtain ⟨w11, ew11, h⟩ := z_bd h
  refine z_goi C0 hw hS (res := w11) (rest := []) (arr := (Value.ref (F 20) :: [.int (-5), .int 10]).toArray) ?_ (fun H locs hw hS => ?_)
  · exact va_runV (z_fix C0) (c_X11_refuseLess l D Y F G S _ (-5) 10 w11 ew11) (cwV 2 hts gX11_paired_X11_refuseLess rfl rfl rfl (by decide +kernel) ⟨Nat.le_of_ble_eq_true rfl, Nat.le_of_ble_eq_true rfl⟩) ⟨zPc_blind, z_rv C0 hw (k := 20) rfl rfl rfl rfl, z_give C0 hw hS _⟩ rfl rfl hl.1 rfl (lv_room (Nat.le_of_ble_eq_true rfl)) dX11_paired_69 ⟨Nat.zero_le _, Nat.zero_le _⟩
  exact z_reti C0 hw hS (Option.some.inj h) dX11_paired_72
def M_X11_paired (pk : Nat → Nat) (S : zSt) (x1 : Int32) (x2 : Int32) (x3 : Int32) : Option (Int32 × zSt) :=
  Option.bind (M_X4_personAt pk S 0 x1) (fun w1 => (zm w1 (Option.bind (M_X4_personAt pk S 0 x2) (fun w3 => (zm w3 (M_X11_paired_B35 pk S) (fun q4 => zg (zOKb pk q4) (M_X11_paired_B35 pk S))))) (fun q2 => zg (zOKb pk q2) (Option.bind (M_X4_personAt pk S 0 x2) (fun w6 => (zm w6 (M_X11_paired_B35 pk S) (fun q7 => zg (zOKb pk q7) ((if x1 = x2 then M_X11_paired_B35 pk S else Option.bind (some (((6 : Int32) - (zsc S (100 + 4 * q2) 8)))) (fun v9 => (if x3 < (-1) then M_X11_paired_B64 pk S else (if x3 < v9 then Option.bind (M_X11_pairBest pk S q2 q7) (fun w13 => Option.bind (some (((zsc w13.2 (100 + 4 * q2) 8) + x3))) (fun v14 => (if x3 = (-1) then some (w13.1, w13.2) else Option.bind (M_X11_isCopy pk w13.2 v14) (fun w16 => (if w16 = 0 then some (w13.1, w13.2) else zg (zin v14 6) (some ((zar w13.2 26 (Int32.toNatClampNeg v14)), w13.2))))))) else M_X11_paired_B64 pk S))))))))))))
set_option maxHeartbeats 4000000 in
set_option maxRecDepth 100000 in
theorem c_X11_paired (l : Launch) (D : va_G) (Y : Nat → ClassId) (F : Nat → Nat) (G : zG) (S : zSt) (sz : Nat) (x1 : Int32) (x2 : Int32) (x3 : Int32) (res : Int32 × zSt) (h : M_X11_paired (zpk G) S x1 x2 x3 = some res) : Met l yX11_paired wsX11_paired (zRm 4 95) (zPc D Y F G S sz [.ref (F 20), .int x1, .int x2, .int x3]) (zQi D Y F (zAo F G sz) G res) 0 0 (zAo F G sz) := by
  unfold M_X11_paired at h
  refine zMet (cc := cX11_paired) (maxL := 9) (ret := (some .int)) (own := RX11) (by decide +kernel) rfl rfl (Nat.le_of_ble_eq_true rfl) ?_
  intro p e s m args below meth c C0 hin hw hS ls hl
  have hl : lv_has ls 9 [(0, .ref (F 20)), (1, .int x1), (2, .int x2), (3, .int x3)] := hl
  generalize zAo F G sz = A at C0 hw hS ⊢
  obtain ⟨hx, hb, hml, hr, hown, hts, hK, hA, hlk, hN⟩ := id C0
  refine lv_aload_n hx hb dX11_paired_0 rfl (lv_at hl 0 rfl) ?_
  refine z_getU C0 in_X11_paired_X11 (C := RX11) (T := TX11) (N := 14) hw (k := 20) (ci := 11) (v := .ref (F 60)) rfl rfl rfl rfl 3 (by decide) rfl 1 rfl (Or.inl rfl) dX11_paired_1 ?_
  refine lv_iload_n hx hb dX11_paired_4 rfl (lv_at hl 1 rfl) ?_
  obtain ⟨w1, ew1, h⟩ := z_bd h
  refine z_goq C0 hw hS (r0 := w1.map (zpa F G)) (rest := []) (arr := (Value.ref (F 60) :: [.int x1]).toArray) ?_ (fun H locs hw hS => ?_)
  · exact va_runV (z_fix C0) (c_X4_personAt l D Y F G S _ 0 (by decide) x1 w1 ew1) (cwV 1 hts gX11_paired_X4_personAt rfl rfl rfl (by decide +kernel) ⟨Nat.le_of_ble_eq_true rfl, Nat.le_of_ble_eq_true rfl⟩) ⟨zPc_blind, z_rv C0 hw (k := 60) rfl rfl rfl rfl, z_give C0 hw hS _⟩ rfl rfl hl.1 rfl (lv_room (Nat.le_of_ble_eq_true rfl)) dX11_paired_5 ⟨Nat.zero_le _, Nat.zero_le _⟩
  rcases w1 with _ | q2
  · replace h := zm_n h
    refine z_topv (y := .null) rfl ?_
    refine lv_astoreN (lv' := [(4, .null), (0, .ref (F 20)), (1, .int x1), (2, .int x2), (3, .int x3)]) hx hb dX11_paired_8 hl (by decide) rfl (fun ls hl => ?_)
    refine lv_aload_n hx hb dX11_paired_10 rfl (lv_at hl 1 rfl) ?_
    refine z_getU C0 in_X11_paired_X11 (C := RX11) (T := TX11) (N := 14) hw (k := 20) (ci := 11) (v := .ref (F 60)) rfl rfl rfl rfl 3 (by decide) rfl 1 rfl (Or.inl rfl) dX11_paired_11 ?_
    refine lv_iload_n hx hb dX11_paired_14 rfl (lv_at hl 3 rfl) ?_
    obtain ⟨w3, ew3, h⟩ := z_bd h
    refine z_goq C0 hw hS (r0 := w3.map (zpa F G)) (rest := []) (arr := (Value.ref (F 60) :: [.int x2]).toArray) ?_ (fun H locs hw hS => ?_)
    · exact va_runV (z_fix C0) (c_X4_personAt l D Y F G S _ 0 (by decide) x2 w3 ew3) (cwV 1 hts gX11_paired_X4_personAt rfl rfl rfl (by decide +kernel) ⟨Nat.le_of_ble_eq_true rfl, Nat.le_of_ble_eq_true rfl⟩) ⟨zPc_blind, z_rv C0 hw (k := 60) rfl rfl rfl rfl, z_give C0 hw hS _⟩ rfl rfl hl.1 rfl (lv_room (Nat.le_of_ble_eq_true rfl)) dX11_paired_15 ⟨Nat.zero_le _, Nat.zero_le _⟩
    rcases w3 with _ | q4
    · replace h := zm_n h
      refine z_topv (y := .null) rfl ?_
      refine lv_astoreN (lv' := [(5, .null), (4, .null), (0, .ref (F 20)), (1, .int x1), (2, .int x2), (3, .int x3)]) hx hb dX11_paired_18 hl (by decide) rfl (fun ls hl => ?_)
      refine lv_aloadN hx hb dX11_paired_20 (lv_at hl 1 rfl) ?_
      refine lv_ifnullN (tgt := 35) hx hb dX11_paired_22 (by decide) ?_
      exact t_X11_paired_B35 C0 res S h _ _ _ hw hS (lv_sub hl [2] rfl)
    · replace h := zm_s h
      obtain ⟨bq4, h⟩ := z_gd h
      have hq4 := bq4
      refine z_topv (y := .ref (zad F G (100 + 4 * q4))) rfl ?_
      refine lv_astore (lv' := [(5, .ref (zad F G (100 + 4 * q4))), (4, .null), (0, .ref (F 20)), (1, .int x1), (2, .int x2), (3, .int x3)]) hx hb dX11_paired_18 hl (by decide) rfl (fun ls hl => ?_)
      refine lv_aloadN hx hb dX11_paired_20 (lv_at hl 1 rfl) ?_
      refine lv_ifnullN (tgt := 35) hx hb dX11_paired_22 (by decide) ?_
      exact t_X11_paired_B35 C0 res S h _ _ _ hw hS (lv_sub hl [2] rfl)
  · replace h := zm_s h
    obtain ⟨bq2, h⟩ := z_gd h
    have hq2 := bq2
    refine z_topv (y := .ref (zad F G (100 + 4 * q2))) rfl ?_
    refine lv_astore (lv' := [(4, .ref (zad F G (100 + 4 * q2))), (0, .ref (F 20)), (1, .int x1), (2, .int x2), (3, .int x3)]) hx hb dX11_paired_8 hl (by decide) rfl (fun ls hl => ?_)
    refine lv_aload_n hx hb dX11_paired_10 rfl (lv_at hl 1 rfl) ?_
    refine z_getU C0 in_X11_paired_X11 (C := RX11) (T := TX11) (N := 14) hw (k := 20) (ci := 11) (v := .ref (F 60)) rfl rfl rfl rfl 3 (by decide) rfl 1 rfl (Or.inl rfl) dX11_paired_11 ?_
    refine lv_iload_n hx hb dX11_paired_14 rfl (lv_at hl 3 rfl) ?_
    obtain ⟨w6, ew6, h⟩ := z_bd h
    refine z_goq C0 hw hS (r0 := w6.map (zpa F G)) (rest := []) (arr := (Value.ref (F 60) :: [.int x2]).toArray) ?_ (fun H locs hw hS => ?_)
    · exact va_runV (z_fix C0) (c_X4_personAt l D Y F G S _ 0 (by decide) x2 w6 ew6) (cwV 1 hts gX11_paired_X4_personAt rfl rfl rfl (by decide +kernel) ⟨Nat.le_of_ble_eq_true rfl, Nat.le_of_ble_eq_true rfl⟩) ⟨zPc_blind, z_rv C0 hw (k := 60) rfl rfl rfl rfl, z_give C0 hw hS _⟩ rfl rfl hl.1 rfl (lv_room (Nat.le_of_ble_eq_true rfl)) dX11_paired_15 ⟨Nat.zero_le _, Nat.zero_le _⟩
    rcases w6 with _ | q7
    · replace h := zm_n h
      refine z_topv (y := .null) rfl ?_
      refine lv_astoreN (lv' := [(5, .null), (4, .ref (zad F G (100 + 4 * q2))), (0, .ref (F 20)), (1, .int x1), (2, .int x2), (3, .int x3)]) hx hb dX11_paired_18 hl (by decide) rfl (fun ls hl => ?_)
      refine lv_aload hx hb dX11_paired_20 (lv_at hl 1 rfl) ?_
      refine lv_ifnull hx hb dX11_paired_22 ?_
      refine lv_aloadN hx hb dX11_paired_25 (lv_at hl 0 rfl) ?_
      refine lv_ifnullN (tgt := 35) hx hb dX11_paired_27 (by decide) ?_
      exact t_X11_paired_B35 C0 res S h _ _ _ hw hS (lv_sub hl [2] rfl)
    · replace h := zm_s h
      obtain ⟨bq7, h⟩ := z_gd h
      have hq7 := bq7
      refine z_topv (y := .ref (zad F G (100 + 4 * q7))) rfl ?_
      refine lv_astore (lv' := [(5, .ref (zad F G (100 + 4 * q7))), (4, .ref (zad F G (100 + 4 * q2))), (0, .ref (F 20)), (1, .int x1), (2, .int x2), (3, .int x3)]) hx hb dX11_paired_18 hl (by decide) rfl (fun ls hl => ?_)
      refine lv_aload hx hb dX11_paired_20 (lv_at hl 1 rfl) ?_
      refine lv_ifnull hx hb dX11_paired_22 ?_
      refine lv_aload hx hb dX11_paired_25 (lv_at hl 0 rfl) ?_
      refine lv_ifnull hx hb dX11_paired_27 ?_
      refine lv_iload_n hx hb dX11_paired_30 rfl (lv_at hl 3 rfl) ?_
      refine lv_iload_n hx hb dX11_paired_31 rfl (lv_at hl 4 rfl) ?_
      refine lv_icmp_ne (tgt := 43) hx hb dX11_paired_32 (by decide) (fun c8 => ?_) (fun c8 => ?_)
      · replace h := z_ifn c8 h
        refine lv_bipush (v := 6) hx hb dX11_paired_43 (by decide) ?_
        refine lv_aload hx hb dX11_paired_45 (lv_at hl 1 rfl) ?_
        refine z_getP C0 inP_X11_paired hw hq2 8 (by decide) (v := .int ((zsc S (100 + 4 * q2) 8))) rfl 2 rfl (Or.inl rfl) dX11_paired_47 ?_
        refine lv_isub hx hb dX11_paired_50 ?_
        obtain ⟨v9, ev9, h⟩ := z_bd h
        refine z_top (Option.some.inj ev9) ?_
        refine lv_istore (lv' := [(6, .int v9), (5, .ref (zad F G (100 + 4 * q7))), (4, .ref (zad F G (100 + 4 * q2))), (0, .ref (F 20)), (1, .int x1), (2, .int x2), (3, .int x3)]) hx hb dX11_paired_51 hl (by decide) rfl (fun ls hl => ?_)
        refine lv_iload_n hx hb dX11_paired_53 rfl (lv_at hl 6 rfl) ?_
        refine lv_iconst (v := (-1)) hx hb dX11_paired_54 (by decide) ?_
        refine lv_icmp_lt (tgt := 64) hx hb dX11_paired_55 (by decide) (fun c10 => ?_) (fun c10 => ?_)
        · replace h := z_ifp c10 h
          exact t_X11_paired_B64 C0 res S h _ _ _ hw hS (lv_sub hl [3] rfl)
        · replace h := z_ifn c10 h
          refine lv_iload_n hx hb dX11_paired_58 rfl (lv_at hl 6 rfl) ?_
          refine lv_iload hx hb dX11_paired_59 (lv_at hl 0 rfl) ?_
          refine lv_icmp_lt (tgt := 73) hx hb dX11_paired_61 (by decide) (fun c12 => ?_) (fun c12 => ?_)
          · replace h := z_ifp c12 h
            refine lv_aload_n hx hb dX11_paired_73 rfl (lv_at hl 3 rfl) ?_
            refine lv_aload hx hb dX11_paired_74 (lv_at hl 2 rfl) ?_
            refine lv_aload hx hb dX11_paired_76 (lv_at hl 1 rfl) ?_
            obtain ⟨w13, ew13, h⟩ := z_bd h
            refine z_goi C0 hw hS (res := w13) (rest := []) (arr := (Value.ref (F 20) :: [.ref (zad F G (100 + 4 * q2)), .ref (zad F G (100 + 4 * q7))]).toArray) ?_ (fun H locs hw hS => ?_)
            · exact va_runV (z_fix C0) (c_X11_pairBest l D Y F G S _ q2 q7 hq2 hq7 w13 ew13) (cwV 2 hts gX11_paired_X11_pairBest rfl rfl rfl (by decide +kernel) ⟨Nat.le_of_ble_eq_true rfl, Nat.le_of_ble_eq_true rfl⟩) ⟨zPc_blind, z_rv C0 hw (k := 20) rfl rfl rfl rfl, z_give C0 hw hS _⟩ rfl rfl hl.1 rfl (lv_room (Nat.le_of_ble_eq_true rfl)) dX11_paired_78 ⟨Nat.zero_le _, Nat.zero_le _⟩
            refine lv_istore (lv' := [(7, .int w13.1), (6, .int v9), (5, .ref (zad F G (100 + 4 * q7))), (4, .ref (zad F G (100 + 4 * q2))), (0, .ref (F 20)), (1, .int x1), (2, .int x2), (3, .int x3)]) hx hb dX11_paired_81 hl (by decide) rfl (fun ls hl => ?_)
            refine lv_aload hx hb dX11_paired_83 (lv_at hl 3 rfl) ?_
            refine z_getP C0 inP_X11_paired hw hq2 8 (by decide) (v := .int ((zsc w13.2 (100 + 4 * q2) 8))) rfl 2 rfl (Or.inl rfl) dX11_paired_85 ?_
            refine lv_iload_n hx hb dX11_paired_88 rfl (lv_at hl 7 rfl) ?_
            refine lv_iadd hx hb dX11_paired_89 ?_
            obtain ⟨v14, ev14, h⟩ := z_bd h
            refine z_top (Option.some.inj ev14) ?_
            refine lv_istore (lv' := [(8, .int v14), (7, .int w13.1), (6, .int v9), (5, .ref (zad F G (100 + 4 * q7))), (4, .ref (zad F G (100 + 4 * q2))), (0, .ref (F 20)), (1, .int x1), (2, .int x2), (3, .int x3)]) hx hb dX11_paired_90 hl (by decide) rfl (fun ls hl => ?_)
            refine lv_iload_n hx hb dX11_paired_92 rfl (lv_at hl 8 rfl) ?_
            refine lv_iconst (v := (-1)) hx hb dX11_paired_93 (by decide) ?_
            refine lv_icmp_eq (tgt := 105) hx hb dX11_paired_94 (by decide) (fun c15 => ?_) (fun c15 => ?_)
            · replace h := z_ifp c15 h
              refine lv_iload hx hb dX11_paired_105 (lv_at hl 1 rfl) ?_
              refine lv_goto (tgt := 117) hx hb dX11_paired_107 (by decide) ?_
              exact z_reti C0 hw hS (Option.some.inj h) dX11_paired_117
            · replace h := z_ifn c15 h
              refine lv_iload hx hb dX11_paired_97 (lv_at hl 0 rfl) ?_
              obtain ⟨w16, ew16, h⟩ := z_bd h
              refine z_goi C0 hw hS (res := (w16, w13.2)) (rest := []) (arr := ([.int v14] : List Value).toArray) ?_ (fun H locs hw hS => ?_)
              · exact va_runS (z_fix C0) (c_X11_isCopy l D Y F G w13.2 _ v14 w16 ew16) (va_cwS 1 hts gX11_paired_X11_isCopy rfl rfl rfl (by decide +kernel) ⟨Nat.le_of_ble_eq_true rfl, Nat.le_of_ble_eq_true rfl⟩) ⟨zPc_blind, z_give C0 hw hS _⟩ rfl rfl hl.1 rfl (lv_room (Nat.le_of_ble_eq_true rfl)) dX11_paired_99 ⟨Nat.zero_le _, Nat.zero_le _⟩
              refine lv_if_ne (tgt := 110) hx hb dX11_paired_102 (by decide) (fun c17 => ?_) (fun c17 => ?_)
              · replace h := z_ifn c17 h
                refine lv_aload_n hx hb dX11_paired_110 rfl (lv_at hl 5 rfl) ?_
                refine z_getU C0 in_X11_paired_X11 (C := RX11) (T := TX11) (N := 14) hw (k := 20) (ci := 11) (v := .ref (F 26)) rfl rfl rfl rfl 10 (by decide) rfl 3 rfl (Or.inl rfl) dX11_paired_111 ?_
                refine lv_iload hx hb dX11_paired_114 (lv_at hl 0 rfl) ?_
                obtain ⟨b18, h⟩ := z_gd h
                refine z_iald C0 hw 26 rfl rfl zri_26 (zin_in b18) dX11_paired_116 ?_
                exact z_reti C0 hw hS (Option.some.inj h) dX11_paired_117
              · replace h := z_ifp c17 h
                refine lv_iload hx hb dX11_paired_105 (lv_at hl 1 rfl) ?_
                refine lv_goto (tgt := 117) hx hb dX11_paired_107 (by decide) ?_
                exact z_reti C0 hw hS (Option.some.inj h) dX11_paired_117
          · replace h := z_ifn c12 h
            exact t_X11_paired_B64 C0 res S h _ _ _ hw hS (lv_sub hl [3] rfl)
      · replace h := z_ifp c8 h
        exact t_X11_paired_B35 C0 res S h _ _ _ hw hS (lv_sub hl [2] rfl)
def M_X11_bear (pk : Nat → Nat) (S : zSt) (x1 : Int32) (x2 : Int32) : Option (Int32 × zSt) :=
  Option.bind (M_X4_personAt pk S 0 x1) (fun w1 => (zm w1 (Option.bind (M_X11_refuse pk S (-1)) (fun w3 => some (w3.1, w3.2))) (fun q2 => zg (zOKb pk q2) (Option.bind (M_X11_isDeed pk S x2) (fun w4 => (if w4 = 0 then Option.bind (M_X11_refuse pk S (-6)) (fun w6 => some (w6.1, w6.2)) else Option.bind (M_X5_bearing pk S q2 x2 ((zsc S 60 4))) (fun w7 => some (w7, S))))))))
set_option maxHeartbeats 4000000 in
set_option maxRecDepth 100000 in
theorem c_X11_bear (l : Launch) (D : va_G) (Y : Nat → ClassId) (F : Nat → Nat) (G : zG) (S : zSt) (sz : Nat) (x1 : Int32) (x2 : Int32) (res : Int32 × zSt) (h : M_X11_bear (zpk G) S x1 x2 = some res) : Met l yX11_bear wsX11_bear (zRm 3 65) (zPc D Y F G S sz [.ref (F 20), .int x1, .int x2]) (zQi D Y F (zAo F G sz) G res) 0 0 (zAo F G sz) := by
  unfold M_X11_bear at h
  refine zMet (cc := cX11_bear) (maxL := 4) (ret := (some .int)) (own := RX11) (by decide +kernel) rfl rfl (Nat.le_of_ble_eq_true rfl) ?_
  intro p e s m args below meth c C0 hin hw hS ls hl
  have hl : lv_has ls 4 [(0, .ref (F 20)), (1, .int x1), (2, .int x2)] := hl
  generalize zAo F G sz = A at C0 hw hS ⊢
  obtain ⟨hx, hb, hml, hr, hown, hts, hK, hA, hlk, hN⟩ := id C0
  refine lv_aload_n hx hb dX11_bear_0 rfl (lv_at hl 0 rfl) ?_
  refine z_getU C0 in_X11_bear_X11 (C := RX11) (T := TX11) (N := 14) hw (k := 20) (ci := 11) (v := .ref (F 60)) rfl rfl rfl rfl 3 (by decide) rfl 1 rfl (Or.inl rfl) dX11_bear_1 ?_
  refine lv_iload_n hx hb dX11_bear_4 rfl (lv_at hl 1 rfl) ?_
  obtain ⟨w1, ew1, h⟩ := z_bd h
  refine z_goq C0 hw hS (r0 := w1.map (zpa F G)) (rest := []) (arr := (Value.ref (F 60) :: [.int x1]).toArray) ?_ (fun H locs hw hS => ?_)
  · exact va_runV (z_fix C0) (c_X4_personAt l D Y F G S _ 0 (by decide) x1 w1 ew1) (cwV 1 hts gX11_bear_X4_personAt rfl rfl rfl (by decide +kernel) ⟨Nat.le_of_ble_eq_true rfl, Nat.le_of_ble_eq_true rfl⟩) ⟨zPc_blind, z_rv C0 hw (k := 60) rfl rfl rfl rfl, z_give C0 hw hS _⟩ rfl rfl hl.1 rfl (lv_room (Nat.le_of_ble_eq_true rfl)) dX11_bear_5 ⟨Nat.zero_le _, Nat.zero_le _⟩
  rcases w1 with _ | q2
  · replace h := zm_n h
    refine z_topv (y := .null) rfl ?_
    refine lv_astore_nN (lv' := [(3, .null), (0, .ref (F 20)), (1, .int x1), (2, .int x2)]) hx hb dX11_bear_8 rfl hl (by decide) rfl (fun ls hl => ?_)
    refine lv_aload_nN hx hb dX11_bear_9 rfl (lv_at hl 0 rfl) ?_
    refine lv_ifnonnullN hx hb dX11_bear_10 ?_
    refine lv_aload_n hx hb dX11_bear_13 rfl (lv_at hl 1 rfl) ?_
    refine lv_iconst (v := (-1)) hx hb dX11_bear_14 (by decide) ?_
    obtain ⟨w3, ew3, h⟩ := z_bd h
    refine z_goi C0 hw hS (res := w3) (rest := []) (arr := (Value.ref (F 20) :: [.int (-1)]).toArray) ?_ (fun H locs hw hS => ?_)
    · exact va_runV (z_fix C0) (c_X11_refuse l D Y F G S _ (-1) w3 ew3) (cwV 1 hts gX11_bear_X11_refuse rfl rfl rfl (by decide +kernel) ⟨Nat.le_of_ble_eq_true rfl, Nat.le_of_ble_eq_true rfl⟩) ⟨zPc_blind, z_rv C0 hw (k := 20) rfl rfl rfl rfl, z_give C0 hw hS _⟩ rfl rfl hl.1 rfl (lv_room (Nat.le_of_ble_eq_true rfl)) dX11_bear_15 ⟨Nat.zero_le _, Nat.zero_le _⟩
    exact z_reti C0 hw hS (Option.some.inj h) dX11_bear_18
  · replace h := zm_s h
    obtain ⟨bq2, h⟩ := z_gd h
    have hq2 := bq2
    refine z_topv (y := .ref (zad F G (100 + 4 * q2))) rfl ?_
    refine lv_astore_n (lv' := [(3, .ref (zad F G (100 + 4 * q2))), (0, .ref (F 20)), (1, .int x1), (2, .int x2)]) hx hb dX11_bear_8 rfl hl (by decide) rfl (fun ls hl => ?_)
    refine lv_aload_n hx hb dX11_bear_9 rfl (lv_at hl 0 rfl) ?_
    refine lv_ifnonnull (tgt := 19) hx hb dX11_bear_10 (by decide) ?_
    refine lv_iload_n hx hb dX11_bear_19 rfl (lv_at hl 3 rfl) ?_
    obtain ⟨w4, ew4, h⟩ := z_bd h
    refine z_goi C0 hw hS (res := (w4, S)) (rest := []) (arr := ([.int x2] : List Value).toArray) ?_ (fun H locs hw hS => ?_)
    · exact va_runS (z_fix C0) (c_X11_isDeed l D Y F G S _ x2 w4 ew4) (va_cwS 1 hts gX11_bear_X11_isDeed rfl rfl rfl (by decide +kernel) ⟨Nat.le_of_ble_eq_true rfl, Nat.le_of_ble_eq_true rfl⟩) ⟨zPc_blind, z_give C0 hw hS _⟩ rfl rfl hl.1 rfl (lv_room (Nat.le_of_ble_eq_true rfl)) dX11_bear_20 ⟨Nat.zero_le _, Nat.zero_le _⟩
    refine lv_if_eq (tgt := 41) hx hb dX11_bear_23 (by decide) (fun c5 => ?_) (fun c5 => ?_)
    · replace h := z_ifp c5 h
      refine lv_aload_n hx hb dX11_bear_41 rfl (lv_at hl 1 rfl) ?_
      refine lv_bipush (v := (-6)) hx hb dX11_bear_42 (by decide) ?_
      obtain ⟨w6, ew6, h⟩ := z_bd h
      refine z_goi C0 hw hS (res := w6) (rest := []) (arr := (Value.ref (F 20) :: [.int (-6)]).toArray) ?_ (fun H locs hw hS => ?_)
      · exact va_runV (z_fix C0) (c_X11_refuse l D Y F G S _ (-6) w6 ew6) (cwV 1 hts gX11_bear_X11_refuse rfl rfl rfl (by decide +kernel) ⟨Nat.le_of_ble_eq_true rfl, Nat.le_of_ble_eq_true rfl⟩) ⟨zPc_blind, z_rv C0 hw (k := 20) rfl rfl rfl rfl, z_give C0 hw hS _⟩ rfl rfl hl.1 rfl (lv_room (Nat.le_of_ble_eq_true rfl)) dX11_bear_44 ⟨Nat.zero_le _, Nat.zero_le _⟩
      exact z_reti C0 hw hS (Option.some.inj h) dX11_bear_47
    · replace h := z_ifn c5 h
      refine lv_aload_n hx hb dX11_bear_26 rfl (lv_at hl 0 rfl) ?_
      refine lv_iload_n hx hb dX11_bear_27 rfl (lv_at hl 3 rfl) ?_
      refine lv_aload_n hx hb dX11_bear_28 rfl (lv_at hl 1 rfl) ?_
      refine z_getU C0 in_X11_bear_X11 (C := RX11) (T := TX11) (N := 14) hw (k := 20) (ci := 11) (v := .ref (F 60)) rfl rfl rfl rfl 3 (by decide) rfl 1 rfl (Or.inl rfl) dX11_bear_29 ?_
      refine z_getU C0 in_X11_bear_X4 (C := RX4) (T := TX4) (N := 6) hw (k := 60) (ci := 4) (v := .int ((zsc S 60 4))) rfl rfl rfl rfl 4 (by decide) rfl 2 rfl (Or.inl rfl) dX11_bear_32 ?_
      obtain ⟨w7, ew7, h⟩ := z_bd h
      refine z_goi C0 hw hS (res := (w7, S)) (rest := []) (arr := (Value.ref (zad F G (100 + 4 * q2)) :: [.int x2, .int ((zsc S 60 4))]).toArray) ?_ (fun H locs hw hS => ?_)
      · rcases zOK_cases hq2 with zz | zz | zz | zz | zz | zz | zz
        · exact va_runU (z_fix C0) (c_X5_bearing l D Y F G S _ q2 hq2 x2 ((zsc S 60 4)) w7 ew7) (va_cwU 2 hts gX11_bear_X5_bearing_u251X0 rfl rfl rfl rfl (by decide +kernel) ⟨Nat.le_of_ble_eq_true rfl, Nat.le_of_ble_eq_true rfl⟩) ⟨zPc_blind, z_prec C0 hw hq2 (ci := 0) zz rfl, z_give C0 hw hS _⟩ rfl rfl hl.1 rfl (lv_room (Nat.le_of_ble_eq_true rfl)) dX11_bear_35 ⟨Nat.zero_le _, Nat.zero_le _⟩
        · exact va_runU (z_fix C0) (c_X5_bearing l D Y F G S _ q2 hq2 x2 ((zsc S 60 4)) w7 ew7) (va_cwU 2 hts gX11_bear_X5_bearing_u251X1 rfl rfl rfl rfl (by decide +kernel) ⟨Nat.le_of_ble_eq_true rfl, Nat.le_of_ble_eq_true rfl⟩) ⟨zPc_blind, z_prec C0 hw hq2 (ci := 1) zz rfl, z_give C0 hw hS _⟩ rfl rfl hl.1 rfl (lv_room (Nat.le_of_ble_eq_true rfl)) dX11_bear_35 ⟨Nat.zero_le _, Nat.zero_le _⟩
        · exact va_runU (z_fix C0) (c_X5_bearing l D Y F G S _ q2 hq2 x2 ((zsc S 60 4)) w7 ew7) (va_cwU 2 hts gX11_bear_X5_bearing_u251X2 rfl rfl rfl rfl (by decide +kernel) ⟨Nat.le_of_ble_eq_true rfl, Nat.le_of_ble_eq_true rfl⟩) ⟨zPc_blind, z_prec C0 hw hq2 (ci := 2) zz rfl, z_give C0 hw hS _⟩ rfl rfl hl.1 rfl (lv_room (Nat.le_of_ble_eq_true rfl)) dX11_bear_35 ⟨Nat.zero_le _, Nat.zero_le _⟩
        · exact va_runU (z_fix C0) (c_X5_bearing l D Y F G S _ q2 hq2 x2 ((zsc S 60 4)) w7 ew7) (va_cwU 2 hts gX11_bear_X5_bearing_u251X3 rfl rfl rfl rfl (by decide +kernel) ⟨Nat.le_of_ble_eq_true rfl, Nat.le_of_ble_eq_true rfl⟩) ⟨zPc_blind, z_prec C0 hw hq2 (ci := 3) zz rfl, z_give C0 hw hS _⟩ rfl rfl hl.1 rfl (lv_room (Nat.le_of_ble_eq_true rfl)) dX11_bear_35 ⟨Nat.zero_le _, Nat.zero_le _⟩
        · exact va_runV (z_fix C0) (c_X5_bearing l D Y F G S _ q2 hq2 x2 ((zsc S 60 4)) w7 ew7) (cwV 2 hts gX11_bear_X5_bearing rfl rfl rfl (by decide +kernel) ⟨Nat.le_of_ble_eq_true rfl, Nat.le_of_ble_eq_true rfl⟩) ⟨zPc_blind, z_prec C0 hw hq2 (ci := 5) zz rfl, z_give C0 hw hS _⟩ rfl rfl hl.1 rfl (lv_room (Nat.le_of_ble_eq_true rfl)) dX11_bear_35 ⟨Nat.zero_le _, Nat.zero_le _⟩
        · exact va_runU (z_fix C0) (c_X5_bearing l D Y F G S _ q2 hq2 x2 ((zsc S 60 4)) w7 ew7) (va_cwU 2 hts gX11_bear_X5_bearing_u251X8 rfl rfl rfl rfl (by decide +kernel) ⟨Nat.le_of_ble_eq_true rfl, Nat.le_of_ble_eq_true rfl⟩) ⟨zPc_blind, z_prec C0 hw hq2 (ci := 8) zz rfl, z_give C0 hw hS _⟩ rfl rfl hl.1 rfl (lv_room (Nat.le_of_ble_eq_true rfl)) dX11_bear_35 ⟨Nat.zero_le _, Nat.zero_le _⟩
        · exact va_runU (z_fix C0) (c_X5_bearing l D Y F G S _ q2 hq2 x2 ((zsc S 60 4)) w7 ew7) (va_cwU 2 hts gX11_bear_X5_bearing_u251X10 rfl rfl rfl rfl (by decide +kernel) ⟨Nat.le_of_ble_eq_true rfl, Nat.le_of_ble_eq_true rfl⟩) ⟨zPc_blind, z_prec C0 hw hq2 (ci := 10) zz rfl, z_give C0 hw hS _⟩ rfl rfl hl.1 rfl (lv_room (Nat.le_of_ble_eq_true rfl)) dX11_bear_35 ⟨Nat.zero_le _, Nat.zero_le _⟩
      refine lv_goto (tgt := 47) hx hb dX11_bear_38 (by decide) ?_
      exact z_reti C0 hw hS (Option.some.inj h) dX11_bear_47
def M_X11_heir (pk : Nat → Nat) (S : zSt) (x1 : Int32) : Option (Int32 × zSt) :=
  (if (zsc S 60 3) = 0 then Option.bind (M_X11_refuse pk S (-5)) (fun w6 => some (w6.1, w6.2)) else Option.bind (M_X11_isDeed pk S x1) (fun w2 => (if w2 = 0 then Option.bind (M_X11_refuse pk S (-6)) (fun w4 => some (w4.1, w4.2)) else Option.bind (M_X4_longestBearer pk S 0 x1) (fun w5 => some (w5, S)))))
set_option maxHeartbeats 4000000 in
set_option maxRecDepth 100000 in
theorem c_X11_heir (l : Launch) (D : va_G) (Y : Nat → ClassId) (F : Nat → Nat) (G : zG) (S : zSt) (sz : Nat) (x1 : Int32) (res : Int32 × zSt) (h : M_X11_heir (zpk G) S x1 = some res) : Met l yX11_heir wsX11_heir (zRm 4 91) (zPc D Y F G S sz [.ref (F 20), .int x1]) (zQi D Y F (zAo F G sz) G res) 0 0 (zAo F G sz) := by
  unfold M_X11_heir at h
  refine zMet (cc := cX11_heir) (maxL := 2) (ret := (some .int)) (own := RX11) (by decide +kernel) rfl rfl (Nat.le_of_ble_eq_true rfl) ?_
  intro p e s m args below meth c C0 hin hw hS ls hl
  have hl : lv_has ls 2 [(0, .ref (F 20)), (1, .int x1)] := hl
  generalize zAo F G sz = A at C0 hw hS ⊢
  obtain ⟨hx, hb, hml, hr, hown, hts, hK, hA, hlk, hN⟩ := id C0
  refine lv_aload_n hx hb dX11_heir_0 rfl (lv_at hl 0 rfl) ?_
  refine z_getU C0 in_X11_heir_X11 (C := RX11) (T := TX11) (N := 14) hw (k := 20) (ci := 11) (v := .ref (F 60)) rfl rfl rfl rfl 3 (by decide) rfl 1 rfl (Or.inl rfl) dX11_heir_1 ?_
  refine z_getU C0 in_X11_heir_X4 (C := RX4) (T := TX4) (N := 6) hw (k := 60) (ci := 4) (v := .int ((zsc S 60 3))) rfl rfl rfl rfl 3 (by decide) rfl 2 rfl (Or.inl rfl) dX11_heir_4 ?_
  refine lv_if_ne (tgt := 17) hx hb dX11_heir_7 (by decide) (fun c1 => ?_) (fun c1 => ?_)
  · replace h := z_ifn c1 h
    refine lv_iload_n hx hb dX11_heir_17 rfl (lv_at hl 1 rfl) ?_
    obtain ⟨w2, ew2, h⟩ := z_bd h
    refine z_goi C0 hw hS (res := (w2, S)) (rest := []) (arr := ([.int x1] : List Value).toArray) ?_ (fun H locs hw hS => ?_)
    · exact va_runS (z_fix C0) (c_X11_isDeed l D Y F G S _ x1 w2 ew2) (va_cwS 1 hts gX11_heir_X11_isDeed rfl rfl rfl (by decide +kernel) ⟨Nat.le_of_ble_eq_true rfl, Nat.le_of_ble_eq_true rfl⟩) ⟨zPc_blind, z_give C0 hw hS _⟩ rfl rfl hl.1 rfl (lv_room (Nat.le_of_ble_eq_true rfl)) dX11_heir_18 ⟨Nat.zero_le _, Nat.zero_le _⟩
    refine lv_if_eq (tgt := 35) hx hb dX11_heir_21 (by decide) (fun c3 => ?_) (fun c3 => ?_)
    · replace h := z_ifp c3 h
      refine lv_aload_n hx hb dX11_heir_35 rfl (lv_at hl 0 rfl) ?_
      refine lv_bipush (v := (-6)) hx hb dX11_heir_36 (by decide) ?_
      obtain ⟨w4, ew4, h⟩ := z_bd h
      refine z_goi C0 hw hS (res := w4) (rest := []) (arr := (Value.ref (F 20) :: [.int (-6)]).toArray) ?_ (fun H locs hw hS => ?_)
      · exact va_runV (z_fix C0) (c_X11_refuse l D Y F G S _ (-6) w4 ew4) (cwV 1 hts gX11_heir_X11_refuse rfl rfl rfl (by decide +kernel) ⟨Nat.le_of_ble_eq_true rfl, Nat.le_of_ble_eq_true rfl⟩) ⟨zPc_blind, z_rv C0 hw (k := 20) rfl rfl rfl rfl, z_give C0 hw hS _⟩ rfl rfl hl.1 rfl (lv_room (Nat.le_of_ble_eq_true rfl)) dX11_heir_38 ⟨Nat.zero_le _, Nat.zero_le _⟩
      exact z_reti C0 hw hS (Option.some.inj h) dX11_heir_41
    · replace h := z_ifn c3 h
      refine lv_aload_n hx hb dX11_heir_24 rfl (lv_at hl 0 rfl) ?_
      refine z_getU C0 in_X11_heir_X11 (C := RX11) (T := TX11) (N := 14) hw (k := 20) (ci := 11) (v := .ref (F 60)) rfl rfl rfl rfl 3 (by decide) rfl 1 rfl (Or.inl rfl) dX11_heir_25 ?_
      refine lv_iload_n hx hb dX11_heir_28 rfl (lv_at hl 1 rfl) ?_
      obtain ⟨w5, ew5, h⟩ := z_bd h
      refine z_goi C0 hw hS (res := (w5, S)) (rest := []) (arr := (Value.ref (F 60) :: [.int x1]).toArray) ?_ (fun H locs hw hS => ?_)
      · exact va_runV (z_fix C0) (c_X4_longestBearer l D Y F G S _ 0 (by decide) x1 w5 ew5) (cwV 1 hts gX11_heir_X4_longestBearer rfl rfl rfl (by decide +kernel) ⟨Nat.le_of_ble_eq_true rfl, Nat.le_of_ble_eq_true rfl⟩) ⟨zPc_blind, z_rv C0 hw (k := 60) rfl rfl rfl rfl, z_give C0 hw hS _⟩ rfl rfl hl.1 rfl (lv_room (Nat.le_of_ble_eq_true rfl)) dX11_heir_29 ⟨Nat.zero_le _, Nat.zero_le _⟩
      refine lv_goto (tgt := 41) hx hb dX11_heir_32 (by decide) ?_
      exact z_reti C0 hw hS (Option.some.inj h) dX11_heir_41
  · replace h := z_ifp c1 h
    refine lv_aload_n hx hb dX11_heir_10 rfl (lv_at hl 0 rfl) ?_
    refine lv_bipush (v := (-5)) hx hb dX11_heir_11 (by decide) ?_
    obtain ⟨w6, ew6, h⟩ := z_bd h
    refine z_goi C0 hw hS (res := w6) (rest := []) (arr := (Value.ref (F 20) :: [.int (-5)]).toArray) ?_ (fun H locs hw hS => ?_)
    · exact va_runV (z_fix C0) (c_X11_refuse l D Y F G S _ (-5) w6 ew6) (cwV 1 hts gX11_heir_X11_refuse rfl rfl rfl (by decide +kernel) ⟨Nat.le_of_ble_eq_true rfl, Nat.le_of_ble_eq_true rfl⟩) ⟨zPc_blind, z_rv C0 hw (k := 20) rfl rfl rfl rfl, z_give C0 hw hS _⟩ rfl rfl hl.1 rfl (lv_room (Nat.le_of_ble_eq_true rfl)) dX11_heir_13 ⟨Nat.zero_le _, Nat.zero_le _⟩
    exact z_reti C0 hw hS (Option.some.inj h) dX11_heir_16
def M_X11_straight (pk : Nat → Nat) (S : zSt) (x1 : Int32) (x2 : Int32) : Option (Int32 × zSt) :=
  Option.bind (M_X4_personAt pk S 0 x1) (fun w1 => (zm w1 (Option.bind (M_X11_refuseLess pk S (-1) 10) (fun w3 => some (w3.1, w3.2))) (fun q2 => zg (zOKb pk q2) ((if x2 = 0 then Option.bind (M_X5_trueBits pk S q2) (fun w5 => some (w5, S)) else (if x2 = 1 then Option.bind (M_X5_movesToStraight pk S q2) (fun w7 => some (w7, S)) else (if x2 = 2 then Option.bind (M_X5_firstAskew pk S q2) (fun w9 => some (w9, S)) else Option.bind (M_X11_refuseLess pk S (-5) 10) (fun w10 => some (w10.1, w10.2)))))))))
set_option maxHeartbeats 4000000 in
set_option maxRecDepth 100000 in
theorem c_X11_straight (l : Launch) (D : va_G) (Y : Nat → ClassId) (F : Nat → Nat) (G : zG) (S : zSt) (sz : Nat) (x1 : Int32) (x2 : Int32) (res : Int32 × zSt) (h : M_X11_straight (zpk G) S x1 x2 = some res) : Met l yX11_straight wsX11_straight (zRm 2 50) (zPc D Y F G S sz [.ref (F 20), .int x1, .int x2]) (zQi D Y F (zAo F G sz) G res) 0 0 (zAo F G sz) := by
  unfold M_X11_straight at h
  refine zMet (cc := cX11_straight) (maxL := 4) (ret := (some .int)) (own := RX11) (by decide +kernel) rfl rfl (Nat.le_of_ble_eq_true rfl) ?_
  intro p e s m args below meth c C0 hin hw hS ls hl
  have hl : lv_has ls 4 [(0, .ref (F 20)), (1, .int x1), (2, .int x2)] := hl
  generalize zAo F G sz = A at C0 hw hS ⊢
  obtain ⟨hx, hb, hml, hr, hown, hts, hK, hA, hlk, hN⟩ := id C0
  refine lv_aload_n hx hb dX11_straight_0 rfl (lv_at hl 0 rfl) ?_
  refine z_getU C0 in_X11_straight_X11 (C := RX11) (T := TX11) (N := 14) hw (k := 20) (ci := 11) (v := .ref (F 60)) rfl rfl rfl rfl 3 (by decide) rfl 1 rfl (Or.inl rfl) dX11_straight_1 ?_
  refine lv_iload_n hx hb dX11_straight_4 rfl (lv_at hl 1 rfl) ?_
  obtain ⟨w1, ew1, h⟩ := z_bd h
  refine z_goq C0 hw hS (r0 := w1.map (zpa F G)) (rest := []) (arr := (Value.ref (F 60) :: [.int x1]).toArray) ?_ (fun H locs hw hS => ?_)
  · exact va_runV (z_fix C0) (c_X4_personAt l D Y F G S _ 0 (by decide) x1 w1 ew1) (cwV 1 hts gX11_straight_X4_personAt rfl rfl rfl (by decide +kernel) ⟨Nat.le_of_ble_eq_true rfl, Nat.le_of_ble_eq_true rfl⟩) ⟨zPc_blind, z_rv C0 hw (k := 60) rfl rfl rfl rfl, z_give C0 hw hS _⟩ rfl rfl hl.1 rfl (lv_room (Nat.le_of_ble_eq_true rfl)) dX11_straight_5 ⟨Nat.zero_le _, Nat.zero_le _⟩
  rcases w1 with _ | q2
  · replace h := zm_n h
    refine z_topv (y := .null) rfl ?_
    refine lv_astore_nN (lv' := [(3, .null), (0, .ref (F 20)), (1, .int x1), (2, .int x2)]) hx hb dX11_straight_8 rfl hl (by decide) rfl (fun ls hl => ?_)
    refine lv_aload_nN hx hb dX11_straight_9 rfl (lv_at hl 0 rfl) ?_
    refine lv_ifnonnullN hx hb dX11_straight_10 ?_
    refine lv_aload_n hx hb dX11_straight_13 rfl (lv_at hl 1 rfl) ?_
    refine lv_iconst (v := (-1)) hx hb dX11_straight_14 (by decide) ?_
    refine lv_bipush (v := 10) hx hb dX11_straight_15 (by decide) ?_
    obtain ⟨w3, ew3, h⟩ := z_bd h
    refine z_goi C0 hw hS (res := w3) (rest := []) (arr := (Value.ref (F 20) :: [.int (-1), .int 10]).toArray) ?_ (fun H locs hw hS => ?_)
    · exact va_runV (z_fix C0) (c_X11_refuseLess l D Y F G S _ (-1) 10 w3 ew3) (cwV 2 hts gX11_straight_X11_refuseLess rfl rfl rfl (by decide +kernel) ⟨Nat.le_of_ble_eq_true rfl, Nat.le_of_ble_eq_true rfl⟩) ⟨zPc_blind, z_rv C0 hw (k := 20) rfl rfl rfl rfl, z_give C0 hw hS _⟩ rfl rfl hl.1 rfl (lv_room (Nat.le_of_ble_eq_true rfl)) dX11_straight_17 ⟨Nat.zero_le _, Nat.zero_le _⟩
    exact z_reti C0 hw hS (Option.some.inj h) dX11_straight_20
  · replace h := zm_s h
    obtain ⟨bq2, h⟩ := z_gd h
    have hq2 := bq2
    refine z_topv (y := .ref (zad F G (100 + 4 * q2))) rfl ?_
    refine lv_astore_n (lv' := [(3, .ref (zad F G (100 + 4 * q2))), (0, .ref (F 20)), (1, .int x1), (2, .int x2)]) hx hb dX11_straight_8 rfl hl (by decide) rfl (fun ls hl => ?_)
    refine lv_aload_n hx hb dX11_straight_9 rfl (lv_at hl 0 rfl) ?_
    refine lv_ifnonnull (tgt := 21) hx hb dX11_straight_10 (by decide) ?_
    refine lv_iload_n hx hb dX11_straight_21 rfl (lv_at hl 3 rfl) ?_
    by_cases c4 : x2 = 0
    · replace h := z_ifp c4 h
      refine z_top c4 ?_
      refine lv_tableIn (off := 26) (tgt := 48) hx hb dX11_straight_22 (by decide) (by decide) rfl (by decide) ?_
      refine lv_aload_n hx hb dX11_straight_48 rfl (lv_at hl 0 rfl) ?_
      obtain ⟨w5, ew5, h⟩ := z_bd h
      refine z_goi C0 hw hS (res := (w5, S)) (rest := []) (arr := (Value.ref (zad F G (100 + 4 * q2)) :: []).toArray) ?_ (fun H locs hw hS => ?_)
      · rcases zOK_cases hq2 with zz | zz | zz | zz | zz | zz | zz
        · exact va_runU (z_fix C0) (c_X5_trueBits l D Y F G S _ q2 hq2 w5 ew5) (va_cwU 0 hts gX11_straight_X5_trueBits_u260X0 rfl rfl rfl rfl (by decide +kernel) ⟨Nat.le_of_ble_eq_true rfl, Nat.le_of_ble_eq_true rfl⟩) ⟨zPc_blind, z_prec C0 hw hq2 (ci := 0) zz rfl, z_give C0 hw hS _⟩ rfl rfl hl.1 rfl (lv_room (Nat.le_of_ble_eq_true rfl)) dX11_straight_49 ⟨Nat.zero_le _, Nat.zero_le _⟩
        · exact va_runU (z_fix C0) (c_X5_trueBits l D Y F G S _ q2 hq2 w5 ew5) (va_cwU 0 hts gX11_straight_X5_trueBits_u260X1 rfl rfl rfl rfl (by decide +kernel) ⟨Nat.le_of_ble_eq_true rfl, Nat.le_of_ble_eq_true rfl⟩) ⟨zPc_blind, z_prec C0 hw hq2 (ci := 1) zz rfl, z_give C0 hw hS _⟩ rfl rfl hl.1 rfl (lv_room (Nat.le_of_ble_eq_true rfl)) dX11_straight_49 ⟨Nat.zero_le _, Nat.zero_le _⟩
        · exact va_runU (z_fix C0) (c_X5_trueBits l D Y F G S _ q2 hq2 w5 ew5) (va_cwU 0 hts gX11_straight_X5_trueBits_u260X2 rfl rfl rfl rfl (by decide +kernel) ⟨Nat.le_of_ble_eq_true rfl, Nat.le_of_ble_eq_true rfl⟩) ⟨zPc_blind, z_prec C0 hw hq2 (ci := 2) zz rfl, z_give C0 hw hS _⟩ rfl rfl hl.1 rfl (lv_room (Nat.le_of_ble_eq_true rfl)) dX11_straight_49 ⟨Nat.zero_le _, Nat.zero_le _⟩
        · exact va_runU (z_fix C0) (c_X5_trueBits l D Y F G S _ q2 hq2 w5 ew5) (va_cwU 0 hts gX11_straight_X5_trueBits_u260X3 rfl rfl rfl rfl (by decide +kernel) ⟨Nat.le_of_ble_eq_true rfl, Nat.le_of_ble_eq_true rfl⟩) ⟨zPc_blind, z_prec C0 hw hq2 (ci := 3) zz rfl, z_give C0 hw hS _⟩ rfl rfl hl.1 rfl (lv_room (Nat.le_of_ble_eq_true rfl)) dX11_straight_49 ⟨Nat.zero_le _, Nat.zero_le _⟩
        · exact va_runV (z_fix C0) (c_X5_trueBits l D Y F G S _ q2 hq2 w5 ew5) (cwV 0 hts gX11_straight_X5_trueBits rfl rfl rfl (by decide +kernel) ⟨Nat.le_of_ble_eq_true rfl, Nat.le_of_ble_eq_true rfl⟩) ⟨zPc_blind, z_prec C0 hw hq2 (ci := 5) zz rfl, z_give C0 hw hS _⟩ rfl rfl hl.1 rfl (lv_room (Nat.le_of_ble_eq_true rfl)) dX11_straight_49 ⟨Nat.zero_le _, Nat.zero_le _⟩
        · exact va_runU (z_fix C0) (c_X5_trueBits l D Y F G S _ q2 hq2 w5 ew5) (va_cwU 0 hts gX11_straight_X5_trueBits_u260X8 rfl rfl rfl rfl (by decide +kernel) ⟨Nat.le_of_ble_eq_true rfl, Nat.le_of_ble_eq_true rfl⟩) ⟨zPc_blind, z_prec C0 hw hq2 (ci := 8) zz rfl, z_give C0 hw hS _⟩ rfl rfl hl.1 rfl (lv_room (Nat.le_of_ble_eq_true rfl)) dX11_straight_49 ⟨Nat.zero_le _, Nat.zero_le _⟩
        · exact va_runU (z_fix C0) (c_X5_trueBits l D Y F G S _ q2 hq2 w5 ew5) (va_cwU 0 hts gX11_straight_X5_trueBits_u260X10 rfl rfl rfl rfl (by decide +kernel) ⟨Nat.le_of_ble_eq_true rfl, Nat.le_of_ble_eq_true rfl⟩) ⟨zPc_blind, z_prec C0 hw hq2 (ci := 10) zz rfl, z_give C0 hw hS _⟩ rfl rfl hl.1 rfl (lv_room (Nat.le_of_ble_eq_true rfl)) dX11_straight_49 ⟨Nat.zero_le _, Nat.zero_le _⟩
      exact z_reti C0 hw hS (Option.some.inj h) dX11_straight_52
    · replace h := z_ifn c4 h
      by_cases c6 : x2 = 1
      · replace h := z_ifp c6 h
        refine z_top c6 ?_
        refine lv_tableIn (off := 31) (tgt := 53) hx hb dX11_straight_22 (by decide) (by decide) rfl (by decide) ?_
        refine lv_aload_n hx hb dX11_straight_53 rfl (lv_at hl 0 rfl) ?_
        obtain ⟨w7, ew7, h⟩ := z_bd h
        refine z_goi C0 hw hS (res := (w7, S)) (rest := []) (arr := (Value.ref (zad F G (100 + 4 * q2)) :: []).toArray) ?_ (fun H locs hw hS => ?_)
        · rcases zOK_cases hq2 with zz | zz | zz | zz | zz | zz | zz
          · exact va_runU (z_fix C0) (c_X5_movesToStraight l D Y F G S _ q2 hq2 w7 ew7) (va_cwU 0 hts gX11_straight_X5_movesToStraight_u263X0 rfl rfl rfl rfl (by decide +kernel) ⟨Nat.le_of_ble_eq_true rfl, Nat.le_of_ble_eq_true rfl⟩) ⟨zPc_blind, z_prec C0 hw hq2 (ci := 0) zz rfl, z_give C0 hw hS _⟩ rfl rfl hl.1 rfl (lv_room (Nat.le_of_ble_eq_true rfl)) dX11_straight_54 ⟨Nat.zero_le _, Nat.zero_le _⟩
          · exact va_runU (z_fix C0) (c_X5_movesToStraight l D Y F G S _ q2 hq2 w7 ew7) (va_cwU 0 hts gX11_straight_X5_movesToStraight_u263X1 rfl rfl rfl rfl (by decide +kernel) ⟨Nat.le_of_ble_eq_true rfl, Nat.le_of_ble_eq_true rfl⟩) ⟨zPc_blind, z_prec C0 hw hq2 (ci := 1) zz rfl, z_give C0 hw hS _⟩ rfl rfl hl.1 rfl (lv_room (Nat.le_of_ble_eq_true rfl)) dX11_straight_54 ⟨Nat.zero_le _, Nat.zero_le _⟩
          · exact va_runU (z_fix C0) (c_X5_movesToStraight l D Y F G S _ q2 hq2 w7 ew7) (va_cwU 0 hts gX11_straight_X5_movesToStraight_u263X2 rfl rfl rfl rfl (by decide +kernel) ⟨Nat.le_of_ble_eq_true rfl, Nat.le_of_ble_eq_true rfl⟩) ⟨zPc_blind, z_prec C0 hw hq2 (ci := 2) zz rfl, z_give C0 hw hS _⟩ rfl rfl hl.1 rfl (lv_room (Nat.le_of_ble_eq_true rfl)) dX11_straight_54 ⟨Nat.zero_le _, Nat.zero_le _⟩
          · exact va_runU (z_fix C0) (c_X5_movesToStraight l D Y F G S _ q2 hq2 w7 ew7) (va_cwU 0 hts gX11_straight_X5_movesToStraight_u263X3 rfl rfl rfl rfl (by decide +kernel) ⟨Nat.le_of_ble_eq_true rfl, Nat.le_of_ble_eq_true rfl⟩) ⟨zPc_blind, z_prec C0 hw hq2 (ci := 3) zz rfl, z_give C0 hw hS _⟩ rfl rfl hl.1 rfl (lv_room (Nat.le_of_ble_eq_true rfl)) dX11_straight_54 ⟨Nat.zero_le _, Nat.zero_le _⟩
          · exact va_runV (z_fix C0) (c_X5_movesToStraight l D Y F G S _ q2 hq2 w7 ew7) (cwV 0 hts gX11_straight_X5_movesToStraight rfl rfl rfl (by decide +kernel) ⟨Nat.le_of_ble_eq_true rfl, Nat.le_of_ble_eq_true rfl⟩) ⟨zPc_blind, z_prec C0 hw hq2 (ci := 5) zz rfl, z_give C0 hw hS _⟩ rfl rfl hl.1 rfl (lv_room (Nat.le_of_ble_eq_true rfl)) dX11_straight_54 ⟨Nat.zero_le _, Nat.zero_le _⟩
          · exact va_runU (z_fix C0) (c_X5_movesToStraight l D Y F G S _ q2 hq2 w7 ew7) (va_cwU 0 hts gX11_straight_X5_movesToStraight_u263X8 rfl rfl rfl rfl (by decide +kernel) ⟨Nat.le_of_ble_eq_true rfl, Nat.le_of_ble_eq_true rfl⟩) ⟨zPc_blind, z_prec C0 hw hq2 (ci := 8) zz rfl, z_give C0 hw hS _⟩ rfl rfl hl.1 rfl (lv_room (Nat.le_of_ble_eq_true rfl)) dX11_straight_54 ⟨Nat.zero_le _, Nat.zero_le _⟩
          · exact va_runU (z_fix C0) (c_X5_movesToStraight l D Y F G S _ q2 hq2 w7 ew7) (va_cwU 0 hts gX11_straight_X5_movesToStraight_u263X10 rfl rfl rfl rfl (by decide +kernel) ⟨Nat.le_of_ble_eq_true rfl, Nat.le_of_ble_eq_true rfl⟩) ⟨zPc_blind, z_prec C0 hw hq2 (ci := 10) zz rfl, z_give C0 hw hS _⟩ rfl rfl hl.1 rfl (lv_room (Nat.le_of_ble_eq_true rfl)) dX11_straight_54 ⟨Nat.zero_le _, Nat.zero_le _⟩
        exact z_reti C0 hw hS (Option.some.inj h) dX11_straight_57
      · replace h := z_ifn c6 h
        by_cases c8 : x2 = 2
        · replace h := z_ifp c8 h
          refine z_top c8 ?_
          refine lv_tableIn (off := 36) (tgt := 58) hx hb dX11_straight_22 (by decide) (by decide) rfl (by decide) ?_
          refine lv_aload_n hx hb dX11_straight_58 rfl (lv_at hl 0 rfl) ?_
          obtain ⟨w9, ew9, h⟩ := z_bd h
          refine z_goi C0 hw hS (res := (w9, S)) (rest := []) (arr := (Value.ref (zad F G (100 + 4 * q2)) :: []).toArray) ?_ (fun H locs hw hS => ?_)
          · rcases zOK_cases hq2 with zz | zz | zz | zz | zz | zz | zz
            · exact va_runU (z_fix C0) (c_X5_firstAskew l D Y F G S _ q2 hq2 w9 ew9) (va_cwU 0 hts gX11_straight_X5_firstAskew_u266X0 rfl rfl rfl rfl (by decide +kernel) ⟨Nat.le_of_ble_eq_true rfl, Nat.le_of_ble_eq_true rfl⟩) ⟨zPc_blind, z_prec C0 hw hq2 (ci := 0) zz rfl, z_give C0 hw hS _⟩ rfl rfl hl.1 rfl (lv_room (Nat.le_of_ble_eq_true rfl)) dX11_straight_59 ⟨Nat.zero_le _, Nat.zero_le _⟩
            · exact va_runU (z_fix C0) (c_X5_firstAskew l D Y F G S _ q2 hq2 w9 ew9) (va_cwU 0 hts gX11_straight_X5_firstAskew_u266X1 rfl rfl rfl rfl (by decide +kernel) ⟨Nat.le_of_ble_eq_true rfl, Nat.le_of_ble_eq_true rfl⟩) ⟨zPc_blind, z_prec C0 hw hq2 (ci := 1) zz rfl, z_give C0 hw hS _⟩ rfl rfl hl.1 rfl (lv_room (Nat.le_of_ble_eq_true rfl)) dX11_straight_59 ⟨Nat.zero_le _, Nat.zero_le _⟩
            · exact va_runU (z_fix C0) (c_X5_firstAskew l D Y F G S _ q2 hq2 w9 ew9) (va_cwU 0 hts gX11_straight_X5_firstAskew_u266X2 rfl rfl rfl rfl (by decide +kernel) ⟨Nat.le_of_ble_eq_true rfl, Nat.le_of_ble_eq_true rfl⟩) ⟨zPc_blind, z_prec C0 hw hq2 (ci := 2) zz rfl, z_give C0 hw hS _⟩ rfl rfl hl.1 rfl (lv_room (Nat.le_of_ble_eq_true rfl)) dX11_straight_59 ⟨Nat.zero_le _, Nat.zero_le _⟩
            · exact va_runU (z_fix C0) (c_X5_firstAskew l D Y F G S _ q2 hq2 w9 ew9) (va_cwU 0 hts gX11_straight_X5_firstAskew_u266X3 rfl rfl rfl rfl (by decide +kernel) ⟨Nat.le_of_ble_eq_true rfl, Nat.le_of_ble_eq_true rfl⟩) ⟨zPc_blind, z_prec C0 hw hq2 (ci := 3) zz rfl, z_give C0 hw hS _⟩ rfl rfl hl.1 rfl (lv_room (Nat.le_of_ble_eq_true rfl)) dX11_straight_59 ⟨Nat.zero_le _, Nat.zero_le _⟩
            · exact va_runV (z_fix C0) (c_X5_firstAskew l D Y F G S _ q2 hq2 w9 ew9) (cwV 0 hts gX11_straight_X5_firstAskew rfl rfl rfl (by decide +kernel) ⟨Nat.le_of_ble_eq_true rfl, Nat.le_of_ble_eq_true rfl⟩) ⟨zPc_blind, z_prec C0 hw hq2 (ci := 5) zz rfl, z_give C0 hw hS _⟩ rfl rfl hl.1 rfl (lv_room (Nat.le_of_ble_eq_true rfl)) dX11_straight_59 ⟨Nat.zero_le _, Nat.zero_le _⟩
            · exact va_runU (z_fix C0) (c_X5_firstAskew l D Y F G S _ q2 hq2 w9 ew9) (va_cwU 0 hts gX11_straight_X5_firstAskew_u266X8 rfl rfl rfl rfl (by decide +kernel) ⟨Nat.le_of_ble_eq_true rfl, Nat.le_of_ble_eq_true rfl⟩) ⟨zPc_blind, z_prec C0 hw hq2 (ci := 8) zz rfl, z_give C0 hw hS _⟩ rfl rfl hl.1 rfl (lv_room (Nat.le_of_ble_eq_true rfl)) dX11_straight_59 ⟨Nat.zero_le _, Nat.zero_le _⟩
            · exact va_runU (z_fix C0) (c_X5_firstAskew l D Y F G S _ q2 hq2 w9 ew9) (va_cwU 0 hts gX11_straight_X5_firstAskew_u266X10 rfl rfl rfl rfl (by decide +kernel) ⟨Nat.le_of_ble_eq_true rfl, Nat.le_of_ble_eq_true rfl⟩) ⟨zPc_blind, z_prec C0 hw hq2 (ci := 10) zz rfl, z_give C0 hw hS _⟩ rfl rfl hl.1 rfl (lv_room (Nat.le_of_ble_eq_true rfl)) dX11_straight_59 ⟨Nat.zero_le _, Nat.zero_le _⟩
          exact z_reti C0 hw hS (Option.some.inj h) dX11_straight_62
        · replace h := z_ifn c8 h
          have nc4 : Int32.toInt x2 ≠ 0 := fun q => c4 (Int32.toInt_inj.mp (q.trans (by decide)))
          have nc6 : Int32.toInt x2 ≠ 1 := fun q => c6 (Int32.toInt_inj.mp (q.trans (by decide)))
          have nc8 : Int32.toInt x2 ≠ 2 := fun q => c8 (Int32.toInt_inj.mp (q.trans (by decide)))
          refine lv_tableOut (tgt := 63) hx hb dX11_straight_22 (by omega) (by decide) ?_
          refine lv_aload_n hx hb dX11_straight_63 rfl (lv_at hl 1 rfl) ?_
          refine lv_bipush (v := (-5)) hx hb dX11_straight_64 (by decide) ?_
          refine lv_bipush (v := 10) hx hb dX11_straight_66 (by decide) ?_
          obtain ⟨w10, ew10, h⟩ := z_bd h
          refine z_goi C0 hw hS (res := w10) (rest := []) (arr := (Value.ref (F 20) :: [.int (-5), .int 10]).toArray) ?_ (fun H locs hw hS => ?_)
          · exact va_runV (z_fix C0) (c_X11_refuseLess l D Y F G S _ (-5) 10 w10 ew10) (cwV 2 hts gX11_straight_X11_refuseLess rfl rfl rfl (by decide +kernel) ⟨Nat.le_of_ble_eq_true rfl, Nat.le_of_ble_eq_true rfl⟩) ⟨zPc_blind, z_rv C0 hw (k := 20) rfl rfl rfl rfl, z_give C0 hw hS _⟩ rfl rfl hl.1 rfl (lv_room (Nat.le_of_ble_eq_true rfl)) dX11_straight_68 ⟨Nat.zero_le _, Nat.zero_le _⟩
          exact z_reti C0 hw hS (Option.some.inj h) dX11_straight_71
def M_X11_judge_B23 (pk : Nat → Nat) (S : zSt) (x4 : Int32) : Option (Int32 × zSt) :=
  Option.bind (M_X11_refuseLess pk S x4 10) (fun w4 => some (w4.1, w4.2))
set_option maxHeartbeats 4000000 in
set_option maxRecDepth 100000 in
theorem t_X11_judge_B23 {p : Program} {l : Launch} {e : Env} {s : State} {m : MethodId} {args : Array Value} {below : List Frame} {meth : Method} {c : Code} {D : va_G} {Y : Nat → ClassId} {F : Nat → Nat} {A : Nat → Prop} {G : zG} (C0 : zCx p s m args meth c D Y F A RX11 cX11_judge 5 (some .int) wsX11_judge) (res : Int32 × zSt) : ∀ (S : zSt) (x4 : Int32), M_X11_judge_B23 (zpk G) S x4 = some res → ∀ (H : Heap) (locs : List Loc) (ls : Array Slot), zH D Y F A G S H → va_S A s.heap H locs → lv_has ls 5 [(0, .ref (F 20)), (4, .int x4)] → W p l e (zRm 5 108) s m args below meth c H locs 0 0 (MQ below (zQi D Y F A G res) args s 0 0 A) (F0 m 23 ls []) := by
  obtain ⟨hx, hb, hml, hr, hown, hts, hK, hA, hlk, hN⟩ := id C0
  intro S x4 h H locs ls hw hS hl
  unfold M_X11_judge_B23 at h
  refine lv_aload_n hx hb dX11_judge_23 rfl (lv_at hl 0 rfl) ?_
  refine lv_iload hx hb dX11_judge_24 (lv_at hl 1 rfl) ?_
  refine lv_bipush (v := 10) hx hb dX11_judge_26 (by decide) ?_
  obtain ⟨w4, ew4, h⟩ := z_bd h
  refine z_goi C0 hw hS (res := w4) (rest := []) (arr := (Value.ref (F 20) :: [.int x4, .int 10]).toArray) ?_ (fun H locs hw hS => ?_)
  · exact va_runV (z_fix C0) (c_X11_refuseLess l D Y F G S _ x4 10 w4 ew4) (cwV 2 hts gX11_judge_X11_refuseLess rfl rfl rfl (by decide +kernel) ⟨Nat.le_of_ble_eq_true rfl, Nat.le_of_ble_eq_true rfl⟩) ⟨zPc_blind, z_rv C0 hw (k := 20) rfl rfl rfl rfl, z_give C0 hw hS _⟩ rfl rfl hl.1 rfl (lv_room (Nat.le_of_ble_eq_true rfl)) dX11_judge_28 ⟨Nat.zero_le _, Nat.zero_le _⟩
  exact z_reti C0 hw hS (Option.some.inj h) dX11_judge_31
def M_X11_judge (pk : Nat → Nat) (S : zSt) (x1 : Int32) (x2 : Int32) : Option (Int32 × zSt) :=
  Option.bind (M_X11_shelfAt pk S x1) (fun w1 => (zm w1 (Option.bind (M_X11_refusalOfLife pk S none x2 1) (fun w3 => M_X11_judge_B23 pk S w3)) (fun q2 => zg (decide (q2 < 8)) (Option.bind (M_X11_refusalOfLife pk S (some q2) x2 1) (fun w5 => (if w5 = 0 then Option.bind (M_X4_firstWrong pk S 0 q2 x2) (fun w7 => some (w7.1, w7.2)) else M_X11_judge_B23 pk S w5))))))
set_option maxHeartbeats 4000000 in
set_option maxRecDepth 100000 in
theorem c_X11_judge (l : Launch) (D : va_G) (Y : Nat → ClassId) (F : Nat → Nat) (G : zG) (S : zSt) (sz : Nat) (x1 : Int32) (x2 : Int32) (res : Int32 × zSt) (h : M_X11_judge (zpk G) S x1 x2 = some res) : Met l yX11_judge wsX11_judge (zRm 5 108) (zPc D Y F G S sz [.ref (F 20), .int x1, .int x2]) (zQi D Y F (zAo F G sz) G res) 0 0 (zAo F G sz) := by
  unfold M_X11_judge at h
  refine zMet (cc := cX11_judge) (maxL := 5) (ret := (some .int)) (own := RX11) (by decide +kernel) rfl rfl (Nat.le_of_ble_eq_true rfl) ?_
  intro p e s m args below meth c C0 hin hw hS ls hl
  have hl : lv_has ls 5 [(0, .ref (F 20)), (1, .int x1), (2, .int x2)] := hl
  generalize zAo F G sz = A at C0 hw hS ⊢
  obtain ⟨hx, hb, hml, hr, hown, hts, hK, hA, hlk, hN⟩ := id C0
  refine lv_aload_n hx hb dX11_judge_0 rfl (lv_at hl 0 rfl) ?_
  refine lv_iload_n hx hb dX11_judge_1 rfl (lv_at hl 1 rfl) ?_
  obtain ⟨w1, ew1, h⟩ := z_bd h
  refine z_goq C0 hw hS (r0 := w1.map (zsa F G)) (rest := []) (arr := (Value.ref (F 20) :: [.int x1]).toArray) ?_ (fun H locs hw hS => ?_)
  · exact va_runV (z_fix C0) (c_X11_shelfAt l D Y F G S _ x1 w1 ew1) (cwV 1 hts gX11_judge_X11_shelfAt rfl rfl rfl (by decide +kernel) ⟨Nat.le_of_ble_eq_true rfl, Nat.le_of_ble_eq_true rfl⟩) ⟨zPc_blind, z_rv C0 hw (k := 20) rfl rfl rfl rfl, z_give C0 hw hS _⟩ rfl rfl hl.1 rfl (lv_room (Nat.le_of_ble_eq_true rfl)) dX11_judge_2 ⟨Nat.zero_le _, Nat.zero_le _⟩
  rcases w1 with _ | q2
  · replace h := zm_n h
    refine z_topv (y := .null) rfl ?_
    refine lv_astore_nN (lv' := [(3, .null), (0, .ref (F 20)), (1, .int x1), (2, .int x2)]) hx hb dX11_judge_5 rfl hl (by decide) rfl (fun ls hl => ?_)
    refine lv_aload_nN hx hb dX11_judge_6 rfl (lv_at hl 0 rfl) ?_
    refine lv_iload_n hx hb dX11_judge_7 rfl (lv_at hl 3 rfl) ?_
    refine lv_iconst (v := 1) hx hb dX11_judge_8 (by decide) ?_
    obtain ⟨w3, ew3, h⟩ := z_bd h
    refine z_goi C0 hw hS (res := (w3, S)) (rest := []) (arr := ([.null, .int x2, .int 1] : List Value).toArray) ?_ (fun H locs hw hS => ?_)
    · exact va_runS (z_fix C0) (c_X11_refusalOfLife l D Y F G S _ none (fun _ h => nomatch h) x2 1 w3 ew3) (va_cwS 3 hts gX11_judge_X11_refusalOfLife rfl rfl rfl (by decide +kernel) ⟨Nat.le_of_ble_eq_true rfl, Nat.le_of_ble_eq_true rfl⟩) ⟨zPc_blind, z_give C0 hw hS _⟩ rfl rfl hl.1 rfl (lv_room (Nat.le_of_ble_eq_true rfl)) dX11_judge_9 ⟨Nat.zero_le _, Nat.zero_le _⟩
    refine lv_istore (lv' := [(4, .int w3), (3, .null), (0, .ref (F 20)), (1, .int x1), (2, .int x2)]) hx hb dX11_judge_12 hl (by decide) rfl (fun ls hl => ?_)
    refine lv_aload_nN hx hb dX11_judge_14 rfl (lv_at hl 1 rfl) ?_
    refine lv_ifnullN (tgt := 23) hx hb dX11_judge_15 (by decide) ?_
    exact t_X11_judge_B23 C0 res S w3 h _ _ _ hw hS (lv_sub hl [2, 0] rfl)
  · replace h := zm_s h
    obtain ⟨bq2, h⟩ := z_gd h
    have hq2 : q2 < 8 := of_decide_eq_true bq2
    refine z_topv (y := .ref (zad F G (40 + 2 * q2))) rfl ?_
    refine lv_astore_n (lv' := [(3, .ref (zad F G (40 + 2 * q2))), (0, .ref (F 20)), (1, .int x1), (2, .int x2)]) hx hb dX11_judge_5 rfl hl (by decide) rfl (fun ls hl => ?_)
    refine lv_aload_n hx hb dX11_judge_6 rfl (lv_at hl 0 rfl) ?_
    refine lv_iload_n hx hb dX11_judge_7 rfl (lv_at hl 3 rfl) ?_
    refine lv_iconst (v := 1) hx hb dX11_judge_8 (by decide) ?_
    obtain ⟨w5, ew5, h⟩ := z_bd h
    refine z_goi C0 hw hS (res := (w5, S)) (rest := []) (arr := ([.ref (zad F G (40 + 2 * q2)), .int x2, .int 1] : List Value).toArray) ?_ (fun H locs hw hS => ?_)
    · exact va_runS (z_fix C0) (c_X11_refusalOfLife l D Y F G S _ (some q2) (fun _ h => Option.some.inj h ▸ hq2) x2 1 w5 ew5) (va_cwS 3 hts gX11_judge_X11_refusalOfLife rfl rfl rfl (by decide +kernel) ⟨Nat.le_of_ble_eq_true rfl, Nat.le_of_ble_eq_true rfl⟩) ⟨zPc_blind, z_give C0 hw hS _⟩ rfl rfl hl.1 rfl (lv_room (Nat.le_of_ble_eq_true rfl)) dX11_judge_9 ⟨Nat.zero_le _, Nat.zero_le _⟩
    refine lv_istore (lv' := [(4, .int w5), (3, .ref (zad F G (40 + 2 * q2))), (0, .ref (F 20)), (1, .int x1), (2, .int x2)]) hx hb dX11_judge_12 hl (by decide) rfl (fun ls hl => ?_)
    refine lv_aload_n hx hb dX11_judge_14 rfl (lv_at hl 1 rfl) ?_
    refine lv_ifnull hx hb dX11_judge_15 ?_
    refine lv_iload hx hb dX11_judge_18 (lv_at hl 0 rfl) ?_
    refine lv_if_eq (tgt := 32) hx hb dX11_judge_20 (by decide) (fun c6 => ?_) (fun c6 => ?_)
    · replace h := z_ifp c6 h
      refine lv_aload_n hx hb dX11_judge_32 rfl (lv_at hl 2 rfl) ?_
      refine z_getU C0 in_X11_judge_X11 (C := RX11) (T := TX11) (N := 14) hw (k := 20) (ci := 11) (v := .ref (F 60)) rfl rfl rfl rfl 3 (by decide) rfl 1 rfl (Or.inl rfl) dX11_judge_33 ?_
      refine lv_aload_n hx hb dX11_judge_36 rfl (lv_at hl 1 rfl) ?_
      refine lv_iload_n hx hb dX11_judge_37 rfl (lv_at hl 4 rfl) ?_
      obtain ⟨w7, ew7, h⟩ := z_bd h
      refine z_goi C0 hw hS (res := w7) (rest := []) (arr := (Value.ref (F 60) :: [.ref (zad F G (40 + 2 * q2)), .int x2]).toArray) ?_ (fun H locs hw hS => ?_)
      · exact va_runV (z_fix C0) (c_X4_firstWrong l D Y F G S _ 0 q2 (by decide) hq2 x2 w7 ew7) (cwV 2 hts gX11_judge_X4_firstWrong rfl rfl rfl (by decide +kernel) ⟨Nat.le_of_ble_eq_true rfl, Nat.le_of_ble_eq_true rfl⟩) ⟨zPc_blind, z_rv C0 hw (k := 60) rfl rfl rfl rfl, z_give C0 hw hS _⟩ rfl rfl hl.1 rfl (lv_room (Nat.le_of_ble_eq_true rfl)) dX11_judge_38 ⟨Nat.zero_le _, Nat.zero_le _⟩
      exact z_reti C0 hw hS (Option.some.inj h) dX11_judge_41
    · replace h := z_ifn c6 h
      exact t_X11_judge_B23 C0 res S w5 h _ _ _ hw hS (lv_sub hl [2, 0] rfl)
def M_X11_done_B23 (pk : Nat → Nat) (S : zSt) (x4 : Int32) : Option (Int32 × zSt) :=
  Option.bind (M_X11_refuse pk S x4) (fun w4 => some (w4.1, w4.2))
set_option maxHeartbeats 4000000 in
set_option maxRecDepth 100000 in
theorem t_X11_done_B23 {p : Program} {l : Launch} {e : Env} {s : State} {m : MethodId} {args : Array Value} {below : List Frame} {meth : Method} {c : Code} {D : va_G} {Y : Nat → ClassId} {F : Nat → Nat} {A : Nat → Prop} {G : zG} (C0 : zCx p s m args meth c D Y F A RX11 cX11_done 5 (some .int) wsX11_done) (res : Int32 × zSt) : ∀ (S : zSt) (x4 : Int32), M_X11_done_B23 (zpk G) S x4 = some res → ∀ (H : Heap) (locs : List Loc) (ls : Array Slot), zH D Y F A G S H → va_S A s.heap H locs → lv_has ls 5 [(0, .ref (F 20)), (4, .int x4)] → W p l e (zRm 6 141) s m args below meth c H locs 0 0 (MQ below (zQi D Y F A G res) args s 0 0 A) (F0 m 23 ls []) := by
  obtain ⟨hx, hb, hml, hr, hown, hts, hK, hA, hlk, hN⟩ := id C0
  intro S x4 h H locs ls hw hS hl
  unfold M_X11_done_B23 at h
  refine lv_aload_n hx hb dX11_done_23 rfl (lv_at hl 0 rfl) ?_
  refine lv_iload hx hb dX11_done_24 (lv_at hl 1 rfl) ?_
  obtain ⟨w4, ew4, h⟩ := z_bd h
  refine z_goi C0 hw hS (res := w4) (rest := []) (arr := (Value.ref (F 20) :: [.int x4]).toArray) ?_ (fun H locs hw hS => ?_)
  · exact va_runV (z_fix C0) (c_X11_refuse l D Y F G S _ x4 w4 ew4) (cwV 1 hts gX11_done_X11_refuse rfl rfl rfl (by decide +kernel) ⟨Nat.le_of_ble_eq_true rfl, Nat.le_of_ble_eq_true rfl⟩) ⟨zPc_blind, z_rv C0 hw (k := 20) rfl rfl rfl rfl, z_give C0 hw hS _⟩ rfl rfl hl.1 rfl (lv_room (Nat.le_of_ble_eq_true rfl)) dX11_done_26 ⟨Nat.zero_le _, Nat.zero_le _⟩
  exact z_reti C0 hw hS (Option.some.inj h) dX11_done_29
def M_X11_done (pk : Nat → Nat) (S : zSt) (x1 : Int32) (x2 : Int32) : Option (Int32 × zSt) :=
  Option.bind (M_X11_shelfAt pk S x1) (fun w1 => (zm w1 (Option.bind (M_X11_refusalOfLife pk S none x2 1) (fun w3 => M_X11_done_B23 pk S w3)) (fun q2 => zg (decide (q2 < 8)) (Option.bind (M_X11_refusalOfLife pk S (some q2) x2 1) (fun w5 => (if w5 = 0 then Option.bind (M_X4_firstWrong pk S 0 q2 x2) (fun w7 => (if w7.1 = (-1) then Option.bind (M_X4_liveTold pk w7.2 0 q2 x2) (fun w9 => Option.bind (M_X4_deadTotal pk w9 0) (fun w10 => some (w10, w9))) else Option.bind (M_X11_refuse pk w7.2 (-6)) (fun w11 => some (w11.1, w11.2)))) else M_X11_done_B23 pk S w5))))))
set_option maxHeartbeats 4000000 in
set_option maxRecDepth 100000 in
theorem c_X11_done (l : Launch) (D : va_G) (Y : Nat → ClassId) (F : Nat → Nat) (G : zG) (S : zSt) (sz : Nat) (x1 : Int32) (x2 : Int32) (res : Int32 × zSt) (h : M_X11_done (zpk G) S x1 x2 = some res) : Met l yX11_done wsX11_done (zRm 6 141) (zPc D Y F G S sz [.ref (F 20), .int x1, .int x2]) (zQi D Y F (zAo F G sz) G res) 0 0 (zAo F G sz) := by
  unfold M_X11_done at h
  refine zMet (cc := cX11_done) (maxL := 5) (ret := (some .int)) (own := RX11) (by decide +kernel) rfl rfl (Nat.le_of_ble_eq_true rfl) ?_
  intro p e s m args below meth c C0 hin hw hS ls hl
  have hl : lv_has ls 5 [(0, .ref (F 20)), (1, .int x1), (2, .int x2)] := hl
  generalize zAo F G sz = A at C0 hw hS ⊢
  obtain ⟨hx, hb, hml, hr, hown, hts, hK, hA, hlk, hN⟩ := id C0
  refine lv_aload_n hx hb dX11_done_0 rfl (lv_at hl 0 rfl) ?_
  refine lv_iload_n hx hb dX11_done_1 rfl (lv_at hl 1 rfl) ?_
  obtain ⟨w1, ew1, h⟩ := z_bd h
  refine z_goq C0 hw hS (r0 := w1.map (zsa F G)) (rest := []) (arr := (Value.ref (F 20) :: [.int x1]).toArray) ?_ (fun H locs hw hS => ?_)
  · exact va_runV (z_fix C0) (c_X11_shelfAt l D Y F G S _ x1 w1 ew1) (cwV 1 hts gX11_done_X11_shelfAt rfl rfl rfl (by decide +kernel) ⟨Nat.le_of_ble_eq_true rfl, Nat.le_of_ble_eq_true rfl⟩) ⟨zPc_blind, z_rv C0 hw (k := 20) rfl rfl rfl rfl, z_give C0 hw hS _⟩ rfl rfl hl.1 rfl (lv_room (Nat.le_of_ble_eq_true rfl)) dX11_done_2 ⟨Nat.zero_le _, Nat.zero_le _⟩
  rcases w1 with _ | q2
  · replace h := zm_n h
    refine z_topv (y := .null) rfl ?_
    refine lv_astore_nN (lv' := [(3, .null), (0, .ref (F 20)), (1, .int x1), (2, .int x2)]) hx hb dX11_done_5 rfl hl (by decide) rfl (fun ls hl => ?_)
    refine lv_aload_nN hx hb dX11_done_6 rfl (lv_at hl 0 rfl) ?_
    refine lv_iload_n hx hb dX11_done_7 rfl (lv_at hl 3 rfl) ?_
    refine lv_iconst (v := 1) hx hb dX11_done_8 (by decide) ?_
    obtain ⟨w3, ew3, h⟩ := z_bd h
    refine z_goi C0 hw hS (res := (w3, S)) (rest := []) (arr := ([.null, .int x2, .int 1] : List Value).toArray) ?_ (fun H locs hw hS => ?_)
    · exact va_runS (z_fix C0) (c_X11_refusalOfLife l D Y F G S _ none (fun _ h => nomatch h) x2 1 w3 ew3) (va_cwS 3 hts gX11_done_X11_refusalOfLife rfl rfl rfl (by decide +kernel) ⟨Nat.le_of_ble_eq_true rfl, Nat.le_of_ble_eq_true rfl⟩) ⟨zPc_blind, z_give C0 hw hS _⟩ rfl rfl hl.1 rfl (lv_room (Nat.le_of_ble_eq_true rfl)) dX11_done_9 ⟨Nat.zero_le _, Nat.zero_le _⟩
    refine lv_istore (lv' := [(4, .int w3), (3, .null), (0, .ref (F 20)), (1, .int x1), (2, .int x2)]) hx hb dX11_done_12 hl (by decide) rfl (fun ls hl => ?_)
    refine lv_aload_nN hx hb dX11_done_14 rfl (lv_at hl 1 rfl) ?_
    refine lv_ifnullN (tgt := 23) hx hb dX11_done_15 (by decide) ?_
    exact t_X11_done_B23 C0 res S w3 h _ _ _ hw hS (lv_sub hl [2, 0] rfl)
  · replace h := zm_s h
    obtain ⟨bq2, h⟩ := z_gd h
    have hq2 : q2 < 8 := of_decide_eq_true bq2
    refine z_topv (y := .ref (zad F G (40 + 2 * q2))) rfl ?_
    refine lv_astore_n (lv' := [(3, .ref (zad F G (40 + 2 * q2))), (0, .ref (F 20)), (1, .int x1), (2, .int x2)]) hx hb dX11_done_5 rfl hl (by decide) rfl (fun ls hl => ?_)
    refine lv_aload_n hx hb dX11_done_6 rfl (lv_at hl 0 rfl) ?_
    refine lv_iload_n hx hb dX11_done_7 rfl (lv_at hl 3 rfl) ?_
    refine lv_iconst (v := 1) hx hb dX11_done_8 (by decide) ?_
    obtain ⟨w5, ew5, h⟩ := z_bd h
    refine z_goi C0 hw hS (res := (w5, S)) (rest := []) (arr := ([.ref (zad F G (40 + 2 * q2)), .int x2, .int 1] : List Value).toArray) ?_ (fun H locs hw hS => ?_)
    · exact va_runS (z_fix C0) (c_X11_refusalOfLife l D Y F G S _ (some q2) (fun _ h => Option.some.inj h ▸ hq2) x2 1 w5 ew5) (va_cwS 3 hts gX11_done_X11_refusalOfLife rfl rfl rfl (by decide +kernel) ⟨Nat.le_of_ble_eq_true rfl, Nat.le_of_ble_eq_true rfl⟩) ⟨zPc_blind, z_give C0 hw hS _⟩ rfl rfl hl.1 rfl (lv_room (Nat.le_of_ble_eq_true rfl)) dX11_done_9 ⟨Nat.zero_le _, Nat.zero_le _⟩
    refine lv_istore (lv' := [(4, .int w5), (3, .ref (zad F G (40 + 2 * q2))), (0, .ref (F 20)), (1, .int x1), (2, .int x2)]) hx hb dX11_done_12 hl (by decide) rfl (fun ls hl => ?_)
    refine lv_aload_n hx hb dX11_done_14 rfl (lv_at hl 1 rfl) ?_
    refine lv_ifnull hx hb dX11_done_15 ?_
    refine lv_iload hx hb dX11_done_18 (lv_at hl 0 rfl) ?_
    refine lv_if_eq (tgt := 30) hx hb dX11_done_20 (by decide) (fun c6 => ?_) (fun c6 => ?_)
    · replace h := z_ifp c6 h
      refine lv_aload_n hx hb dX11_done_30 rfl (lv_at hl 2 rfl) ?_
      refine z_getU C0 in_X11_done_X11 (C := RX11) (T := TX11) (N := 14) hw (k := 20) (ci := 11) (v := .ref (F 60)) rfl rfl rfl rfl 3 (by decide) rfl 1 rfl (Or.inl rfl) dX11_done_31 ?_
      refine lv_aload_n hx hb dX11_done_34 rfl (lv_at hl 1 rfl) ?_
      refine lv_iload_n hx hb dX11_done_35 rfl (lv_at hl 4 rfl) ?_
      obtain ⟨w7, ew7, h⟩ := z_bd h
      refine z_goi C0 hw hS (res := w7) (rest := []) (arr := (Value.ref (F 60) :: [.ref (zad F G (40 + 2 * q2)), .int x2]).toArray) ?_ (fun H locs hw hS => ?_)
      · exact va_runV (z_fix C0) (c_X4_firstWrong l D Y F G S _ 0 q2 (by decide) hq2 x2 w7 ew7) (cwV 2 hts gX11_done_X4_firstWrong rfl rfl rfl (by decide +kernel) ⟨Nat.le_of_ble_eq_true rfl, Nat.le_of_ble_eq_true rfl⟩) ⟨zPc_blind, z_rv C0 hw (k := 60) rfl rfl rfl rfl, z_give C0 hw hS _⟩ rfl rfl hl.1 rfl (lv_room (Nat.le_of_ble_eq_true rfl)) dX11_done_36 ⟨Nat.zero_le _, Nat.zero_le _⟩
      refine lv_iconst (v := (-1)) hx hb dX11_done_39 (by decide) ?_
      refine lv_icmp_eq (tgt := 50) hx hb dX11_done_40 (by decide) (fun c8 => ?_) (fun c8 => ?_)
      · replace h := z_ifp c8 h
        refine lv_aload_n hx hb dX11_done_50 rfl (lv_at hl 2 rfl) ?_
        refine z_getU C0 in_X11_done_X11 (C := RX11) (T := TX11) (N := 14) hw (k := 20) (ci := 11) (v := .ref (F 60)) rfl rfl rfl rfl 3 (by decide) rfl 1 rfl (Or.inl rfl) dX11_done_51 ?_
        refine lv_aload_n hx hb dX11_done_54 rfl (lv_at hl 1 rfl) ?_
        refine lv_iload_n hx hb dX11_done_55 rfl (lv_at hl 4 rfl) ?_
        obtain ⟨w9, ew9, h⟩ := z_bd h
        refine z_gov C0 hw hS (res := w9) (rest := []) (arr := (Value.ref (F 60) :: [.ref (zad F G (40 + 2 * q2)), .int x2]).toArray) ?_ (fun H locs hw hS => ?_)
        · exact va_runV (z_fix C0) (c_X4_liveTold l D Y F G w7.2 _ 0 q2 (by decide) hq2 x2 w9 ew9) (cwV 2 hts gX11_done_X4_liveTold rfl rfl rfl (by decide +kernel) ⟨Nat.le_of_ble_eq_true rfl, Nat.le_of_ble_eq_true rfl⟩) ⟨zPc_blind, z_rv C0 hw (k := 60) rfl rfl rfl rfl, z_give C0 hw hS _⟩ rfl rfl hl.1 rfl (lv_room (Nat.le_of_ble_eq_true rfl)) dX11_done_56 ⟨Nat.zero_le _, Nat.zero_le _⟩
        refine lv_aload_n hx hb dX11_done_59 rfl (lv_at hl 2 rfl) ?_
        refine z_getU C0 in_X11_done_X11 (C := RX11) (T := TX11) (N := 14) hw (k := 20) (ci := 11) (v := .ref (F 60)) rfl rfl rfl rfl 3 (by decide) rfl 1 rfl (Or.inl rfl) dX11_done_60 ?_
        obtain ⟨w10, ew10, h⟩ := z_bd h
        refine z_goi C0 hw hS (res := (w10, w9)) (rest := []) (arr := (Value.ref (F 60) :: []).toArray) ?_ (fun H locs hw hS => ?_)
        · exact va_runV (z_fix C0) (c_X4_deadTotal l D Y F G w9 _ 0 (by decide) w10 ew10) (cwV 0 hts gX11_done_X4_deadTotal rfl rfl rfl (by decide +kernel) ⟨Nat.le_of_ble_eq_true rfl, Nat.le_of_ble_eq_true rfl⟩) ⟨zPc_blind, z_rv C0 hw (k := 60) rfl rfl rfl rfl, z_give C0 hw hS _⟩ rfl rfl hl.1 rfl (lv_room (Nat.le_of_ble_eq_true rfl)) dX11_done_63 ⟨Nat.zero_le _, Nat.zero_le _⟩
        exact z_reti C0 hw hS (Option.some.inj h) dX11_done_66
      · replace h := z_ifn c8 h
        refine lv_aload_n hx hb dX11_done_43 rfl (lv_at hl 2 rfl) ?_
        refine lv_bipush (v := (-6)) hx hb dX11_done_44 (by decide) ?_
        obtain ⟨w11, ew11, h⟩ := z_bd h
        refine z_goi C0 hw hS (res := w11) (rest := []) (arr := (Value.ref (F 20) :: [.int (-6)]).toArray) ?_ (fun H locs hw hS => ?_)
        · exact va_runV (z_fix C0) (c_X11_refuse l D Y F G w7.2 _ (-6) w11 ew11) (cwV 1 hts gX11_done_X11_refuse rfl rfl rfl (by decide +kernel) ⟨Nat.le_of_ble_eq_true rfl, Nat.le_of_ble_eq_true rfl⟩) ⟨zPc_blind, z_rv C0 hw (k := 20) rfl rfl rfl rfl, z_give C0 hw hS _⟩ rfl rfl hl.1 rfl (lv_room (Nat.le_of_ble_eq_true rfl)) dX11_done_46 ⟨Nat.zero_le _, Nat.zero_le _⟩
        exact z_reti C0 hw hS (Option.some.inj h) dX11_done_49
    · replace h := z_ifn c6 h
      exact t_X11_done_B23 C0 res S w5 h _ _ _ hw hS (lv_sub hl [2, 0] rfl)
def M_X11_press_B47 (pk : Nat → Nat) (S : zSt) : Option (Int32 × zSt) :=
  Option.bind (M_X11_refuse pk S (-6)) (fun w6 => some (w6.1, w6.2))
set_option maxHeartbeats 4000000 in
set_option maxRecDepth 100000 in
theorem t_X11_press_B47 {p : Program} {l : Launch} {e : Env} {s : State} {m : MethodId} {args : Array Value} {below : List Frame} {meth : Method} {c : Code} {D : va_G} {Y : Nat → ClassId} {F : Nat → Nat} {A : Nat → Prop} {G : zG} (C0 : zCx p s m args meth c D Y F A RX11 cX11_press 5 (some .int) wsX11_press) (res : Int32 × zSt) : ∀ (S : zSt), M_X11_press_B47 (zpk G) S = some res → ∀ (H : Heap) (locs : List Loc) (ls : Array Slot), zH D Y F A G S H → va_S A s.heap H locs → lv_has ls 5 [(0, .ref (F 20))] → W p l e (zRm 5 115) s m args below meth c H locs 0 0 (MQ below (zQi D Y F A G res) args s 0 0 A) (F0 m 47 ls []) := by
  obtain ⟨hx, hb, hml, hr, hown, hts, hK, hA, hlk, hN⟩ := id C0
  intro S h H locs ls hw hS hl
  unfold M_X11_press_B47 at h
  refine lv_aload_n hx hb dX11_press_47 rfl (lv_at hl 0 rfl) ?_
  refine lv_bipush (v := (-6)) hx hb dX11_press_48 (by decide) ?_
  obtain ⟨w6, ew6, h⟩ := z_bd h
  refine z_goi C0 hw hS (res := w6) (rest := []) (arr := (Value.ref (F 20) :: [.int (-6)]).toArray) ?_ (fun H locs hw hS => ?_)
  · exact va_runV (z_fix C0) (c_X11_refuse l D Y F G S _ (-6) w6 ew6) (cwV 1 hts gX11_press_X11_refuse rfl rfl rfl (by decide +kernel) ⟨Nat.le_of_ble_eq_true rfl, Nat.le_of_ble_eq_true rfl⟩) ⟨zPc_blind, z_rv C0 hw (k := 20) rfl rfl rfl rfl, z_give C0 hw hS _⟩ rfl rfl hl.1 rfl (lv_room (Nat.le_of_ble_eq_true rfl)) dX11_press_50 ⟨Nat.zero_le _, Nat.zero_le _⟩
  exact z_reti C0 hw hS (Option.some.inj h) dX11_press_53
def M_X11_press (pk : Nat → Nat) (S : zSt) (x1 : Int32) (x2 : Int32) (x3 : Int32) : Option (Int32 × zSt) :=
  Option.bind (M_X4_personAt pk S 0 x1) (fun w1 => (zm w1 (Option.bind (M_X11_refuse pk S (-1)) (fun w3 => some (w3.1, w3.2))) (fun q2 => zg (zOKb pk q2) (Option.bind (M_X11_isDeed pk S x2) (fun w4 => (if w4 = 0 then M_X11_press_B47 pk S else (if x3 < 1 then M_X11_press_B47 pk S else (if 99 < x3 then M_X11_press_B47 pk S else Option.bind (M_X5_isGone pk S q2) (fun w9 => (if w9 = 0 then Option.bind (M_X5_pressWith pk S q2 x2 x3) (fun w11 => some (w11.1, w11.2)) else M_X11_press_B47 pk S))))))))))
set_option maxHeartbeats 4000000 in
set_option maxRecDepth 100000 in
theorem c_X11_press (l : Launch) (D : va_G) (Y : Nat → ClassId) (F : Nat → Nat) (G : zG) (S : zSt) (sz : Nat) (x1 : Int32) (x2 : Int32) (x3 : Int32) (res : Int32 × zSt) (h : M_X11_press (zpk G) S x1 x2 x3 = some res) : Met l yX11_press wsX11_press (zRm 5 115) (zPc D Y F G S sz [.ref (F 20), .int x1, .int x2, .int x3]) (zQi D Y F (zAo F G sz) G res) 0 0 (zAo F G sz) := by
  unfold M_X11_press at h
  refine zMet (cc := cX11_press) (maxL := 5) (ret := (some .int)) (own := RX11) (by decide +kernel) rfl rfl (Nat.le_of_ble_eq_true rfl) ?_
  intro p e s m args below meth c C0 hin hw hS ls hl
  have hl : lv_has ls 5 [(0, .ref (F 20)), (1, .int x1), (2, .int x2), (3, .int x3)] := hl
  generalize zAo F G sz = A at C0 hw hS ⊢
  obtain ⟨hx, hb, hml, hr, hown, hts, hK, hA, hlk, hN⟩ := id C0
  refine lv_aload_n hx hb dX11_press_0 rfl (lv_at hl 0 rfl) ?_
  refine z_getU C0 in_X11_press_X11 (C := RX11) (T := TX11) (N := 14) hw (k := 20) (ci := 11) (v := .ref (F 60)) rfl rfl rfl rfl 3 (by decide) rfl 1 rfl (Or.inl rfl) dX11_press_1 ?_
  refine lv_iload_n hx hb dX11_press_4 rfl (lv_at hl 1 rfl) ?_
  obtain ⟨w1, ew1, h⟩ := z_bd h
  refine z_goq C0 hw hS (r0 := w1.map (zpa F G)) (rest := []) (arr := (Value.ref (F 60) :: [.int x1]).toArray) ?_ (fun H locs hw hS => ?_)
  · exact va_runV (z_fix C0) (c_X4_personAt l D Y F G S _ 0 (by decide) x1 w1 ew1) (cwV 1 hts gX11_press_X4_personAt rfl rfl rfl (by decide +kernel) ⟨Nat.le_of_ble_eq_true rfl, Nat.le_of_ble_eq_true rfl⟩) ⟨zPc_blind, z_rv C0 hw (k := 60) rfl rfl rfl rfl, z_give C0 hw hS _⟩ rfl rfl hl.1 rfl (lv_room (Nat.le_of_ble_eq_true rfl)) dX11_press_5 ⟨Nat.zero_le _, Nat.zero_le _⟩
  rcases w1 with _ | q2
  · replace h := zm_n h
    refine z_topv (y := .null) rfl ?_
    refine lv_astoreN (lv' := [(4, .null), (0, .ref (F 20)), (1, .int x1), (2, .int x2), (3, .int x3)]) hx hb dX11_press_8 hl (by decide) rfl (fun ls hl => ?_)
    refine lv_aloadN hx hb dX11_press_10 (lv_at hl 0 rfl) ?_
    refine lv_ifnonnullN hx hb dX11_press_12 ?_
    refine lv_aload_n hx hb dX11_press_15 rfl (lv_at hl 1 rfl) ?_
    refine lv_iconst (v := (-1)) hx hb dX11_press_16 (by decide) ?_
    obtain ⟨w3, ew3, h⟩ := z_bd h
    refine z_goi C0 hw hS (res := w3) (rest := []) (arr := (Value.ref (F 20) :: [.int (-1)]).toArray) ?_ (fun H locs hw hS => ?_)
    · exact va_runV (z_fix C0) (c_X11_refuse l D Y F G S _ (-1) w3 ew3) (cwV 1 hts gX11_press_X11_refuse rfl rfl rfl (by decide +kernel) ⟨Nat.le_of_ble_eq_true rfl, Nat.le_of_ble_eq_true rfl⟩) ⟨zPc_blind, z_rv C0 hw (k := 20) rfl rfl rfl rfl, z_give C0 hw hS _⟩ rfl rfl hl.1 rfl (lv_room (Nat.le_of_ble_eq_true rfl)) dX11_press_17 ⟨Nat.zero_le _, Nat.zero_le _⟩
    exact z_reti C0 hw hS (Option.some.inj h) dX11_press_20
  · replace h := zm_s h
    obtain ⟨bq2, h⟩ := z_gd h
    have hq2 := bq2
    refine z_topv (y := .ref (zad F G (100 + 4 * q2))) rfl ?_
    refine lv_astore (lv' := [(4, .ref (zad F G (100 + 4 * q2))), (0, .ref (F 20)), (1, .int x1), (2, .int x2), (3, .int x3)]) hx hb dX11_press_8 hl (by decide) rfl (fun ls hl => ?_)
    refine lv_aload hx hb dX11_press_10 (lv_at hl 0 rfl) ?_
    refine lv_ifnonnull (tgt := 21) hx hb dX11_press_12 (by decide) ?_
    refine lv_iload_n hx hb dX11_press_21 rfl (lv_at hl 3 rfl) ?_
    obtain ⟨w4, ew4, h⟩ := z_bd h
    refine z_goi C0 hw hS (res := (w4, S)) (rest := []) (arr := ([.int x2] : List Value).toArray) ?_ (fun H locs hw hS => ?_)
    · exact va_runS (z_fix C0) (c_X11_isDeed l D Y F G S _ x2 w4 ew4) (va_cwS 1 hts gX11_press_X11_isDeed rfl rfl rfl (by decide +kernel) ⟨Nat.le_of_ble_eq_true rfl, Nat.le_of_ble_eq_true rfl⟩) ⟨zPc_blind, z_give C0 hw hS _⟩ rfl rfl hl.1 rfl (lv_room (Nat.le_of_ble_eq_true rfl)) dX11_press_22 ⟨Nat.zero_le _, Nat.zero_le _⟩
    refine lv_if_eq (tgt := 47) hx hb dX11_press_25 (by decide) (fun c5 => ?_) (fun c5 => ?_)
    · replace h := z_ifp c5 h
      exact t_X11_press_B47 C0 res S h _ _ _ hw hS (lv_sub hl [1] rfl)
    · replace h := z_ifn c5 h
      refine lv_iload_n hx hb dX11_press_28 rfl (lv_at hl 4 rfl) ?_
      refine lv_iconst (v := 1) hx hb dX11_press_29 (by decide) ?_
      refine lv_icmp_lt (tgt := 47) hx hb dX11_press_30 (by decide) (fun c7 => ?_) (fun c7 => ?_)
      · replace h := z_ifp c7 h
        exact t_X11_press_B47 C0 res S h _ _ _ hw hS (lv_sub hl [1] rfl)
      · replace h := z_ifn c7 h
        refine lv_iload_n hx hb dX11_press_33 rfl (lv_at hl 4 rfl) ?_
        refine lv_bipush (v := 99) hx hb dX11_press_34 (by decide) ?_
        refine lv_icmp_gt (tgt := 47) hx hb dX11_press_36 (by decide) (fun c8 => ?_) (fun c8 => ?_)
        · replace h := z_ifp c8 h
          exact t_X11_press_B47 C0 res S h _ _ _ hw hS (lv_sub hl [1] rfl)
        · replace h := z_ifn c8 h
          refine lv_aload hx hb dX11_press_39 (lv_at hl 0 rfl) ?_
          obtain ⟨w9, ew9, h⟩ := z_bd h
          refine z_goi C0 hw hS (res := (w9, S)) (rest := []) (arr := (Value.ref (zad F G (100 + 4 * q2)) :: []).toArray) ?_ (fun H locs hw hS => ?_)
          · rcases zOK_cases hq2 with zz | zz | zz | zz | zz | zz | zz
            · exact va_runU (z_fix C0) (c_X5_isGone l D Y F G S _ q2 hq2 w9 ew9) (va_cwU 0 hts gX11_press_X5_isGone_u237X0 rfl rfl rfl rfl (by decide +kernel) ⟨Nat.le_of_ble_eq_true rfl, Nat.le_of_ble_eq_true rfl⟩) ⟨zPc_blind, z_prec C0 hw hq2 (ci := 0) zz rfl, z_give C0 hw hS _⟩ rfl rfl hl.1 rfl (lv_room (Nat.le_of_ble_eq_true rfl)) dX11_press_41 ⟨Nat.zero_le _, Nat.zero_le _⟩
            · exact va_runU (z_fix C0) (c_X5_isGone l D Y F G S _ q2 hq2 w9 ew9) (va_cwU 0 hts gX11_press_X5_isGone_u237X1 rfl rfl rfl rfl (by decide +kernel) ⟨Nat.le_of_ble_eq_true rfl, Nat.le_of_ble_eq_true rfl⟩) ⟨zPc_blind, z_prec C0 hw hq2 (ci := 1) zz rfl, z_give C0 hw hS _⟩ rfl rfl hl.1 rfl (lv_room (Nat.le_of_ble_eq_true rfl)) dX11_press_41 ⟨Nat.zero_le _, Nat.zero_le _⟩
            · exact va_runU (z_fix C0) (c_X5_isGone l D Y F G S _ q2 hq2 w9 ew9) (va_cwU 0 hts gX11_press_X5_isGone_u237X2 rfl rfl rfl rfl (by decide +kernel) ⟨Nat.le_of_ble_eq_true rfl, Nat.le_of_ble_eq_true rfl⟩) ⟨zPc_blind, z_prec C0 hw hq2 (ci := 2) zz rfl, z_give C0 hw hS _⟩ rfl rfl hl.1 rfl (lv_room (Nat.le_of_ble_eq_true rfl)) dX11_press_41 ⟨Nat.zero_le _, Nat.zero_le _⟩
            · exact va_runU (z_fix C0) (c_X5_isGone l D Y F G S _ q2 hq2 w9 ew9) (va_cwU 0 hts gX11_press_X5_isGone_u237X3 rfl rfl rfl rfl (by decide +kernel) ⟨Nat.le_of_ble_eq_true rfl, Nat.le_of_ble_eq_true rfl⟩) ⟨zPc_blind, z_prec C0 hw hq2 (ci := 3) zz rfl, z_give C0 hw hS _⟩ rfl rfl hl.1 rfl (lv_room (Nat.le_of_ble_eq_true rfl)) dX11_press_41 ⟨Nat.zero_le _, Nat.zero_le _⟩
            · exact va_runV (z_fix C0) (c_X5_isGone l D Y F G S _ q2 hq2 w9 ew9) (cwV 0 hts gX11_press_X5_isGone rfl rfl rfl (by decide +kernel) ⟨Nat.le_of_ble_eq_true rfl, Nat.le_of_ble_eq_true rfl⟩) ⟨zPc_blind, z_prec C0 hw hq2 (ci := 5) zz rfl, z_give C0 hw hS _⟩ rfl rfl hl.1 rfl (lv_room (Nat.le_of_ble_eq_true rfl)) dX11_press_41 ⟨Nat.zero_le _, Nat.zero_le _⟩
            · exact va_runU (z_fix C0) (c_X5_isGone l D Y F G S _ q2 hq2 w9 ew9) (va_cwU 0 hts gX11_press_X5_isGone_u237X8 rfl rfl rfl rfl (by decide +kernel) ⟨Nat.le_of_ble_eq_true rfl, Nat.le_of_ble_eq_true rfl⟩) ⟨zPc_blind, z_prec C0 hw hq2 (ci := 8) zz rfl, z_give C0 hw hS _⟩ rfl rfl hl.1 rfl (lv_room (Nat.le_of_ble_eq_true rfl)) dX11_press_41 ⟨Nat.zero_le _, Nat.zero_le _⟩
            · exact va_runU (z_fix C0) (c_X5_isGone l D Y F G S _ q2 hq2 w9 ew9) (va_cwU 0 hts gX11_press_X5_isGone_u237X10 rfl rfl rfl rfl (by decide +kernel) ⟨Nat.le_of_ble_eq_true rfl, Nat.le_of_ble_eq_true rfl⟩) ⟨zPc_blind, z_prec C0 hw hq2 (ci := 10) zz rfl, z_give C0 hw hS _⟩ rfl rfl hl.1 rfl (lv_room (Nat.le_of_ble_eq_true rfl)) dX11_press_41 ⟨Nat.zero_le _, Nat.zero_le _⟩
          refine lv_if_eq (tgt := 54) hx hb dX11_press_44 (by decide) (fun c10 => ?_) (fun c10 => ?_)
          · replace h := z_ifp c10 h
            refine lv_aload hx hb dX11_press_54 (lv_at hl 0 rfl) ?_
            refine lv_iload_n hx hb dX11_press_56 rfl (lv_at hl 3 rfl) ?_
            refine lv_iload_n hx hb dX11_press_57 rfl (lv_at hl 4 rfl) ?_
            obtain ⟨w11, ew11, h⟩ := z_bd h
            refine z_goi C0 hw hS (res := w11) (rest := []) (arr := (Value.ref (zad F G (100 + 4 * q2)) :: [.int x2, .int x3]).toArray) ?_ (fun H locs hw hS => ?_)
            · rcases zOK_cases hq2 with zz | zz | zz | zz | zz | zz | zz
              · exact va_runU (z_fix C0) (c_X5_pressWith l D Y F G S _ q2 hq2 x2 x3 w11 ew11) (va_cwU 2 hts gX11_press_X5_pressWith_u290X0 rfl rfl rfl rfl (by decide +kernel) ⟨Nat.le_of_ble_eq_true rfl, Nat.le_of_ble_eq_true rfl⟩) ⟨zPc_blind, z_prec C0 hw hq2 (ci := 0) zz rfl, z_give C0 hw hS _⟩ rfl rfl hl.1 rfl (lv_room (Nat.le_of_ble_eq_true rfl)) dX11_press_58 ⟨Nat.zero_le _, Nat.zero_le _⟩
              · exact va_runU (z_fix C0) (c_X5_pressWith l D Y F G S _ q2 hq2 x2 x3 w11 ew11) (va_cwU 2 hts gX11_press_X5_pressWith_u290X1 rfl rfl rfl rfl (by decide +kernel) ⟨Nat.le_of_ble_eq_true rfl, Nat.le_of_ble_eq_true rfl⟩) ⟨zPc_blind, z_prec C0 hw hq2 (ci := 1) zz rfl, z_give C0 hw hS _⟩ rfl rfl hl.1 rfl (lv_room (Nat.le_of_ble_eq_true rfl)) dX11_press_58 ⟨Nat.zero_le _, Nat.zero_le _⟩
              · exact va_runU (z_fix C0) (c_X5_pressWith l D Y F G S _ q2 hq2 x2 x3 w11 ew11) (va_cwU 2 hts gX11_press_X5_pressWith_u290X2 rfl rfl rfl rfl (by decide +kernel) ⟨Nat.le_of_ble_eq_true rfl, Nat.le_of_ble_eq_true rfl⟩) ⟨zPc_blind, z_prec C0 hw hq2 (ci := 2) zz rfl, z_give C0 hw hS _⟩ rfl rfl hl.1 rfl (lv_room (Nat.le_of_ble_eq_true rfl)) dX11_press_58 ⟨Nat.zero_le _, Nat.zero_le _⟩
              · exact va_runU (z_fix C0) (c_X5_pressWith l D Y F G S _ q2 hq2 x2 x3 w11 ew11) (va_cwU 2 hts gX11_press_X5_pressWith_u290X3 rfl rfl rfl rfl (by decide +kernel) ⟨Nat.le_of_ble_eq_true rfl, Nat.le_of_ble_eq_true rfl⟩) ⟨zPc_blind, z_prec C0 hw hq2 (ci := 3) zz rfl, z_give C0 hw hS _⟩ rfl rfl hl.1 rfl (lv_room (Nat.le_of_ble_eq_true rfl)) dX11_press_58 ⟨Nat.zero_le _, Nat.zero_le _⟩
              · exact va_runV (z_fix C0) (c_X5_pressWith l D Y F G S _ q2 hq2 x2 x3 w11 ew11) (cwV 2 hts gX11_press_X5_pressWith rfl rfl rfl (by decide +kernel) ⟨Nat.le_of_ble_eq_true rfl, Nat.le_of_ble_eq_true rfl⟩) ⟨zPc_blind, z_prec C0 hw hq2 (ci := 5) zz rfl, z_give C0 hw hS _⟩ rfl rfl hl.1 rfl (lv_room (Nat.le_of_ble_eq_true rfl)) dX11_press_58 ⟨Nat.zero_le _, Nat.zero_le _⟩
              · exact va_runU (z_fix C0) (c_X5_pressWith l D Y F G S _ q2 hq2 x2 x3 w11 ew11) (va_cwU 2 hts gX11_press_X5_pressWith_u290X8 rfl rfl rfl rfl (by decide +kernel) ⟨Nat.le_of_ble_eq_true rfl, Nat.le_of_ble_eq_true rfl⟩) ⟨zPc_blind, z_prec C0 hw hq2 (ci := 8) zz rfl, z_give C0 hw hS _⟩ rfl rfl hl.1 rfl (lv_room (Nat.le_of_ble_eq_true rfl)) dX11_press_58 ⟨Nat.zero_le _, Nat.zero_le _⟩
              · exact va_runU (z_fix C0) (c_X5_pressWith l D Y F G S _ q2 hq2 x2 x3 w11 ew11) (va_cwU 2 hts gX11_press_X5_pressWith_u290X10 rfl rfl rfl rfl (by decide +kernel) ⟨Nat.le_of_ble_eq_true rfl, Nat.le_of_ble_eq_true rfl⟩) ⟨zPc_blind, z_prec C0 hw hq2 (ci := 10) zz rfl, z_give C0 hw hS _⟩ rfl rfl hl.1 rfl (lv_room (Nat.le_of_ble_eq_true rfl)) dX11_press_58 ⟨Nat.zero_le _, Nat.zero_le _⟩
            exact z_reti C0 hw hS (Option.some.inj h) dX11_press_61
          · replace h := z_ifn c10 h
            exact t_X11_press_B47 C0 res S h _ _ _ hw hS (lv_sub hl [1] rfl)
def M_X11_rub_B37 (pk : Nat → Nat) (S : zSt) : Option (Int32 × zSt) :=
  Option.bind (M_X11_refuse pk S (-6)) (fun w6 => some (w6.1, w6.2))
set_option maxHeartbeats 4000000 in
set_option maxRecDepth 100000 in
theorem t_X11_rub_B37 {p : Program} {l : Launch} {e : Env} {s : State} {m : MethodId} {args : Array Value} {below : List Frame} {meth : Method} {c : Code} {D : va_G} {Y : Nat → ClassId} {F : Nat → Nat} {A : Nat → Prop} {G : zG} (C0 : zCx p s m args meth c D Y F A RX11 cX11_rub 5 (some .int) wsX11_rub) (res : Int32 × zSt) : ∀ (S : zSt), M_X11_rub_B37 (zpk G) S = some res → ∀ (H : Heap) (locs : List Loc) (ls : Array Slot), zH D Y F A G S H → va_S A s.heap H locs → lv_has ls 5 [(0, .ref (F 20))] → W p l e (zRm 2 47) s m args below meth c H locs 0 0 (MQ below (zQi D Y F A G res) args s 0 0 A) (F0 m 37 ls []) := by
  obtain ⟨hx, hb, hml, hr, hown, hts, hK, hA, hlk, hN⟩ := id C0
  intro S h H locs ls hw hS hl
  unfold M_X11_rub_B37 at h
  refine lv_aload_n hx hb dX11_rub_37 rfl (lv_at hl 0 rfl) ?_
  refine lv_bipush (v := (-6)) hx hb dX11_rub_38 (by decide) ?_
  obtain ⟨w6, ew6, h⟩ := z_bd h
  refine z_goi C0 hw hS (res := w6) (rest := []) (arr := (Value.ref (F 20) :: [.int (-6)]).toArray) ?_ (fun H locs hw hS => ?_)
  · exact va_runV (z_fix C0) (c_X11_refuse l D Y F G S _ (-6) w6 ew6) (cwV 1 hts gX11_rub_X11_refuse rfl rfl rfl (by decide +kernel) ⟨Nat.le_of_ble_eq_true rfl, Nat.le_of_ble_eq_true rfl⟩) ⟨zPc_blind, z_rv C0 hw (k := 20) rfl rfl rfl rfl, z_give C0 hw hS _⟩ rfl rfl hl.1 rfl (lv_room (Nat.le_of_ble_eq_true rfl)) dX11_rub_40 ⟨Nat.zero_le _, Nat.zero_le _⟩
  exact z_reti C0 hw hS (Option.some.inj h) dX11_rub_43
def M_X11_rub (pk : Nat → Nat) (S : zSt) (x1 : Int32) (x2 : Int32) (x3 : Int32) : Option (Int32 × zSt) :=
  Option.bind (M_X4_personAt pk S 0 x1) (fun w1 => (zm w1 (Option.bind (M_X11_refuse pk S (-1)) (fun w3 => some (w3.1, w3.2))) (fun q2 => zg (zOKb pk q2) (Option.bind (M_X5_isLeft pk S q2 x2) (fun w4 => (if w4 = 0 then M_X11_rub_B37 pk S else Option.bind (M_X11_isDeed pk S x3) (fun w7 => (if w7 = 0 then M_X11_rub_B37 pk S else Option.bind (M_X5_rubOn pk S q2 x2 x3) (fun w9 => some (w9.1, w9.2))))))))))
set_option maxHeartbeats 4000000 in
set_option maxRecDepth 100000 in
theorem c_X11_rub (l : Launch) (D : va_G) (Y : Nat → ClassId) (F : Nat → Nat) (G : zG) (S : zSt) (sz : Nat) (x1 : Int32) (x2 : Int32) (x3 : Int32) (res : Int32 × zSt) (h : M_X11_rub (zpk G) S x1 x2 x3 = some res) : Met l yX11_rub wsX11_rub (zRm 2 47) (zPc D Y F G S sz [.ref (F 20), .int x1, .int x2, .int x3]) (zQi D Y F (zAo F G sz) G res) 0 0 (zAo F G sz) := by
  unfold M_X11_rub at h
  refine zMet (cc := cX11_rub) (maxL := 5) (ret := (some .int)) (own := RX11) (by decide +kernel) rfl rfl (Nat.le_of_ble_eq_true rfl) ?_
  intro p e s m args below meth c C0 hin hw hS ls hl
  have hl : lv_has ls 5 [(0, .ref (F 20)), (1, .int x1), (2, .int x2), (3, .int x3)] := hl
  generalize zAo F G sz = A at C0 hw hS ⊢
  obtain ⟨hx, hb, hml, hr, hown, hts, hK, hA, hlk, hN⟩ := id C0
  refine lv_aload_n hx hb dX11_rub_0 rfl (lv_at hl 0 rfl) ?_
  refine z_getU C0 in_X11_rub_X11 (C := RX11) (T := TX11) (N := 14) hw (k := 20) (ci := 11) (v := .ref (F 60)) rfl rfl rfl rfl 3 (by decide) rfl 1 rfl (Or.inl rfl) dX11_rub_1 ?_
  refine lv_iload_n hx hb dX11_rub_4 rfl (lv_at hl 1 rfl) ?_
  obtain ⟨w1, ew1, h⟩ := z_bd h
  refine z_goq C0 hw hS (r0 := w1.map (zpa F G)) (rest := []) (arr := (Value.ref (F 60) :: [.int x1]).toArray) ?_ (fun H locs hw hS => ?_)
  · exact va_runV (z_fix C0) (c_X4_personAt l D Y F G S _ 0 (by decide) x1 w1 ew1) (cwV 1 hts gX11_rub_X4_personAt rfl rfl rfl (by decide +kernel) ⟨Nat.le_of_ble_eq_true rfl, Nat.le_of_ble_eq_true rfl⟩) ⟨zPc_blind, z_rv C0 hw (k := 60) rfl rfl rfl rfl, z_give C0 hw hS _⟩ rfl rfl hl.1 rfl (lv_room (Nat.le_of_ble_eq_true rfl)) dX11_rub_5 ⟨Nat.zero_le _, Nat.zero_le _⟩
  rcases w1 with _ | q2
  · replace h := zm_n h
    refine z_topv (y := .null) rfl ?_
    refine lv_astoreN (lv' := [(4, .null), (0, .ref (F 20)), (1, .int x1), (2, .int x2), (3, .int x3)]) hx hb dX11_rub_8 hl (by decide) rfl (fun ls hl => ?_)
    refine lv_aloadN hx hb dX11_rub_10 (lv_at hl 0 rfl) ?_
    refine lv_ifnonnullN hx hb dX11_rub_12 ?_
    refine lv_aload_n hx hb dX11_rub_15 rfl (lv_at hl 1 rfl) ?_
    refine lv_iconst (v := (-1)) hx hb dX11_rub_16 (by decide) ?_
    obtain ⟨w3, ew3, h⟩ := z_bd h
    refine z_goi C0 hw hS (res := w3) (rest := []) (arr := (Value.ref (F 20) :: [.int (-1)]).toArray) ?_ (fun H locs hw hS => ?_)
    · exact va_runV (z_fix C0) (c_X11_refuse l D Y F G S _ (-1) w3 ew3) (cwV 1 hts gX11_rub_X11_refuse rfl rfl rfl (by decide +kernel) ⟨Nat.le_of_ble_eq_true rfl, Nat.le_of_ble_eq_true rfl⟩) ⟨zPc_blind, z_rv C0 hw (k := 20) rfl rfl rfl rfl, z_give C0 hw hS _⟩ rfl rfl hl.1 rfl (lv_room (Nat.le_of_ble_eq_true rfl)) dX11_rub_17 ⟨Nat.zero_le _, Nat.zero_le _⟩
    exact z_reti C0 hw hS (Option.some.inj h) dX11_rub_20
  · replace h := zm_s h
    obtain ⟨bq2, h⟩ := z_gd h
    have hq2 := bq2
    refine z_topv (y := .ref (zad F G (100 + 4 * q2))) rfl ?_
    refine lv_astore (lv' := [(4, .ref (zad F G (100 + 4 * q2))), (0, .ref (F 20)), (1, .int x1), (2, .int x2), (3, .int x3)]) hx hb dX11_rub_8 hl (by decide) rfl (fun ls hl => ?_)
    refine lv_aload hx hb dX11_rub_10 (lv_at hl 0 rfl) ?_
    refine lv_ifnonnull (tgt := 21) hx hb dX11_rub_12 (by decide) ?_
    refine lv_aload hx hb dX11_rub_21 (lv_at hl 0 rfl) ?_
    refine lv_iload_n hx hb dX11_rub_23 rfl (lv_at hl 3 rfl) ?_
    obtain ⟨w4, ew4, h⟩ := z_bd h
    refine z_goi C0 hw hS (res := (w4, S)) (rest := []) (arr := (Value.ref (zad F G (100 + 4 * q2)) :: [.int x2]).toArray) ?_ (fun H locs hw hS => ?_)
    · rcases zOK_cases hq2 with zz | zz | zz | zz | zz | zz | zz
      · exact va_runU (z_fix C0) (c_X5_isLeft l D Y F G S _ q2 hq2 x2 w4 ew4) (va_cwU 1 hts gX11_rub_X5_isLeft_u181X0 rfl rfl rfl rfl (by decide +kernel) ⟨Nat.le_of_ble_eq_true rfl, Nat.le_of_ble_eq_true rfl⟩) ⟨zPc_blind, z_prec C0 hw hq2 (ci := 0) zz rfl, z_give C0 hw hS _⟩ rfl rfl hl.1 rfl (lv_room (Nat.le_of_ble_eq_true rfl)) dX11_rub_24 ⟨Nat.zero_le _, Nat.zero_le _⟩
      · exact va_runU (z_fix C0) (c_X5_isLeft l D Y F G S _ q2 hq2 x2 w4 ew4) (va_cwU 1 hts gX11_rub_X5_isLeft_u181X1 rfl rfl rfl rfl (by decide +kernel) ⟨Nat.le_of_ble_eq_true rfl, Nat.le_of_ble_eq_true rfl⟩) ⟨zPc_blind, z_prec C0 hw hq2 (ci := 1) zz rfl, z_give C0 hw hS _⟩ rfl rfl hl.1 rfl (lv_room (Nat.le_of_ble_eq_true rfl)) dX11_rub_24 ⟨Nat.zero_le _, Nat.zero_le _⟩
      · exact va_runU (z_fix C0) (c_X5_isLeft l D Y F G S _ q2 hq2 x2 w4 ew4) (va_cwU 1 hts gX11_rub_X5_isLeft_u181X2 rfl rfl rfl rfl (by decide +kernel) ⟨Nat.le_of_ble_eq_true rfl, Nat.le_of_ble_eq_true rfl⟩) ⟨zPc_blind, z_prec C0 hw hq2 (ci := 2) zz rfl, z_give C0 hw hS _⟩ rfl rfl hl.1 rfl (lv_room (Nat.le_of_ble_eq_true rfl)) dX11_rub_24 ⟨Nat.zero_le _, Nat.zero_le _⟩
      · exact va_runU (z_fix C0) (c_X5_isLeft l D Y F G S _ q2 hq2 x2 w4 ew4) (va_cwU 1 hts gX11_rub_X5_isLeft_u181X3 rfl rfl rfl rfl (by decide +kernel) ⟨Nat.le_of_ble_eq_true rfl, Nat.le_of_ble_eq_true rfl⟩) ⟨zPc_blind, z_prec C0 hw hq2 (ci := 3) zz rfl, z_give C0 hw hS _⟩ rfl rfl hl.1 rfl (lv_room (Nat.le_of_ble_eq_true rfl)) dX11_rub_24 ⟨Nat.zero_le _, Nat.zero_le _⟩
      · exact va_runV (z_fix C0) (c_X5_isLeft l D Y F G S _ q2 hq2 x2 w4 ew4) (cwV 1 hts gX11_rub_X5_isLeft rfl rfl rfl (by decide +kernel) ⟨Nat.le_of_ble_eq_true rfl, Nat.le_of_ble_eq_true rfl⟩) ⟨zPc_blind, z_prec C0 hw hq2 (ci := 5) zz rfl, z_give C0 hw hS _⟩ rfl rfl hl.1 rfl (lv_room (Nat.le_of_ble_eq_true rfl)) dX11_rub_24 ⟨Nat.zero_le _, Nat.zero_le _⟩
      · exact va_runU (z_fix C0) (c_X5_isLeft l D Y F G S _ q2 hq2 x2 w4 ew4) (va_cwU 1 hts gX11_rub_X5_isLeft_u181X8 rfl rfl rfl rfl (by decide +kernel) ⟨Nat.le_of_ble_eq_true rfl, Nat.le_of_ble_eq_true rfl⟩) ⟨zPc_blind, z_prec C0 hw hq2 (ci := 8) zz rfl, z_give C0 hw hS _⟩ rfl rfl hl.1 rfl (lv_room (Nat.le_of_ble_eq_true rfl)) dX11_rub_24 ⟨Nat.zero_le _, Nat.zero_le _⟩
      · exact va_runU (z_fix C0) (c_X5_isLeft l D Y F G S _ q2 hq2 x2 w4 ew4) (va_cwU 1 hts gX11_rub_X5_isLeft_u181X10 rfl rfl rfl rfl (by decide +kernel) ⟨Nat.le_of_ble_eq_true rfl, Nat.le_of_ble_eq_true rfl⟩) ⟨zPc_blind, z_prec C0 hw hq2 (ci := 10) zz rfl, z_give C0 hw hS _⟩ rfl rfl hl.1 rfl (lv_room (Nat.le_of_ble_eq_true rfl)) dX11_rub_24 ⟨Nat.zero_le _, Nat.zero_le _⟩
    refine lv_if_eq (tgt := 37) hx hb dX11_rub_27 (by decide) (fun c5 => ?_) (fun c5 => ?_)
    · replace h := z_ifp c5 h
      exact t_X11_rub_B37 C0 res S h _ _ _ hw hS (lv_sub hl [1] rfl)
    · replace h := z_ifn c5 h
      refine lv_iload_n hx hb dX11_rub_30 rfl (lv_at hl 4 rfl) ?_
      obtain ⟨w7, ew7, h⟩ := z_bd h
      refine z_goi C0 hw hS (res := (w7, S)) (rest := []) (arr := ([.int x3] : List Value).toArray) ?_ (fun H locs hw hS => ?_)
      · exact va_runS (z_fix C0) (c_X11_isDeed l D Y F G S _ x3 w7 ew7) (va_cwS 1 hts gX11_rub_X11_isDeed rfl rfl rfl (by decide +kernel) ⟨Nat.le_of_ble_eq_true rfl, Nat.le_of_ble_eq_true rfl⟩) ⟨zPc_blind, z_give C0 hw hS _⟩ rfl rfl hl.1 rfl (lv_room (Nat.le_of_ble_eq_true rfl)) dX11_rub_31 ⟨Nat.zero_le _, Nat.zero_le _⟩
      refine lv_if_ne (tgt := 44) hx hb dX11_rub_34 (by decide) (fun c8 => ?_) (fun c8 => ?_)
      · replace h := z_ifn c8 h
        refine lv_aload hx hb dX11_rub_44 (lv_at hl 0 rfl) ?_
        refine lv_iload_n hx hb dX11_rub_46 rfl (lv_at hl 3 rfl) ?_
        refine lv_iload_n hx hb dX11_rub_47 rfl (lv_at hl 4 rfl) ?_
        obtain ⟨w9, ew9, h⟩ := z_bd h
        refine z_goi C0 hw hS (res := w9) (rest := []) (arr := (Value.ref (zad F G (100 + 4 * q2)) :: [.int x2, .int x3]).toArray) ?_ (fun H locs hw hS => ?_)
        · rcases zOK_cases hq2 with zz | zz | zz | zz | zz | zz | zz
          · exact va_runU (z_fix C0) (c_X5_rubOn l D Y F G S _ q2 hq2 x2 x3 w9 ew9) (va_cwU 2 hts gX11_rub_X5_rubOn_u293X0 rfl rfl rfl rfl (by decide +kernel) ⟨Nat.le_of_ble_eq_true rfl, Nat.le_of_ble_eq_true rfl⟩) ⟨zPc_blind, z_prec C0 hw hq2 (ci := 0) zz rfl, z_give C0 hw hS _⟩ rfl rfl hl.1 rfl (lv_room (Nat.le_of_ble_eq_true rfl)) dX11_rub_48 ⟨Nat.zero_le _, Nat.zero_le _⟩
          · exact va_runU (z_fix C0) (c_X5_rubOn l D Y F G S _ q2 hq2 x2 x3 w9 ew9) (va_cwU 2 hts gX11_rub_X5_rubOn_u293X1 rfl rfl rfl rfl (by decide +kernel) ⟨Nat.le_of_ble_eq_true rfl, Nat.le_of_ble_eq_true rfl⟩) ⟨zPc_blind, z_prec C0 hw hq2 (ci := 1) zz rfl, z_give C0 hw hS _⟩ rfl rfl hl.1 rfl (lv_room (Nat.le_of_ble_eq_true rfl)) dX11_rub_48 ⟨Nat.zero_le _, Nat.zero_le _⟩
          · exact va_runU (z_fix C0) (c_X5_rubOn l D Y F G S _ q2 hq2 x2 x3 w9 ew9) (va_cwU 2 hts gX11_rub_X5_rubOn_u293X2 rfl rfl rfl rfl (by decide +kernel) ⟨Nat.le_of_ble_eq_true rfl, Nat.le_of_ble_eq_true rfl⟩) ⟨zPc_blind, z_prec C0 hw hq2 (ci := 2) zz rfl, z_give C0 hw hS _⟩ rfl rfl hl.1 rfl (lv_room (Nat.le_of_ble_eq_true rfl)) dX11_rub_48 ⟨Nat.zero_le _, Nat.zero_le _⟩
          · exact va_runU (z_fix C0) (c_X5_rubOn l D Y F G S _ q2 hq2 x2 x3 w9 ew9) (va_cwU 2 hts gX11_rub_X5_rubOn_u293X3 rfl rfl rfl rfl (by decide +kernel) ⟨Nat.le_of_ble_eq_true rfl, Nat.le_of_ble_eq_true rfl⟩) ⟨zPc_blind, z_prec C0 hw hq2 (ci := 3) zz rfl, z_give C0 hw hS _⟩ rfl rfl hl.1 rfl (lv_room (Nat.le_of_ble_eq_true rfl)) dX11_rub_48 ⟨Nat.zero_le _, Nat.zero_le _⟩
          · exact va_runV (z_fix C0) (c_X5_rubOn l D Y F G S _ q2 hq2 x2 x3 w9 ew9) (cwV 2 hts gX11_rub_X5_rubOn rfl rfl rfl (by decide +kernel) ⟨Nat.le_of_ble_eq_true rfl, Nat.le_of_ble_eq_true rfl⟩) ⟨zPc_blind, z_prec C0 hw hq2 (ci := 5) zz rfl, z_give C0 hw hS _⟩ rfl rfl hl.1 rfl (lv_room (Nat.le_of_ble_eq_true rfl)) dX11_rub_48 ⟨Nat.zero_le _, Nat.zero_le _⟩
          · exact va_runU (z_fix C0) (c_X5_rubOn l D Y F G S _ q2 hq2 x2 x3 w9 ew9) (va_cwU 2 hts gX11_rub_X5_rubOn_u293X8 rfl rfl rfl rfl (by decide +kernel) ⟨Nat.le_of_ble_eq_true rfl, Nat.le_of_ble_eq_true rfl⟩) ⟨zPc_blind, z_prec C0 hw hq2 (ci := 8) zz rfl, z_give C0 hw hS _⟩ rfl rfl hl.1 rfl (lv_room (Nat.le_of_ble_eq_true rfl)) dX11_rub_48 ⟨Nat.zero_le _, Nat.zero_le _⟩
          · exact va_runU (z_fix C0) (c_X5_rubOn l D Y F G S _ q2 hq2 x2 x3 w9 ew9) (va_cwU 2 hts gX11_rub_X5_rubOn_u293X10 rfl rfl rfl rfl (by decide +kernel) ⟨Nat.le_of_ble_eq_true rfl, Nat.le_of_ble_eq_true rfl⟩) ⟨zPc_blind, z_prec C0 hw hq2 (ci := 10) zz rfl, z_give C0 hw hS _⟩ rfl rfl hl.1 rfl (lv_room (Nat.le_of_ble_eq_true rfl)) dX11_rub_48 ⟨Nat.zero_le _, Nat.zero_le _⟩
        exact z_reti C0 hw hS (Option.some.inj h) dX11_rub_51
      · replace h := z_ifp c8 h
        exact t_X11_rub_B37 C0 res S h _ _ _ hw hS (lv_sub hl [1] rfl)
def M_X11_dies (pk : Nat → Nat) (S : zSt) (x1 : Int32) : Option (Int32 × zSt) :=
  Option.bind (M_X4_personAt pk S 0 x1) (fun w1 => (zm w1 (Option.bind (M_X11_refuse pk S (-1)) (fun w3 => some (w3.1, w3.2))) (fun q2 => zg (zOKb pk q2) (Option.bind (M_X5_isGone pk S q2) (fun w4 => (if w4 = 0 then some ((zsc ((zP S ((100 + 4 * q2)) 8 (((zsc S (100 + 4 * q2) 8) + 1)))) (100 + 4 * q2) 8), (zP S ((100 + 4 * q2)) 8 (((zsc S (100 + 4 * q2) 8) + 1)))) else Option.bind (M_X11_refuse pk S (-6)) (fun w6 => some (w6.1, w6.2))))))))
set_option maxHeartbeats 4000000 in
set_option maxRecDepth 100000 in
theorem c_X11_dies (l : Launch) (D : va_G) (Y : Nat → ClassId) (F : Nat → Nat) (G : zG) (S : zSt) (sz : Nat) (x1 : Int32) (res : Int32 × zSt) (h : M_X11_dies (zpk G) S x1 = some res) : Met l yX11_dies wsX11_dies (zRm 2 43) (zPc D Y F G S sz [.ref (F 20), .int x1]) (zQi D Y F (zAo F G sz) G res) 0 0 (zAo F G sz) := by
  unfold M_X11_dies at h
  refine zMet (cc := cX11_dies) (maxL := 3) (ret := (some .int)) (own := RX11) (by decide +kernel) rfl rfl (Nat.le_of_ble_eq_true rfl) ?_
  intro p e s m args below meth c C0 hin hw hS ls hl
  have hl : lv_has ls 3 [(0, .ref (F 20)), (1, .int x1)] := hl
  generalize zAo F G sz = A at C0 hw hS ⊢
  obtain ⟨hx, hb, hml, hr, hown, hts, hK, hA, hlk, hN⟩ := id C0
  refine lv_aload_n hx hb dX11_dies_0 rfl (lv_at hl 0 rfl) ?_
  refine z_getU C0 in_X11_dies_X11 (C := RX11) (T := TX11) (N := 14) hw (k := 20) (ci := 11) (v := .ref (F 60)) rfl rfl rfl rfl 3 (by decide) rfl 1 rfl (Or.inl rfl) dX11_dies_1 ?_
  refine lv_iload_n hx hb dX11_dies_4 rfl (lv_at hl 1 rfl) ?_
  obtain ⟨w1, ew1, h⟩ := z_bd h
  refine z_goq C0 hw hS (r0 := w1.map (zpa F G)) (rest := []) (arr := (Value.ref (F 60) :: [.int x1]).toArray) ?_ (fun H locs hw hS => ?_)
  · exact va_runV (z_fix C0) (c_X4_personAt l D Y F G S _ 0 (by decide) x1 w1 ew1) (cwV 1 hts gX11_dies_X4_personAt rfl rfl rfl (by decide +kernel) ⟨Nat.le_of_ble_eq_true rfl, Nat.le_of_ble_eq_true rfl⟩) ⟨zPc_blind, z_rv C0 hw (k := 60) rfl rfl rfl rfl, z_give C0 hw hS _⟩ rfl rfl hl.1 rfl (lv_room (Nat.le_of_ble_eq_true rfl)) dX11_dies_5 ⟨Nat.zero_le _, Nat.zero_le _⟩
  rcases w1 with _ | q2
  · replace h := zm_n h
    refine z_topv (y := .null) rfl ?_
    refine lv_astore_nN (lv' := [(2, .null), (0, .ref (F 20)), (1, .int x1)]) hx hb dX11_dies_8 rfl hl (by decide) rfl (fun ls hl => ?_)
    refine lv_aload_nN hx hb dX11_dies_9 rfl (lv_at hl 0 rfl) ?_
    refine lv_ifnonnullN hx hb dX11_dies_10 ?_
    refine lv_aload_n hx hb dX11_dies_13 rfl (lv_at hl 1 rfl) ?_
    refine lv_iconst (v := (-1)) hx hb dX11_dies_14 (by decide) ?_
    obtain ⟨w3, ew3, h⟩ := z_bd h
    refine z_goi C0 hw hS (res := w3) (rest := []) (arr := (Value.ref (F 20) :: [.int (-1)]).toArray) ?_ (fun H locs hw hS => ?_)
    · exact va_runV (z_fix C0) (c_X11_refuse l D Y F G S _ (-1) w3 ew3) (cwV 1 hts gX11_dies_X11_refuse rfl rfl rfl (by decide +kernel) ⟨Nat.le_of_ble_eq_true rfl, Nat.le_of_ble_eq_true rfl⟩) ⟨zPc_blind, z_rv C0 hw (k := 20) rfl rfl rfl rfl, z_give C0 hw hS _⟩ rfl rfl hl.1 rfl (lv_room (Nat.le_of_ble_eq_true rfl)) dX11_dies_15 ⟨Nat.zero_le _, Nat.zero_le _⟩
    exact z_reti C0 hw hS (Option.some.inj h) dX11_dies_18
  · replace h := zm_s h
    obtain ⟨bq2, h⟩ := z_gd h
    have hq2 := bq2
    refine z_topv (y := .ref (zad F G (100 + 4 * q2))) rfl ?_
    refine lv_astore_n (lv' := [(2, .ref (zad F G (100 + 4 * q2))), (0, .ref (F 20)), (1, .int x1)]) hx hb dX11_dies_8 rfl hl (by decide) rfl (fun ls hl => ?_)
    refine lv_aload_n hx hb dX11_dies_9 rfl (lv_at hl 0 rfl) ?_
    refine lv_ifnonnull (tgt := 19) hx hb dX11_dies_10 (by decide) ?_
    refine lv_aload_n hx hb dX11_dies_19 rfl (lv_at hl 0 rfl) ?_
    obtain ⟨w4, ew4, h⟩ := z_bd h
    refine z_goi C0 hw hS (res := (w4, S)) (rest := []) (arr := (Value.ref (zad F G (100 + 4 * q2)) :: []).toArray) ?_ (fun H locs hw hS => ?_)
    · rcases zOK_cases hq2 with zz | zz | zz | zz | zz | zz | zz
      · exact va_runU (z_fix C0) (c_X5_isGone l D Y F G S _ q2 hq2 w4 ew4) (va_cwU 0 hts gX11_dies_X5_isGone_u237X0 rfl rfl rfl rfl (by decide +kernel) ⟨Nat.le_of_ble_eq_true rfl, Nat.le_of_ble_eq_true rfl⟩) ⟨zPc_blind, z_prec C0 hw hq2 (ci := 0) zz rfl, z_give C0 hw hS _⟩ rfl rfl hl.1 rfl (lv_room (Nat.le_of_ble_eq_true rfl)) dX11_dies_20 ⟨Nat.zero_le _, Nat.zero_le _⟩
      · exact va_runU (z_fix C0) (c_X5_isGone l D Y F G S _ q2 hq2 w4 ew4) (va_cwU 0 hts gX11_dies_X5_isGone_u237X1 rfl rfl rfl rfl (by decide +kernel) ⟨Nat.le_of_ble_eq_true rfl, Nat.le_of_ble_eq_true rfl⟩) ⟨zPc_blind, z_prec C0 hw hq2 (ci := 1) zz rfl, z_give C0 hw hS _⟩ rfl rfl hl.1 rfl (lv_room (Nat.le_of_ble_eq_true rfl)) dX11_dies_20 ⟨Nat.zero_le _, Nat.zero_le _⟩
      · exact va_runU (z_fix C0) (c_X5_isGone l D Y F G S _ q2 hq2 w4 ew4) (va_cwU 0 hts gX11_dies_X5_isGone_u237X2 rfl rfl rfl rfl (by decide +kernel) ⟨Nat.le_of_ble_eq_true rfl, Nat.le_of_ble_eq_true rfl⟩) ⟨zPc_blind, z_prec C0 hw hq2 (ci := 2) zz rfl, z_give C0 hw hS _⟩ rfl rfl hl.1 rfl (lv_room (Nat.le_of_ble_eq_true rfl)) dX11_dies_20 ⟨Nat.zero_le _, Nat.zero_le _⟩
      · exact va_runU (z_fix C0) (c_X5_isGone l D Y F G S _ q2 hq2 w4 ew4) (va_cwU 0 hts gX11_dies_X5_isGone_u237X3 rfl rfl rfl rfl (by decide +kernel) ⟨Nat.le_of_ble_eq_true rfl, Nat.le_of_ble_eq_true rfl⟩) ⟨zPc_blind, z_prec C0 hw hq2 (ci := 3) zz rfl, z_give C0 hw hS _⟩ rfl rfl hl.1 rfl (lv_room (Nat.le_of_ble_eq_true rfl)) dX11_dies_20 ⟨Nat.zero_le _, Nat.zero_le _⟩
      · exact va_runV (z_fix C0) (c_X5_isGone l D Y F G S _ q2 hq2 w4 ew4) (cwV 0 hts gX11_dies_X5_isGone rfl rfl rfl (by decide +kernel) ⟨Nat.le_of_ble_eq_true rfl, Nat.le_of_ble_eq_true rfl⟩) ⟨zPc_blind, z_prec C0 hw hq2 (ci := 5) zz rfl, z_give C0 hw hS _⟩ rfl rfl hl.1 rfl (lv_room (Nat.le_of_ble_eq_true rfl)) dX11_dies_20 ⟨Nat.zero_le _, Nat.zero_le _⟩
      · exact va_runU (z_fix C0) (c_X5_isGone l D Y F G S _ q2 hq2 w4 ew4) (va_cwU 0 hts gX11_dies_X5_isGone_u237X8 rfl rfl rfl rfl (by decide +kernel) ⟨Nat.le_of_ble_eq_true rfl, Nat.le_of_ble_eq_true rfl⟩) ⟨zPc_blind, z_prec C0 hw hq2 (ci := 8) zz rfl, z_give C0 hw hS _⟩ rfl rfl hl.1 rfl (lv_room (Nat.le_of_ble_eq_true rfl)) dX11_dies_20 ⟨Nat.zero_le _, Nat.zero_le _⟩
      · exact va_runU (z_fix C0) (c_X5_isGone l D Y F G S _ q2 hq2 w4 ew4) (va_cwU 0 hts gX11_dies_X5_isGone_u237X10 rfl rfl rfl rfl (by decide +kernel) ⟨Nat.le_of_ble_eq_true rfl, Nat.le_of_ble_eq_true rfl⟩) ⟨zPc_blind, z_prec C0 hw hq2 (ci := 10) zz rfl, z_give C0 hw hS _⟩ rfl rfl hl.1 rfl (lv_room (Nat.le_of_ble_eq_true rfl)) dX11_dies_20 ⟨Nat.zero_le _, Nat.zero_le _⟩
    refine lv_if_eq (tgt := 33) hx hb dX11_dies_23 (by decide) (fun c5 => ?_) (fun c5 => ?_)
    · replace h := z_ifp c5 h
      refine lv_aload_n hx hb dX11_dies_33 rfl (lv_at hl 0 rfl) ?_
      refine lv_dup hx hb dX11_dies_34 rfl ?_
      refine z_getP C0 inP_X11_dies hw hq2 8 (by decide) (v := .int ((zsc S (100 + 4 * q2) 8))) rfl 2 rfl (Or.inl rfl) dX11_dies_35 ?_
      refine lv_iconst (v := 1) hx hb dX11_dies_38 (by decide) ?_
      refine lv_iadd hx hb dX11_dies_39 ?_
      refine z_putP C0 inP_X11_dies hw hS hq2 8 (by decide) 2 rfl rfl (v := ((zsc S (100 + 4 * q2) 8) + 1)) dX11_dies_40 (fun H locs hw hS => ?_)
      refine lv_aload_n hx hb dX11_dies_43 rfl (lv_at hl 0 rfl) ?_
      refine z_getP C0 inP_X11_dies hw hq2 8 (by decide) (v := .int ((zsc ((zP S ((100 + 4 * q2)) 8 (((zsc S (100 + 4 * q2) 8) + 1)))) (100 + 4 * q2) 8))) rfl 2 rfl (Or.inl rfl) dX11_dies_44 ?_
      exact z_reti C0 hw hS (Option.some.inj h) dX11_dies_47
    · replace h := z_ifn c5 h
      refine lv_aload_n hx hb dX11_dies_26 rfl (lv_at hl 1 rfl) ?_
      refine lv_bipush (v := (-6)) hx hb dX11_dies_27 (by decide) ?_
      obtain ⟨w6, ew6, h⟩ := z_bd h
      refine z_goi C0 hw hS (res := w6) (rest := []) (arr := (Value.ref (F 20) :: [.int (-6)]).toArray) ?_ (fun H locs hw hS => ?_)
      · exact va_runV (z_fix C0) (c_X11_refuse l D Y F G S _ (-6) w6 ew6) (cwV 1 hts gX11_dies_X11_refuse rfl rfl rfl (by decide +kernel) ⟨Nat.le_of_ble_eq_true rfl, Nat.le_of_ble_eq_true rfl⟩) ⟨zPc_blind, z_rv C0 hw (k := 20) rfl rfl rfl rfl, z_give C0 hw hS _⟩ rfl rfl hl.1 rfl (lv_room (Nat.le_of_ble_eq_true rfl)) dX11_dies_29 ⟨Nat.zero_le _, Nat.zero_le _⟩
      exact z_reti C0 hw hS (Option.some.inj h) dX11_dies_32
def M_X11_years_B28 (pk : Nat → Nat) (S : zSt) : Option (Int32 × zSt) :=
  Option.bind (M_X11_refuse pk S (-6)) (fun w3 => some (w3.1, w3.2))
set_option maxHeartbeats 4000000 in
set_option maxRecDepth 100000 in
theorem t_X11_years_B28 {p : Program} {l : Launch} {e : Env} {s : State} {m : MethodId} {args : Array Value} {below : List Frame} {meth : Method} {c : Code} {D : va_G} {Y : Nat → ClassId} {F : Nat → Nat} {A : Nat → Prop} {G : zG} (C0 : zCx p s m args meth c D Y F A RX11 cX11_years 3 (some .int) wsX11_years) (res : Int32 × zSt) : ∀ (S : zSt), M_X11_years_B28 (zpk G) S = some res → ∀ (H : Heap) (locs : List Loc) (ls : Array Slot), zH D Y F A G S H → va_S A s.heap H locs → lv_has ls 3 [(0, .ref (F 20))] → W p l e (zRm 6 139) s m args below meth c H locs 0 0 (MQ below (zQi D Y F A G res) args s 0 0 A) (F0 m 28 ls []) := by
  obtain ⟨hx, hb, hml, hr, hown, hts, hK, hA, hlk, hN⟩ := id C0
  intro S h H locs ls hw hS hl
  unfold M_X11_years_B28 at h
  refine lv_aload_n hx hb dX11_years_28 rfl (lv_at hl 0 rfl) ?_
  refine lv_bipush (v := (-6)) hx hb dX11_years_29 (by decide) ?_
  obtain ⟨w3, ew3, h⟩ := z_bd h
  refine z_goi C0 hw hS (res := w3) (rest := []) (arr := (Value.ref (F 20) :: [.int (-6)]).toArray) ?_ (fun H locs hw hS => ?_)
  · exact va_runV (z_fix C0) (c_X11_refuse l D Y F G S _ (-6) w3 ew3) (cwV 1 hts gX11_years_X11_refuse rfl rfl rfl (by decide +kernel) ⟨Nat.le_of_ble_eq_true rfl, Nat.le_of_ble_eq_true rfl⟩) ⟨zPc_blind, z_rv C0 hw (k := 20) rfl rfl rfl rfl, z_give C0 hw hS _⟩ rfl rfl hl.1 rfl (lv_room (Nat.le_of_ble_eq_true rfl)) dX11_years_31 ⟨Nat.zero_le _, Nat.zero_le _⟩
  exact z_reti C0 hw hS (Option.some.inj h) dX11_years_34
def M_X11_years_B37 (pk : Nat → Nat) : Nat → zSt → Int32 → Int32 → Option (Int32 × zSt)
  | 0, _, _, _ => none
  | n + 1, S, x1, x2 =>
  (if x1 ≤ x2 then Option.bind (M_X4_deadTotal pk S 0) (fun w6 => some (w6, S)) else Option.bind (M_X4_liveYear pk S 0) (fun w7 => M_X11_years_B37 pk n w7 x1 ((x2 + 1))))
set_option maxHeartbeats 4000000 in
set_option maxRecDepth 100000 in
theorem t_X11_years_B37 {p : Program} {l : Launch} {e : Env} {s : State} {m : MethodId} {args : Array Value} {below : List Frame} {meth : Method} {c : Code} {D : va_G} {Y : Nat → ClassId} {F : Nat → Nat} {A : Nat → Prop} {G : zG} (C0 : zCx p s m args meth c D Y F A RX11 cX11_years 3 (some .int) wsX11_years) (res : Int32 × zSt) : ∀ (n : Nat), ∀ (S : zSt) (x1 : Int32) (x2 : Int32), M_X11_years_B37 (zpk G) n S x1 x2 = some res → ∀ (H : Heap) (locs : List Loc) (ls : Array Slot), zH D Y F A G S H → va_S A s.heap H locs → lv_has ls 3 [(0, .ref (F 20)), (1, .int x1), (2, .int x2)] → W p l e (zRm 6 139) s m args below meth c H locs 0 0 (MQ below (zQi D Y F A G res) args s 0 0 A) (F0 m 37 ls []) := by
  obtain ⟨hx, hb, hml, hr, hown, hts, hK, hA, hlk, hN⟩ := id C0
  intro n
  induction n with
  | zero =>
    intro S x1 x2 h
    unfold M_X11_years_B37 at h
    cases h
  | succ n ih =>
    intro S x1 x2 h H locs ls hw hS hl
    rw [M_X11_years_B37] at h
    refine lv_iload_n hx hb dX11_years_37 rfl (lv_at hl 2 rfl) ?_
    refine lv_iload_n hx hb dX11_years_38 rfl (lv_at hl 1 rfl) ?_
    refine lv_icmp_ge (tgt := 55) hx hb dX11_years_39 (by decide) (fun c5 => ?_) (fun c5 => ?_)
    · replace h := z_ifp c5 h
      refine lv_aload_n hx hb dX11_years_55 rfl (lv_at hl 0 rfl) ?_
      refine z_getU C0 in_X11_years_X11 (C := RX11) (T := TX11) (N := 14) hw (k := 20) (ci := 11) (v := .ref (F 60)) rfl rfl rfl rfl 3 (by decide) rfl 1 rfl (Or.inl rfl) dX11_years_56 ?_
      obtain ⟨w6, ew6, h⟩ := z_bd h
      refine z_goi C0 hw hS (res := (w6, S)) (rest := []) (arr := (Value.ref (F 60) :: []).toArray) ?_ (fun H locs hw hS => ?_)
      · exact va_runV (z_fix C0) (c_X4_deadTotal l D Y F G S _ 0 (by decide) w6 ew6) (cwV 0 hts gX11_years_X4_deadTotal rfl rfl rfl (by decide +kernel) ⟨Nat.le_of_ble_eq_true rfl, Nat.le_of_ble_eq_true rfl⟩) ⟨zPc_blind, z_rv C0 hw (k := 60) rfl rfl rfl rfl, z_give C0 hw hS _⟩ rfl rfl hl.1 rfl (lv_room (Nat.le_of_ble_eq_true rfl)) dX11_years_59 ⟨Nat.zero_le _, Nat.zero_le _⟩
      exact z_reti C0 hw hS (Option.some.inj h) dX11_years_62
    · replace h := z_ifn c5 h
      refine lv_aload_n hx hb dX11_years_42 rfl (lv_at hl 0 rfl) ?_
      refine z_getU C0 in_X11_years_X11 (C := RX11) (T := TX11) (N := 14) hw (k := 20) (ci := 11) (v := .ref (F 60)) rfl rfl rfl rfl 3 (by decide) rfl 1 rfl (Or.inl rfl) dX11_years_43 ?_
      obtain ⟨w7, ew7, h⟩ := z_bd h
      refine z_gov C0 hw hS (res := w7) (rest := []) (arr := (Value.ref (F 60) :: []).toArray) ?_ (fun H locs hw hS => ?_)
      · exact va_runV (z_fix C0) (c_X4_liveYear l D Y F G S _ 0 (by decide) w7 ew7) (cwV 0 hts gX11_years_X4_liveYear rfl rfl rfl (by decide +kernel) ⟨Nat.le_of_ble_eq_true rfl, Nat.le_of_ble_eq_true rfl⟩) ⟨zPc_blind, z_rv C0 hw (k := 60) rfl rfl rfl rfl, z_give C0 hw hS _⟩ rfl rfl hl.1 rfl (lv_room (Nat.le_of_ble_eq_true rfl)) dX11_years_46 ⟨Nat.zero_le _, Nat.zero_le _⟩
      refine lv_iinc (v := (x2 + 1)) (lv' := [(2, .int ((x2 + 1))), (0, .ref (F 20)), (1, .int x1)]) hx hb dX11_years_49 hl (k := 2) rfl rfl (by decide) rfl (fun ls hl => ?_)
      refine lv_goto (tgt := 37) hx hb dX11_years_52 (by decide) ?_
      exact ih w7 x1 ((x2 + 1)) h _ _ _ hw hS (lv_sub hl [1, 2, 0] rfl)
def M_X11_years (pk : Nat → Nat) (S : zSt) (x1 : Int32) : Option (Int32 × zSt) :=
  (if (zsc S 60 3) = 0 then Option.bind (M_X11_refuse pk S (-5)) (fun w8 => some (w8.1, w8.2)) else (if x1 < 1 then M_X11_years_B28 pk S else (if x1 ≤ 100 then M_X11_years_B37 pk zF S x1 0 else M_X11_years_B28 pk S)))
set_option maxHeartbeats 4000000 in
set_option maxRecDepth 100000 in
theorem c_X11_years (l : Launch) (D : va_G) (Y : Nat → ClassId) (F : Nat → Nat) (G : zG) (S : zSt) (sz : Nat) (x1 : Int32) (res : Int32 × zSt) (h : M_X11_years (zpk G) S x1 = some res) : Met l yX11_years wsX11_years (zRm 6 139) (zPc D Y F G S sz [.ref (F 20), .int x1]) (zQi D Y F (zAo F G sz) G res) 0 0 (zAo F G sz) := by
  unfold M_X11_years at h
  refine zMet (cc := cX11_years) (maxL := 3) (ret := (some .int)) (own := RX11) (by decide +kernel) rfl rfl (Nat.le_of_ble_eq_true rfl) ?_
  intro p e s m args below meth c C0 hin hw hS ls hl
  have hl : lv_has ls 3 [(0, .ref (F 20)), (1, .int x1)] := hl
  generalize zAo F G sz = A at C0 hw hS ⊢
  obtain ⟨hx, hb, hml, hr, hown, hts, hK, hA, hlk, hN⟩ := id C0
  refine lv_aload_n hx hb dX11_years_0 rfl (lv_at hl 0 rfl) ?_
  refine z_getU C0 in_X11_years_X11 (C := RX11) (T := TX11) (N := 14) hw (k := 20) (ci := 11) (v := .ref (F 60)) rfl rfl rfl rfl 3 (by decide) rfl 1 rfl (Or.inl rfl) dX11_years_1 ?_
  refine z_getU C0 in_X11_years_X4 (C := RX4) (T := TX4) (N := 6) hw (k := 60) (ci := 4) (v := .int ((zsc S 60 3))) rfl rfl rfl rfl 3 (by decide) rfl 2 rfl (Or.inl rfl) dX11_years_4 ?_
  refine lv_if_ne (tgt := 17) hx hb dX11_years_7 (by decide) (fun c1 => ?_) (fun c1 => ?_)
  · replace h := z_ifn c1 h
    refine lv_iload_n hx hb dX11_years_17 rfl (lv_at hl 1 rfl) ?_
    refine lv_iconst (v := 1) hx hb dX11_years_18 (by decide) ?_
    refine lv_icmp_lt (tgt := 28) hx hb dX11_years_19 (by decide) (fun c2 => ?_) (fun c2 => ?_)
    · replace h := z_ifp c2 h
      exact t_X11_years_B28 C0 res S h _ _ _ hw hS (lv_sub hl [0] rfl)
    · replace h := z_ifn c2 h
      refine lv_iload_n hx hb dX11_years_22 rfl (lv_at hl 1 rfl) ?_
      refine lv_bipush (v := 100) hx hb dX11_years_23 (by decide) ?_
      refine lv_icmp_le (tgt := 35) hx hb dX11_years_25 (by decide) (fun c4 => ?_) (fun c4 => ?_)
      · replace h := z_ifp c4 h
        refine lv_iconst (v := 0) hx hb dX11_years_35 (by decide) ?_
        refine lv_istore_n (lv' := [(2, .int 0), (0, .ref (F 20)), (1, .int x1)]) hx hb dX11_years_36 rfl hl (by decide) rfl (fun ls hl => ?_)
        exact t_X11_years_B37 C0 res zF S x1 0 h _ _ _ hw hS (lv_sub hl [1, 2, 0] rfl)
      · replace h := z_ifn c4 h
        exact t_X11_years_B28 C0 res S h _ _ _ hw hS (lv_sub hl [0] rfl)
  · replace h := z_ifp c1 h
    refine lv_aload_n hx hb dX11_years_10 rfl (lv_at hl 0 rfl) ?_
    refine lv_bipush (v := (-5)) hx hb dX11_years_11 (by decide) ?_
    obtain ⟨w8, ew8, h⟩ := z_bd h
    refine z_goi C0 hw hS (res := w8) (rest := []) (arr := (Value.ref (F 20) :: [.int (-5)]).toArray) ?_ (fun H locs hw hS => ?_)
    · exact va_runV (z_fix C0) (c_X11_refuse l D Y F G S _ (-5) w8 ew8) (cwV 1 hts gX11_years_X11_refuse rfl rfl rfl (by decide +kernel) ⟨Nat.le_of_ble_eq_true rfl, Nat.le_of_ble_eq_true rfl⟩) ⟨zPc_blind, z_rv C0 hw (k := 20) rfl rfl rfl rfl, z_give C0 hw hS _⟩ rfl rfl hl.1 rfl (lv_room (Nat.le_of_ble_eq_true rfl)) dX11_years_13 ⟨Nat.zero_le _, Nat.zero_le _⟩
    exact z_reti C0 hw hS (Option.some.inj h) dX11_years_16
def M_X11_seed (pk : Nat → Nat) (S : zSt) (x1 : Int32) : Option (Int32 × zSt) :=
  some ((zsc S 60 5), (zP S 60 5 x1))
set_option maxHeartbeats 4000000 in
set_option maxRecDepth 100000 in
theorem c_X11_seed (l : Launch) (D : va_G) (Y : Nat → ClassId) (F : Nat → Nat) (G : zG) (S : zSt) (sz : Nat) (x1 : Int32) (res : Int32 × zSt) (h : M_X11_seed (zpk G) S x1 = some res) : Met l yX11_seed wsX11_seed (zRm 0 0) (zPc D Y F G S sz [.ref (F 20), .int x1]) (zQi D Y F (zAo F G sz) G res) 0 0 (zAo F G sz) := by
  unfold M_X11_seed at h
  refine zMet (cc := cX11_seed) (maxL := 3) (ret := (some .int)) (own := RX11) (by decide +kernel) rfl rfl (Nat.le_of_ble_eq_true rfl) ?_
  intro p e s m args below meth c C0 hin hw hS ls hl
  have hl : lv_has ls 3 [(0, .ref (F 20)), (1, .int x1)] := hl
  generalize zAo F G sz = A at C0 hw hS ⊢
  obtain ⟨hx, hb, hml, hr, hown, hts, hK, hA, hlk, hN⟩ := id C0
  refine lv_aload_n hx hb dX11_seed_0 rfl (lv_at hl 0 rfl) ?_
  refine z_getU C0 in_X11_seed_X11 (C := RX11) (T := TX11) (N := 14) hw (k := 20) (ci := 11) (v := .ref (F 60)) rfl rfl rfl rfl 3 (by decide) rfl 1 rfl (Or.inl rfl) dX11_seed_1 ?_
  refine z_getU C0 in_X11_seed_X4 (C := RX4) (T := TX4) (N := 6) hw (k := 60) (ci := 4) (v := .int ((zsc S 60 5))) rfl rfl rfl rfl 5 (by decide) rfl 2 rfl (Or.inl rfl) dX11_seed_4 ?_
  refine lv_istore_n (lv' := [(2, .int ((zsc S 60 5))), (0, .ref (F 20)), (1, .int x1)]) hx hb dX11_seed_7 rfl hl (by decide) rfl (fun ls hl => ?_)
  refine lv_aload_n hx hb dX11_seed_8 rfl (lv_at hl 1 rfl) ?_
  refine z_getU C0 in_X11_seed_X11 (C := RX11) (T := TX11) (N := 14) hw (k := 20) (ci := 11) (v := .ref (F 60)) rfl rfl rfl rfl 3 (by decide) rfl 1 rfl (Or.inl rfl) dX11_seed_9 ?_
  refine lv_iload_n hx hb dX11_seed_12 rfl (lv_at hl 2 rfl) ?_
  refine z_putU C0 in_X11_seed_X4 tyX4 tyX4_ok nmX4 (C := RX4) (T := TX4) (N := 6) hw hS (k := 60) (ci := 4) (v := x1) rfl rfl rfl rfl 5 (by decide) 2 rfl rfl rfl rfl (Nat.le_of_ble_eq_true rfl) rfl dX11_seed_13 (fun H locs hw hS => ?_)
  refine lv_iload_n hx hb dX11_seed_16 rfl (lv_at hl 0 rfl) ?_
  exact z_reti C0 hw hS (Option.some.inj h) dX11_seed_17
