set_option maxRecDepth 20000 in
theorem in_X11_act_X11 : ∀ w ∈ u_ws RX11 TX11 14, w ∈ wsX11_act := by decide +kernel
set_option maxRecDepth 20000 in
theorem in_X11_status_X11 : ∀ w ∈ u_ws RX11 TX11 14, w ∈ wsX11_status := by decide +kernel
set_option maxRecDepth 20000 in
theorem in_X11_status_X4 : ∀ w ∈ u_ws RX4 TX4 6, w ∈ wsX11_status := by decide +kernel
set_option maxRecDepth 20000 in
theorem in_X11_status_X9 : ∀ w ∈ u_ws RX9 TX9 2, w ∈ wsX11_status := by decide +kernel
set_option maxRecDepth 20000 in
theorem in_X11_trace_X11 : ∀ w ∈ u_ws RX11 TX11 14, w ∈ wsX11_trace := by decide +kernel
def V_looks (pk : Nat → Nat) (S : zSt) (q : Nat) (x1 : Int32) : Option (Int32 × zSt) :=
  if pk q = 1 then M_X0_looks pk S q x1 else if pk q = 2 then M_X5_looks pk S q x1 else if pk q = 3 then M_X5_looks pk S q x1 else if pk q = 4 then M_X3_looks pk S q x1 else if pk q = 6 then M_X5_looks pk S q x1 else if pk q = 9 then M_X5_looks pk S q x1 else if pk q = 11 then M_X5_looks pk S q x1 else none
theorem V_looks_X0 {pk : Nat → Nat} {S : zSt} {q : Nat} {x1 : Int32} {w : Int32 × zSt} (hp : pk q = 1) (hv : V_looks pk S q x1 = some w) : M_X0_looks pk S q x1 = some w := by
  unfold V_looks at hv
  rw [if_pos hp] at hv
  exact hv
theorem V_looks_X1 {pk : Nat → Nat} {S : zSt} {q : Nat} {x1 : Int32} {w : Int32 × zSt} (hp : pk q = 2) (hv : V_looks pk S q x1 = some w) : M_X5_looks pk S q x1 = some w := by
  unfold V_looks at hv
  rw [if_neg (show ¬ (pk q = 1) by omega)] at hv
  rw [if_pos hp] at hv
  exact hv
theorem V_looks_X2 {pk : Nat → Nat} {S : zSt} {q : Nat} {x1 : Int32} {w : Int32 × zSt} (hp : pk q = 3) (hv : V_looks pk S q x1 = some w) : M_X5_looks pk S q x1 = some w := by
  unfold V_looks at hv
  rw [if_neg (show ¬ (pk q = 1) by omega)] at hv
  rw [if_neg (show ¬ (pk q = 2) by omega)] at hv
  rw [if_pos hp] at hv
  exact hv
theorem V_looks_X3 {pk : Nat → Nat} {S : zSt} {q : Nat} {x1 : Int32} {w : Int32 × zSt} (hp : pk q = 4) (hv : V_looks pk S q x1 = some w) : M_X3_looks pk S q x1 = some w := by
  unfold V_looks at hv
  rw [if_neg (show ¬ (pk q = 1) by omega)] at hv
  rw [if_neg (show ¬ (pk q = 2) by omega)] at hv
  rw [if_neg (show ¬ (pk q = 3) by omega)] at hv
  rw [if_pos hp] at hv
  exact hv
theorem V_looks_X5 {pk : Nat → Nat} {S : zSt} {q : Nat} {x1 : Int32} {w : Int32 × zSt} (hp : pk q = 6) (hv : V_looks pk S q x1 = some w) : M_X5_looks pk S q x1 = some w := by
  unfold V_looks at hv
  rw [if_neg (show ¬ (pk q = 1) by omega)] at hv
  rw [if_neg (show ¬ (pk q = 2) by omega)] at hv
  rw [if_neg (show ¬ (pk q = 3) by omega)] at hv
  rw [if_neg (show ¬ (pk q = 4) by omega)] at hv
  rw [if_pos hp] at hv
  exact hv
theorem V_looks_X8 {pk : Nat → Nat} {S : zSt} {q : Nat} {x1 : Int32} {w : Int32 × zSt} (hp : pk q = 9) (hv : V_looks pk S q x1 = some w) : M_X5_looks pk S q x1 = some w := by
  unfold V_looks at hv
  rw [if_neg (show ¬ (pk q = 1) by omega)] at hv
  rw [if_neg (show ¬ (pk q = 2) by omega)] at hv
  rw [if_neg (show ¬ (pk q = 3) by omega)] at hv
  rw [if_neg (show ¬ (pk q = 4) by omega)] at hv
  rw [if_neg (show ¬ (pk q = 6) by omega)] at hv
  rw [if_pos hp] at hv
  exact hv
theorem V_looks_X10 {pk : Nat → Nat} {S : zSt} {q : Nat} {x1 : Int32} {w : Int32 × zSt} (hp : pk q = 11) (hv : V_looks pk S q x1 = some w) : M_X5_looks pk S q x1 = some w := by
  unfold V_looks at hv
  rw [if_neg (show ¬ (pk q = 1) by omega)] at hv
  rw [if_neg (show ¬ (pk q = 2) by omega)] at hv
  rw [if_neg (show ¬ (pk q = 3) by omega)] at hv
  rw [if_neg (show ¬ (pk q = 4) by omega)] at hv
  rw [if_neg (show ¬ (pk q = 6) by omega)] at hv
  rw [if_neg (show ¬ (pk q = 9) by omega)] at hv
  rw [if_pos hp] at hv
  exact hv
def M_X11_act (pk : Nat → Nat) (S : zSt) (x1 : Int32) (x2 : Int32) (x3 : Int32) : Option (Int32 × zSt) :=
  Option.bind (M_X9_clear pk S) (fun w1 => Option.bind (M_X4_personAt pk w1 0 x1) (fun w2 => (zm w2 (some (0, w1)) (fun q3 => zg (zOKb pk q3) ((if x2 = 0 then Option.bind (V_lives pk w1 q3 x3) (fun w5 => some (w5.1, w5.2)) else (if x2 = 1 then Option.bind (V_goes pk w1 q3 x3) (fun w7 => some (w7.1, w7.2)) else (if x2 = 2 then Option.bind (V_looks pk w1 q3 x3) (fun w9 => some (w9.1, w9.2)) else some (0, w1)))))))))
set_option maxHeartbeats 4000000 in
set_option maxRecDepth 100000 in
theorem c_X11_act (l : Launch) (D : va_G) (Y : Nat → ClassId) (F : Nat → Nat) (G : zG) (S : zSt) (sz : Nat) (x1 : Int32) (x2 : Int32) (x3 : Int32) (res : Int32 × zSt) (h : M_X11_act (zpk G) S x1 x2 x3 = some res) : Met l yX11_act wsX11_act (zRm 10 210) (zPc D Y F G S sz [.ref (F 20), .int x1, .int x2, .int x3]) (zQi D Y F (zAo F G sz) G res) 0 0 (zAo F G sz) := by
  unfold M_X11_act at h
  refine zMet (cc := cX11_act) (maxL := 5) (ret := (some .int)) (own := RX11) (by decide +kernel) rfl rfl (Nat.le_of_ble_eq_true rfl) ?_
  intro p e s m args below meth c C0 hin hw hS ls hl
  have hl : lv_has ls 5 [(0, .ref (F 20)), (1, .int x1), (2, .int x2), (3, .int x3)] := hl
  generalize zAo F G sz = A at C0 hw hS ⊢
  obtain ⟨hx, hb, hml, hr, hown, hts, hK, hA, hlk, hN⟩ := id C0
  refine lv_aload_n hx hb dX11_act_0 rfl (lv_at hl 0 rfl) ?_
  refine z_getU C0 in_X11_act_X11 (C := RX11) (T := TX11) (N := 14) hw (k := 20) (ci := 11) (v := .ref (F 56)) rfl rfl rfl rfl 2 (by decide) rfl 1 rfl (Or.inl rfl) dX11_act_1 ?_
  obtain ⟨w1, ew1, h⟩ := z_bd h
  refine z_gov C0 hw hS (res := w1) (rest := []) (arr := (Value.ref (F 56) :: []).toArray) ?_ (fun H locs hw hS => ?_)
  · exact va_runV (z_fix C0) (c_X9_clear l D Y F G S _ w1 ew1) (cwV 0 hts gX11_act_X9_clear rfl rfl rfl (by decide +kernel) ⟨Nat.le_of_ble_eq_true rfl, Nat.le_of_ble_eq_true rfl⟩) ⟨zPc_blind, z_rv C0 hw (k := 56) rfl rfl rfl rfl, z_give C0 hw hS _⟩ rfl rfl hl.1 rfl (lv_room (Nat.le_of_ble_eq_true rfl)) dX11_act_4 ⟨Nat.zero_le _, Nat.zero_le _⟩
  refine lv_aload_n hx hb dX11_act_7 rfl (lv_at hl 0 rfl) ?_
  refine z_getU C0 in_X11_act_X11 (C := RX11) (T := TX11) (N := 14) hw (k := 20) (ci := 11) (v := .ref (F 60)) rfl rfl rfl rfl 3 (by decide) rfl 2 rfl (Or.inl rfl) dX11_act_8 ?_
  refine lv_iload_n hx hb dX11_act_11 rfl (lv_at hl 1 rfl) ?_
  obtain ⟨w2, ew2, h⟩ := z_bd h
  refine z_goq C0 hw hS (r0 := w2.map (zpa F G)) (rest := []) (arr := (Value.ref (F 60) :: [.int x1]).toArray) ?_ (fun H locs hw hS => ?_)
  · exact va_runV (z_fix C0) (c_X4_personAt l D Y F G w1 _ 0 (by decide) x1 w2 ew2) (cwV 1 hts gX11_act_X4_personAt rfl rfl rfl (by decide +kernel) ⟨Nat.le_of_ble_eq_true rfl, Nat.le_of_ble_eq_true rfl⟩) ⟨zPc_blind, z_rv C0 hw (k := 60) rfl rfl rfl rfl, z_give C0 hw hS _⟩ rfl rfl hl.1 rfl (lv_room (Nat.le_of_ble_eq_true rfl)) dX11_act_12 ⟨Nat.zero_le _, Nat.zero_le _⟩
  rcases w2 with _ | q3
  · replace h := zm_n h
    refine z_topv (y := .null) rfl ?_
    refine lv_astoreN (lv' := [(4, .null), (0, .ref (F 20)), (1, .int x1), (2, .int x2), (3, .int x3)]) hx hb dX11_act_15 hl (by decide) rfl (fun ls hl => ?_)
    refine lv_aloadN hx hb dX11_act_17 (lv_at hl 0 rfl) ?_
    refine lv_ifnonnullN hx hb dX11_act_19 ?_
    refine lv_iconst (v := 0) hx hb dX11_act_22 (by decide) ?_
    exact z_reti C0 hw hS (Option.some.inj h) dX11_act_23
  · replace h := zm_s h
    obtain ⟨bq3, h⟩ := z_gd h
    have hq3 := bq3
    refine z_topv (y := .ref (zad F G (100 + 4 * q3))) rfl ?_
    refine lv_astore (lv' := [(4, .ref (zad F G (100 + 4 * q3))), (0, .ref (F 20)), (1, .int x1), (2, .int x2), (3, .int x3)]) hx hb dX11_act_15 hl (by decide) rfl (fun ls hl => ?_)
    refine lv_aload hx hb dX11_act_17 (lv_at hl 0 rfl) ?_
    refine lv_ifnonnull (tgt := 24) hx hb dX11_act_19 (by decide) ?_
    refine lv_iload_n hx hb dX11_act_24 rfl (lv_at hl 3 rfl) ?_
    by_cases c4 : x2 = 0
    · replace h := z_ifp c4 h
      refine z_top c4 ?_
      refine lv_tableIn (off := 27) (tgt := 52) hx hb dX11_act_25 (by decide) (by decide) rfl (by decide) ?_
      refine lv_aload hx hb dX11_act_52 (lv_at hl 0 rfl) ?_
      refine lv_iload_n hx hb dX11_act_54 rfl (lv_at hl 4 rfl) ?_
      obtain ⟨w5, ew5, h⟩ := z_bd h
      refine z_goi C0 hw hS (res := w5) (rest := []) (arr := (Value.ref (zad F G (100 + 4 * q3)) :: [.int x3]).toArray) ?_ (fun H locs hw hS => ?_)
      · rcases zOK_cases hq3 with zz | zz | zz | zz | zz | zz | zz
        · exact va_runU (z_fix C0) (c_X3_lives l D Y F G w1 _ q3 hq3 x3 w5 (V_lives_X0 zz ew5)) (va_cwO 1 hts gX11_act_X3_lives_u305X0 rfl rfl rfl (List.mem_of_getElem? (i := 36) rfl) (by decide +kernel) ⟨Nat.le_of_ble_eq_true rfl, Nat.le_of_ble_eq_true rfl⟩) ⟨zPc_blind, z_prec C0 hw hq3 (ci := 0) zz rfl, z_give C0 hw hS _⟩ rfl rfl hl.1 rfl (lv_room (Nat.le_of_ble_eq_true rfl)) dX11_act_55 ⟨Nat.zero_le _, Nat.zero_le _⟩
        · exact va_runU (z_fix C0) (c_X1_lives l D Y F G w1 _ q3 hq3 x3 w5 (V_lives_X1 zz ew5)) (va_cwO 1 hts gX11_act_X1_lives_u305X1 rfl rfl rfl (List.mem_of_getElem? (i := 36) rfl) (by decide +kernel) ⟨Nat.le_of_ble_eq_true rfl, Nat.le_of_ble_eq_true rfl⟩) ⟨zPc_blind, z_prec C0 hw hq3 (ci := 1) zz rfl, z_give C0 hw hS _⟩ rfl rfl hl.1 rfl (lv_room (Nat.le_of_ble_eq_true rfl)) dX11_act_55 ⟨Nat.zero_le _, Nat.zero_le _⟩
        · exact va_runU (z_fix C0) (c_X5_lives l D Y F G w1 _ q3 hq3 x3 w5 (V_lives_X2 zz ew5)) (va_cwU 1 hts gX11_act_X5_lives_u305X2 rfl rfl rfl rfl (by decide +kernel) ⟨Nat.le_of_ble_eq_true rfl, Nat.le_of_ble_eq_true rfl⟩) ⟨zPc_blind, z_prec C0 hw hq3 (ci := 2) zz rfl, z_give C0 hw hS _⟩ rfl rfl hl.1 rfl (lv_room (Nat.le_of_ble_eq_true rfl)) dX11_act_55 ⟨Nat.zero_le _, Nat.zero_le _⟩
        · exact va_runU (z_fix C0) (c_X3_lives l D Y F G w1 _ q3 hq3 x3 w5 (V_lives_X3 zz ew5)) (va_cwO 1 hts gX11_act_X3_lives_u305X3 rfl rfl rfl (List.mem_of_getElem? (i := 36) rfl) (by decide +kernel) ⟨Nat.le_of_ble_eq_true rfl, Nat.le_of_ble_eq_true rfl⟩) ⟨zPc_blind, z_prec C0 hw hq3 (ci := 3) zz rfl, z_give C0 hw hS _⟩ rfl rfl hl.1 rfl (lv_room (Nat.le_of_ble_eq_true rfl)) dX11_act_55 ⟨Nat.zero_le _, Nat.zero_le _⟩
        · exact va_runV (z_fix C0) (c_X5_lives l D Y F G w1 _ q3 hq3 x3 w5 (V_lives_X5 zz ew5)) (cwV 1 hts gX11_act_X5_lives rfl rfl rfl (by decide +kernel) ⟨Nat.le_of_ble_eq_true rfl, Nat.le_of_ble_eq_true rfl⟩) ⟨zPc_blind, z_prec C0 hw hq3 (ci := 5) zz rfl, z_give C0 hw hS _⟩ rfl rfl hl.1 rfl (lv_room (Nat.le_of_ble_eq_true rfl)) dX11_act_55 ⟨Nat.zero_le _, Nat.zero_le _⟩
        · exact va_runU (z_fix C0) (c_X8_lives l D Y F G w1 _ q3 hq3 x3 w5 (V_lives_X8 zz ew5)) (va_cwO 1 hts gX11_act_X8_lives_u305X8 rfl rfl rfl (List.mem_of_getElem? (i := 36) rfl) (by decide +kernel) ⟨Nat.le_of_ble_eq_true rfl, Nat.le_of_ble_eq_true rfl⟩) ⟨zPc_blind, z_prec C0 hw hq3 (ci := 8) zz rfl, z_give C0 hw hS _⟩ rfl rfl hl.1 rfl (lv_room (Nat.le_of_ble_eq_true rfl)) dX11_act_55 ⟨Nat.zero_le _, Nat.zero_le _⟩
        · exact va_runU (z_fix C0) (c_X5_lives l D Y F G w1 _ q3 hq3 x3 w5 (V_lives_X10 zz ew5)) (va_cwU 1 hts gX11_act_X5_lives_u305X10 rfl rfl rfl rfl (by decide +kernel) ⟨Nat.le_of_ble_eq_true rfl, Nat.le_of_ble_eq_true rfl⟩) ⟨zPc_blind, z_prec C0 hw hq3 (ci := 10) zz rfl, z_give C0 hw hS _⟩ rfl rfl hl.1 rfl (lv_room (Nat.le_of_ble_eq_true rfl)) dX11_act_55 ⟨Nat.zero_le _, Nat.zero_le _⟩
      exact z_reti C0 hw hS (Option.some.inj h) dX11_act_58
    · replace h := z_ifn c4 h
      by_cases c6 : x2 = 1
      · replace h := z_ifp c6 h
        refine z_top c6 ?_
        refine lv_tableIn (off := 34) (tgt := 59) hx hb dX11_act_25 (by decide) (by decide) rfl (by decide) ?_
        refine lv_aload hx hb dX11_act_59 (lv_at hl 0 rfl) ?_
        refine lv_iload_n hx hb dX11_act_61 rfl (lv_at hl 4 rfl) ?_
        obtain ⟨w7, ew7, h⟩ := z_bd h
        refine z_goi C0 hw hS (res := w7) (rest := []) (arr := (Value.ref (zad F G (100 + 4 * q3)) :: [.int x3]).toArray) ?_ (fun H locs hw hS => ?_)
        · rcases zOK_cases hq3 with zz | zz | zz | zz | zz | zz | zz
          · exact va_runU (z_fix C0) (c_X5_goes l D Y F G w1 _ q3 hq3 x3 w7 (V_goes_X0 zz ew7)) (va_cwU 1 hts gX11_act_X5_goes_u308X0 rfl rfl rfl rfl (by decide +kernel) ⟨Nat.le_of_ble_eq_true rfl, Nat.le_of_ble_eq_true rfl⟩) ⟨zPc_blind, z_prec C0 hw hq3 (ci := 0) zz rfl, z_give C0 hw hS _⟩ rfl rfl hl.1 rfl (lv_room (Nat.le_of_ble_eq_true rfl)) dX11_act_62 ⟨Nat.zero_le _, Nat.zero_le _⟩
          · exact va_runU (z_fix C0) (c_X1_goes l D Y F G w1 _ q3 hq3 x3 w7 (V_goes_X1 zz ew7)) (va_cwO 1 hts gX11_act_X1_goes_u308X1 rfl rfl rfl (List.mem_of_getElem? (i := 70) rfl) (by decide +kernel) ⟨Nat.le_of_ble_eq_true rfl, Nat.le_of_ble_eq_true rfl⟩) ⟨zPc_blind, z_prec C0 hw hq3 (ci := 1) zz rfl, z_give C0 hw hS _⟩ rfl rfl hl.1 rfl (lv_room (Nat.le_of_ble_eq_true rfl)) dX11_act_62 ⟨Nat.zero_le _, Nat.zero_le _⟩
          · exact va_runU (z_fix C0) (c_X2_goes l D Y F G w1 _ q3 hq3 x3 w7 (V_goes_X2 zz ew7)) (va_cwO 1 hts gX11_act_X2_goes_u308X2 rfl rfl rfl (List.mem_of_getElem? (i := 70) rfl) (by decide +kernel) ⟨Nat.le_of_ble_eq_true rfl, Nat.le_of_ble_eq_true rfl⟩) ⟨zPc_blind, z_prec C0 hw hq3 (ci := 2) zz rfl, z_give C0 hw hS _⟩ rfl rfl hl.1 rfl (lv_room (Nat.le_of_ble_eq_true rfl)) dX11_act_62 ⟨Nat.zero_le _, Nat.zero_le _⟩
          · exact va_runU (z_fix C0) (c_X5_goes l D Y F G w1 _ q3 hq3 x3 w7 (V_goes_X3 zz ew7)) (va_cwU 1 hts gX11_act_X5_goes_u308X3 rfl rfl rfl rfl (by decide +kernel) ⟨Nat.le_of_ble_eq_true rfl, Nat.le_of_ble_eq_true rfl⟩) ⟨zPc_blind, z_prec C0 hw hq3 (ci := 3) zz rfl, z_give C0 hw hS _⟩ rfl rfl hl.1 rfl (lv_room (Nat.le_of_ble_eq_true rfl)) dX11_act_62 ⟨Nat.zero_le _, Nat.zero_le _⟩
          · exact va_runV (z_fix C0) (c_X5_goes l D Y F G w1 _ q3 hq3 x3 w7 (V_goes_X5 zz ew7)) (cwV 1 hts gX11_act_X5_goes rfl rfl rfl (by decide +kernel) ⟨Nat.le_of_ble_eq_true rfl, Nat.le_of_ble_eq_true rfl⟩) ⟨zPc_blind, z_prec C0 hw hq3 (ci := 5) zz rfl, z_give C0 hw hS _⟩ rfl rfl hl.1 rfl (lv_room (Nat.le_of_ble_eq_true rfl)) dX11_act_62 ⟨Nat.zero_le _, Nat.zero_le _⟩
          · exact va_runU (z_fix C0) (c_X5_goes l D Y F G w1 _ q3 hq3 x3 w7 (V_goes_X8 zz ew7)) (va_cwU 1 hts gX11_act_X5_goes_u308X8 rfl rfl rfl rfl (by decide +kernel) ⟨Nat.le_of_ble_eq_true rfl, Nat.le_of_ble_eq_true rfl⟩) ⟨zPc_blind, z_prec C0 hw hq3 (ci := 8) zz rfl, z_give C0 hw hS _⟩ rfl rfl hl.1 rfl (lv_room (Nat.le_of_ble_eq_true rfl)) dX11_act_62 ⟨Nat.zero_le _, Nat.zero_le _⟩
          · exact va_runU (z_fix C0) (c_X10_goes l D Y F G w1 _ q3 hq3 x3 w7 (V_goes_X10 zz ew7)) (va_cwO 1 hts gX11_act_X10_goes_u308X10 rfl rfl rfl (List.mem_of_getElem? (i := 70) rfl) (by decide +kernel) ⟨Nat.le_of_ble_eq_true rfl, Nat.le_of_ble_eq_true rfl⟩) ⟨zPc_blind, z_prec C0 hw hq3 (ci := 10) zz rfl, z_give C0 hw hS _⟩ rfl rfl hl.1 rfl (lv_room (Nat.le_of_ble_eq_true rfl)) dX11_act_62 ⟨Nat.zero_le _, Nat.zero_le _⟩
        exact z_reti C0 hw hS (Option.some.inj h) dX11_act_65
      · replace h := z_ifn c6 h
        by_cases c8 : x2 = 2
        · replace h := z_ifp c8 h
          refine z_top c8 ?_
          refine lv_tableIn (off := 41) (tgt := 66) hx hb dX11_act_25 (by decide) (by decide) rfl (by decide) ?_
          refine lv_aload hx hb dX11_act_66 (lv_at hl 0 rfl) ?_
          refine lv_iload_n hx hb dX11_act_68 rfl (lv_at hl 4 rfl) ?_
          obtain ⟨w9, ew9, h⟩ := z_bd h
          refine z_goi C0 hw hS (res := w9) (rest := []) (arr := (Value.ref (zad F G (100 + 4 * q3)) :: [.int x3]).toArray) ?_ (fun H locs hw hS => ?_)
          · rcases zOK_cases hq3 with zz | zz | zz | zz | zz | zz | zz
            · exact va_runU (z_fix C0) (c_X0_looks l D Y F G w1 _ q3 hq3 x3 w9 (V_looks_X0 zz ew9)) (va_cwO 1 hts gX11_act_X0_looks_u311X0 rfl rfl rfl (List.mem_of_getElem? (i := 119) rfl) (by decide +kernel) ⟨Nat.le_of_ble_eq_true rfl, Nat.le_of_ble_eq_true rfl⟩) ⟨zPc_blind, z_prec C0 hw hq3 (ci := 0) zz rfl, z_give C0 hw hS _⟩ rfl rfl hl.1 rfl (lv_room (Nat.le_of_ble_eq_true rfl)) dX11_act_69 ⟨Nat.zero_le _, Nat.zero_le _⟩
            · exact va_runU (z_fix C0) (c_X5_looks l D Y F G w1 _ q3 hq3 x3 w9 (V_looks_X1 zz ew9)) (va_cwU 1 hts gX11_act_X5_looks_u311X1 rfl rfl rfl rfl (by decide +kernel) ⟨Nat.le_of_ble_eq_true rfl, Nat.le_of_ble_eq_true rfl⟩) ⟨zPc_blind, z_prec C0 hw hq3 (ci := 1) zz rfl, z_give C0 hw hS _⟩ rfl rfl hl.1 rfl (lv_room (Nat.le_of_ble_eq_true rfl)) dX11_act_69 ⟨Nat.zero_le _, Nat.zero_le _⟩
            · exact va_runU (z_fix C0) (c_X5_looks l D Y F G w1 _ q3 hq3 x3 w9 (V_looks_X2 zz ew9)) (va_cwU 1 hts gX11_act_X5_looks_u311X2 rfl rfl rfl rfl (by decide +kernel) ⟨Nat.le_of_ble_eq_true rfl, Nat.le_of_ble_eq_true rfl⟩) ⟨zPc_blind, z_prec C0 hw hq3 (ci := 2) zz rfl, z_give C0 hw hS _⟩ rfl rfl hl.1 rfl (lv_room (Nat.le_of_ble_eq_true rfl)) dX11_act_69 ⟨Nat.zero_le _, Nat.zero_le _⟩
            · exact va_runU (z_fix C0) (c_X3_looks l D Y F G w1 _ q3 hq3 x3 w9 (V_looks_X3 zz ew9)) (va_cwO 1 hts gX11_act_X3_looks_u311X3 rfl rfl rfl (List.mem_of_getElem? (i := 119) rfl) (by decide +kernel) ⟨Nat.le_of_ble_eq_true rfl, Nat.le_of_ble_eq_true rfl⟩) ⟨zPc_blind, z_prec C0 hw hq3 (ci := 3) zz rfl, z_give C0 hw hS _⟩ rfl rfl hl.1 rfl (lv_room (Nat.le_of_ble_eq_true rfl)) dX11_act_69 ⟨Nat.zero_le _, Nat.zero_le _⟩
            · exact va_runV (z_fix C0) (c_X5_looks l D Y F G w1 _ q3 hq3 x3 w9 (V_looks_X5 zz ew9)) (cwV 1 hts gX11_act_X5_looks rfl rfl rfl (by decide +kernel) ⟨Nat.le_of_ble_eq_true rfl, Nat.le_of_ble_eq_true rfl⟩) ⟨zPc_blind, z_prec C0 hw hq3 (ci := 5) zz rfl, z_give C0 hw hS _⟩ rfl rfl hl.1 rfl (lv_room (Nat.le_of_ble_eq_true rfl)) dX11_act_69 ⟨Nat.zero_le _, Nat.zero_le _⟩
            · exact va_runU (z_fix C0) (c_X5_looks l D Y F G w1 _ q3 hq3 x3 w9 (V_looks_X8 zz ew9)) (va_cwU 1 hts gX11_act_X5_looks_u311X8 rfl rfl rfl rfl (by decide +kernel) ⟨Nat.le_of_ble_eq_true rfl, Nat.le_of_ble_eq_true rfl⟩) ⟨zPc_blind, z_prec C0 hw hq3 (ci := 8) zz rfl, z_give C0 hw hS _⟩ rfl rfl hl.1 rfl (lv_room (Nat.le_of_ble_eq_true rfl)) dX11_act_69 ⟨Nat.zero_le _, Nat.zero_le _⟩
            · exact va_runU (z_fix C0) (c_X5_looks l D Y F G w1 _ q3 hq3 x3 w9 (V_looks_X10 zz ew9)) (va_cwU 1 hts gX11_act_X5_looks_u311X10 rfl rfl rfl rfl (by decide +kernel) ⟨Nat.le_of_ble_eq_true rfl, Nat.le_of_ble_eq_true rfl⟩) ⟨zPc_blind, z_prec C0 hw hq3 (ci := 10) zz rfl, z_give C0 hw hS _⟩ rfl rfl hl.1 rfl (lv_room (Nat.le_of_ble_eq_true rfl)) dX11_act_69 ⟨Nat.zero_le _, Nat.zero_le _⟩
          exact z_reti C0 hw hS (Option.some.inj h) dX11_act_72
        · replace h := z_ifn c8 h
          have nc4 : Int32.toInt x2 ≠ 0 := fun q => c4 (Int32.toInt_inj.mp (q.trans (by decide)))
          have nc6 : Int32.toInt x2 ≠ 1 := fun q => c6 (Int32.toInt_inj.mp (q.trans (by decide)))
          have nc8 : Int32.toInt x2 ≠ 2 := fun q => c8 (Int32.toInt_inj.mp (q.trans (by decide)))
          refine lv_tableOut (tgt := 73) hx hb dX11_act_25 (by omega) (by decide) ?_
          refine lv_iconst (v := 0) hx hb dX11_act_73 (by decide) ?_
          exact z_reti C0 hw hS (Option.some.inj h) dX11_act_74
def M_X11_trace (pk : Nat → Nat) (S : zSt) (x1 : Int32) : Option (Int32) :=
  Option.bind (M_X9_bodyAt pk S x1) (fun w1 => some w1)
set_option maxHeartbeats 4000000 in
set_option maxRecDepth 100000 in
theorem c_X11_trace (l : Launch) (D : va_G) (Y : Nat → ClassId) (F : Nat → Nat) (G : zG) (S : zSt) (sz : Nat) (x1 : Int32) (res : Int32) (h : M_X11_trace (zpk G) S x1 = some res) : Met l yX11_trace wsX11_trace (zRm 1 21) (zPc D Y F G S sz [.ref (F 20), .int x1]) (zQi D Y F (zAo F G sz) G (res, S)) 0 0 (zAo F G sz) := by
  unfold M_X11_trace at h
  refine zMet (cc := cX11_trace) (maxL := 2) (ret := (some .int)) (own := RX11) (by decide +kernel) rfl rfl (Nat.le_of_ble_eq_true rfl) ?_
  intro p e s m args below meth c C0 hin hw hS ls hl
  have hl : lv_has ls 2 [(0, .ref (F 20)), (1, .int x1)] := hl
  generalize zAo F G sz = A at C0 hw hS ⊢
  obtain ⟨hx, hb, hml, hr, hown, hts, hK, hA, hlk, hN⟩ := id C0
  refine lv_aload_n hx hb dX11_trace_0 rfl (lv_at hl 0 rfl) ?_
  refine z_getU C0 in_X11_trace_X11 (C := RX11) (T := TX11) (N := 14) hw (k := 20) (ci := 11) (v := .ref (F 56)) rfl rfl rfl rfl 2 (by decide) rfl 1 rfl (Or.inl rfl) dX11_trace_1 ?_
  refine lv_iload_n hx hb dX11_trace_4 rfl (lv_at hl 1 rfl) ?_
  obtain ⟨w1, ew1, h⟩ := z_bd h
  refine z_goi C0 hw hS (res := (w1, S)) (rest := []) (arr := (Value.ref (F 56) :: [.int x1]).toArray) ?_ (fun H locs hw hS => ?_)
  · exact va_runV (z_fix C0) (c_X9_bodyAt l D Y F G S _ x1 w1 ew1) (cwV 1 hts gX11_trace_X9_bodyAt rfl rfl rfl (by decide +kernel) ⟨Nat.le_of_ble_eq_true rfl, Nat.le_of_ble_eq_true rfl⟩) ⟨zPc_blind, z_rv C0 hw (k := 56) rfl rfl rfl rfl, z_give C0 hw hS _⟩ rfl rfl hl.1 rfl (lv_room (Nat.le_of_ble_eq_true rfl)) dX11_trace_5 ⟨Nat.zero_le _, Nat.zero_le _⟩
  exact z_reti C0 hw hS (congrArg (fun z => (z, S)) (Option.some.inj h)) dX11_trace_8
def M_X11_status (pk : Nat → Nat) (S : zSt) (x1 : Int32) : Option (Int32) :=
  (if x1 = 0 then some ((zsc S 60 3)) else (if x1 = 1 then Option.bind (M_X4_deadTotal pk S 0) (fun w3 => some w3) else (if x1 = 2 then some ((zsc S 60 4)) else (if x1 = 3 then Option.bind (M_X4_strengthTotal pk S 0) (fun w6 => some w6) else (if x1 = 4 then Option.bind (M_X4_smearTotal pk S 0) (fun w8 => some w8) else (if x1 = 5 then some ((zsc S 60 5)) else (if x1 = 6 then some ((zsc S 56 1)) else (if x1 < 11 then some (-1) else (if x1 ≤ 17 then zg (zin ((x1 - 10)) 8) (some ((zar S 22 (Int32.toNatClampNeg ((x1 - 10)))))) else some (-1))))))))))
set_option maxHeartbeats 4000000 in
set_option maxRecDepth 100000 in
theorem c_X11_status (l : Launch) (D : va_G) (Y : Nat → ClassId) (F : Nat → Nat) (G : zG) (S : zSt) (sz : Nat) (x1 : Int32) (res : Int32) (h : M_X11_status (zpk G) S x1 = some res) : Met l yX11_status wsX11_status (zRm 2 48) (zPc D Y F G S sz [.ref (F 20), .int x1]) (zQi D Y F (zAo F G sz) G (res, S)) 0 0 (zAo F G sz) := by
  unfold M_X11_status at h
  refine zMet (cc := cX11_status) (maxL := 2) (ret := (some .int)) (own := RX11) (by decide +kernel) rfl rfl (Nat.le_of_ble_eq_true rfl) ?_
  intro p e s m args below meth c C0 hin hw hS ls hl
  have hl : lv_has ls 2 [(0, .ref (F 20)), (1, .int x1)] := hl
  generalize zAo F G sz = A at C0 hw hS ⊢
  obtain ⟨hx, hb, hml, hr, hown, hts, hK, hA, hlk, hN⟩ := id C0
  refine lv_iload_n hx hb dX11_status_0 rfl (lv_at hl 1 rfl) ?_
  by_cases c1 : x1 = 0
  · replace h := z_ifp c1 h
    refine z_top c1 ?_
    refine lv_tableIn (off := 43) (tgt := 44) hx hb dX11_status_1 (by decide) (by decide) rfl (by decide) ?_
    refine lv_aload_n hx hb dX11_status_44 rfl (lv_at hl 0 rfl) ?_
    refine z_getU C0 in_X11_status_X11 (C := RX11) (T := TX11) (N := 14) hw (k := 20) (ci := 11) (v := .ref (F 60)) rfl rfl rfl rfl 3 (by decide) rfl 1 rfl (Or.inl rfl) dX11_status_45 ?_
    refine z_getU C0 in_X11_status_X4 (C := RX4) (T := TX4) (N := 6) hw (k := 60) (ci := 4) (v := .int ((zsc S 60 3))) rfl rfl rfl rfl 3 (by decide) rfl 2 rfl (Or.inl rfl) dX11_status_48 ?_
    exact z_reti C0 hw hS (congrArg (fun z => (z, S)) (Option.some.inj h)) dX11_status_51
  · replace h := z_ifn c1 h
    by_cases c2 : x1 = 1
    · replace h := z_ifp c2 h
      refine z_top c2 ?_
      refine lv_tableIn (off := 51) (tgt := 52) hx hb dX11_status_1 (by decide) (by decide) rfl (by decide) ?_
      refine lv_aload_n hx hb dX11_status_52 rfl (lv_at hl 0 rfl) ?_
      refine z_getU C0 in_X11_status_X11 (C := RX11) (T := TX11) (N := 14) hw (k := 20) (ci := 11) (v := .ref (F 60)) rfl rfl rfl rfl 3 (by decide) rfl 1 rfl (Or.inl rfl) dX11_status_53 ?_
      obtain ⟨w3, ew3, h⟩ := z_bd h
      refine z_goi C0 hw hS (res := (w3, S)) (rest := []) (arr := (Value.ref (F 60) :: []).toArray) ?_ (fun H locs hw hS => ?_)
      · exact va_runV (z_fix C0) (c_X4_deadTotal l D Y F G S _ 0 (by decide) w3 ew3) (cwV 0 hts gX11_status_X4_deadTotal rfl rfl rfl (by decide +kernel) ⟨Nat.le_of_ble_eq_true rfl, Nat.le_of_ble_eq_true rfl⟩) ⟨zPc_blind, z_rv C0 hw (k := 60) rfl rfl rfl rfl, z_give C0 hw hS _⟩ rfl rfl hl.1 rfl (lv_room (Nat.le_of_ble_eq_true rfl)) dX11_status_56 ⟨Nat.zero_le _, Nat.zero_le _⟩
      exact z_reti C0 hw hS (congrArg (fun z => (z, S)) (Option.some.inj h)) dX11_status_59
    · replace h := z_ifn c2 h
      by_cases c4 : x1 = 2
      · replace h := z_ifp c4 h
        refine z_top c4 ?_
        refine lv_tableIn (off := 59) (tgt := 60) hx hb dX11_status_1 (by decide) (by decide) rfl (by decide) ?_
        refine lv_aload_n hx hb dX11_status_60 rfl (lv_at hl 0 rfl) ?_
        refine z_getU C0 in_X11_status_X11 (C := RX11) (T := TX11) (N := 14) hw (k := 20) (ci := 11) (v := .ref (F 60)) rfl rfl rfl rfl 3 (by decide) rfl 1 rfl (Or.inl rfl) dX11_status_61 ?_
        refine z_getU C0 in_X11_status_X4 (C := RX4) (T := TX4) (N := 6) hw (k := 60) (ci := 4) (v := .int ((zsc S 60 4))) rfl rfl rfl rfl 4 (by decide) rfl 3 rfl (Or.inl rfl) dX11_status_64 ?_
        exact z_reti C0 hw hS (congrArg (fun z => (z, S)) (Option.some.inj h)) dX11_status_67
      · replace h := z_ifn c4 h
        by_cases c5 : x1 = 3
        · replace h := z_ifp c5 h
          refine z_top c5 ?_
          refine lv_tableIn (off := 67) (tgt := 68) hx hb dX11_status_1 (by decide) (by decide) rfl (by decide) ?_
          refine lv_aload_n hx hb dX11_status_68 rfl (lv_at hl 0 rfl) ?_
          refine z_getU C0 in_X11_status_X11 (C := RX11) (T := TX11) (N := 14) hw (k := 20) (ci := 11) (v := .ref (F 60)) rfl rfl rfl rfl 3 (by decide) rfl 1 rfl (Or.inl rfl) dX11_status_69 ?_
          obtain ⟨w6, ew6, h⟩ := z_bd h
          refine z_goi C0 hw hS (res := (w6, S)) (rest := []) (arr := (Value.ref (F 60) :: []).toArray) ?_ (fun H locs hw hS => ?_)
          · exact va_runV (z_fix C0) (c_X4_strengthTotal l D Y F G S _ 0 (by decide) w6 ew6) (cwV 0 hts gX11_status_X4_strengthTotal rfl rfl rfl (by decide +kernel) ⟨Nat.le_of_ble_eq_true rfl, Nat.le_of_ble_eq_true rfl⟩) ⟨zPc_blind, z_rv C0 hw (k := 60) rfl rfl rfl rfl, z_give C0 hw hS _⟩ rfl rfl hl.1 rfl (lv_room (Nat.le_of_ble_eq_true rfl)) dX11_status_72 ⟨Nat.zero_le _, Nat.zero_le _⟩
          exact z_reti C0 hw hS (congrArg (fun z => (z, S)) (Option.some.inj h)) dX11_status_75
        · replace h := z_ifn c5 h
          by_cases c7 : x1 = 4
          · replace h := z_ifp c7 h
            refine z_top c7 ?_
            refine lv_tableIn (off := 75) (tgt := 76) hx hb dX11_status_1 (by decide) (by decide) rfl (by decide) ?_
            refine lv_aload_n hx hb dX11_status_76 rfl (lv_at hl 0 rfl) ?_
            refine z_getU C0 in_X11_status_X11 (C := RX11) (T := TX11) (N := 14) hw (k := 20) (ci := 11) (v := .ref (F 60)) rfl rfl rfl rfl 3 (by decide) rfl 1 rfl (Or.inl rfl) dX11_status_77 ?_
            obtain ⟨w8, ew8, h⟩ := z_bd h
            refine z_goi C0 hw hS (res := (w8, S)) (rest := []) (arr := (Value.ref (F 60) :: []).toArray) ?_ (fun H locs hw hS => ?_)
            · exact va_runV (z_fix C0) (c_X4_smearTotal l D Y F G S _ 0 (by decide) w8 ew8) (cwV 0 hts gX11_status_X4_smearTotal rfl rfl rfl (by decide +kernel) ⟨Nat.le_of_ble_eq_true rfl, Nat.le_of_ble_eq_true rfl⟩) ⟨zPc_blind, z_rv C0 hw (k := 60) rfl rfl rfl rfl, z_give C0 hw hS _⟩ rfl rfl hl.1 rfl (lv_room (Nat.le_of_ble_eq_true rfl)) dX11_status_80 ⟨Nat.zero_le _, Nat.zero_le _⟩
            exact z_reti C0 hw hS (congrArg (fun z => (z, S)) (Option.some.inj h)) dX11_status_83
          · replace h := z_ifn c7 h
            by_cases c9 : x1 = 5
            · replace h := z_ifp c9 h
              refine z_top c9 ?_
              refine lv_tableIn (off := 83) (tgt := 84) hx hb dX11_status_1 (by decide) (by decide) rfl (by decide) ?_
              refine lv_aload_n hx hb dX11_status_84 rfl (lv_at hl 0 rfl) ?_
              refine z_getU C0 in_X11_status_X11 (C := RX11) (T := TX11) (N := 14) hw (k := 20) (ci := 11) (v := .ref (F 60)) rfl rfl rfl rfl 3 (by decide) rfl 1 rfl (Or.inl rfl) dX11_status_85 ?_
              refine z_getU C0 in_X11_status_X4 (C := RX4) (T := TX4) (N := 6) hw (k := 60) (ci := 4) (v := .int ((zsc S 60 5))) rfl rfl rfl rfl 5 (by decide) rfl 4 rfl (Or.inl rfl) dX11_status_88 ?_
              exact z_reti C0 hw hS (congrArg (fun z => (z, S)) (Option.some.inj h)) dX11_status_91
            · replace h := z_ifn c9 h
              by_cases c10 : x1 = 6
              · replace h := z_ifp c10 h
                refine z_top c10 ?_
                refine lv_tableIn (off := 91) (tgt := 92) hx hb dX11_status_1 (by decide) (by decide) rfl (by decide) ?_
                refine lv_aload_n hx hb dX11_status_92 rfl (lv_at hl 0 rfl) ?_
                refine z_getU C0 in_X11_status_X11 (C := RX11) (T := TX11) (N := 14) hw (k := 20) (ci := 11) (v := .ref (F 56)) rfl rfl rfl rfl 2 (by decide) rfl 5 rfl (Or.inl rfl) dX11_status_93 ?_
                refine z_getU C0 in_X11_status_X9 (C := RX9) (T := TX9) (N := 2) hw (k := 56) (ci := 9) (v := .int ((zsc S 56 1))) rfl rfl rfl rfl 1 (by decide) rfl 6 rfl (Or.inl rfl) dX11_status_96 ?_
                exact z_reti C0 hw hS (congrArg (fun z => (z, S)) (Option.some.inj h)) dX11_status_99
              · replace h := z_ifn c10 h
                have nc1 : Int32.toInt x1 ≠ 0 := fun q => c1 (Int32.toInt_inj.mp (q.trans (by decide)))
                have nc2 : Int32.toInt x1 ≠ 1 := fun q => c2 (Int32.toInt_inj.mp (q.trans (by decide)))
                have nc4 : Int32.toInt x1 ≠ 2 := fun q => c4 (Int32.toInt_inj.mp (q.trans (by decide)))
                have nc5 : Int32.toInt x1 ≠ 3 := fun q => c5 (Int32.toInt_inj.mp (q.trans (by decide)))
                have nc7 : Int32.toInt x1 ≠ 4 := fun q => c7 (Int32.toInt_inj.mp (q.trans (by decide)))
                have nc9 : Int32.toInt x1 ≠ 5 := fun q => c9 (Int32.toInt_inj.mp (q.trans (by decide)))
                have nc10 : Int32.toInt x1 ≠ 6 := fun q => c10 (Int32.toInt_inj.mp (q.trans (by decide)))
                refine lv_tableOut (tgt := 100) hx hb dX11_status_1 (by omega) (by decide) ?_
                refine lv_iload_n hx hb dX11_status_100 rfl (lv_at hl 1 rfl) ?_
                refine lv_bipush (v := 11) hx hb dX11_status_101 (by decide) ?_
                refine lv_icmp_lt (tgt := 112) hx hb dX11_status_103 (by decide) (fun c11 => ?_) (fun c11 => ?_)
                · replace h := z_ifp c11 h
                  refine lv_iconst (v := (-1)) hx hb dX11_status_112 (by decide) ?_
                  refine lv_goto (tgt := 125) hx hb dX11_status_113 (by decide) ?_
                  exact z_reti C0 hw hS (congrArg (fun z => (z, S)) (Option.some.inj h)) dX11_status_125
                · replace h := z_ifn c11 h
                  refine lv_iload_n hx hb dX11_status_106 rfl (lv_at hl 1 rfl) ?_
                  refine lv_bipush (v := 17) hx hb dX11_status_107 (by decide) ?_
                  refine lv_icmp_le (tgt := 116) hx hb dX11_status_109 (by decide) (fun c12 => ?_) (fun c12 => ?_)
                  · replace h := z_ifp c12 h
                    refine lv_aload_n hx hb dX11_status_116 rfl (lv_at hl 0 rfl) ?_
                    refine z_getU C0 in_X11_status_X11 (C := RX11) (T := TX11) (N := 14) hw (k := 20) (ci := 11) (v := .ref (F 22)) rfl rfl rfl rfl 1 (by decide) rfl 7 rfl (Or.inl rfl) dX11_status_117 ?_
                    refine lv_iload_n hx hb dX11_status_120 rfl (lv_at hl 1 rfl) ?_
                    refine lv_bipush (v := 10) hx hb dX11_status_121 (by decide) ?_
                    refine lv_isub hx hb dX11_status_123 ?_
                    obtain ⟨b13, h⟩ := z_gd h
                    refine z_iald C0 hw 22 rfl rfl zri_22 (zin_in b13) dX11_status_124 ?_
                    exact z_reti C0 hw hS (congrArg (fun z => (z, S)) (Option.some.inj h)) dX11_status_125
                  · replace h := z_ifn c12 h
                    refine lv_iconst (v := (-1)) hx hb dX11_status_112 (by decide) ?_
                    refine lv_goto (tgt := 125) hx hb dX11_status_113 (by decide) ?_
                    exact z_reti C0 hw hS (congrArg (fun z => (z, S)) (Option.some.inj h)) dX11_status_125
