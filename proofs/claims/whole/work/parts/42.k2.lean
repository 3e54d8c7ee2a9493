set_option maxRecDepth 20000 in
theorem in_X11_bestFrom_X11 : ∀ w ∈ u_ws RX11 TX11 14, w ∈ wsX11_bestFrom := by decide +kernel
set_option maxRecDepth 20000 in
theorem in_X11_bestToAsk_X11 : ∀ w ∈ u_ws RX11 TX11 14, w ∈ wsX11_bestToAsk := by decide +kernel
set_option maxRecDepth 20000 in
theorem in_X11_bestWith_X11 : ∀ w ∈ u_ws RX11 TX11 14, w ∈ wsX11_bestWith := by decide +kernel
set_option maxRecDepth 20000 in
theorem in_X11_firstBest_X11 : ∀ w ∈ u_ws RX11 TX11 14, w ∈ wsX11_firstBest := by decide +kernel
set_option maxRecDepth 20000 in
theorem in_X11_got_X11 : ∀ w ∈ u_ws RX11 TX11 14, w ∈ wsX11_got := by decide +kernel
set_option maxRecDepth 20000 in
theorem in_X11_hasOfTold_X11 : ∀ w ∈ u_ws RX11 TX11 14, w ∈ wsX11_hasOfTold := by decide +kernel
set_option maxRecDepth 20000 in
theorem in_X11_hasOfTold_X4 : ∀ w ∈ u_ws RX4 TX4 6, w ∈ wsX11_hasOfTold := by decide +kernel
set_option maxRecDepth 20000 in
theorem in_X11_mend_X11 : ∀ w ∈ u_ws RX11 TX11 14, w ∈ wsX11_mend := by decide +kernel
set_option maxRecDepth 20000 in
theorem in_X11_mend_X4 : ∀ w ∈ u_ws RX4 TX4 6, w ∈ wsX11_mend := by decide +kernel
set_option maxRecDepth 20000 in
theorem in_X11_next_X11 : ∀ w ∈ u_ws RX11 TX11 14, w ∈ wsX11_next := by decide +kernel
set_option maxRecDepth 20000 in
theorem in_X11_odd_X11 : ∀ w ∈ u_ws RX11 TX11 14, w ∈ wsX11_odd := by decide +kernel
set_option maxRecDepth 20000 in
theorem in_X11_oddOf_X11 : ∀ w ∈ u_ws RX11 TX11 14, w ∈ wsX11_oddOf := by decide +kernel
set_option maxRecDepth 20000 in
theorem in_X11_oddOf_X4 : ∀ w ∈ u_ws RX4 TX4 6, w ∈ wsX11_oddOf := by decide +kernel
set_option maxRecDepth 20000 in
theorem in_X11_which_X11 : ∀ w ∈ u_ws RX11 TX11 14, w ∈ wsX11_which := by decide +kernel
set_option maxRecDepth 20000 in
theorem inP_X11_oddOf : ∀ w ∈ wsPers, w ∈ wsX11_oddOf := by decide +kernel
def M_X11_got_B41 (pk : Nat → Nat) (S : zSt) : Option (Int32 × zSt) :=
  Option.bind (M_X11_refuse pk S (-6)) (fun w6 => some (w6.1, w6.2))
set_option maxHeartbeats 4000000 in
set_option maxRecDepth 100000 in
theorem t_X11_got_B41 {p : Program} {l : Launch} {e : Env} {s : State} {m : MethodId} {args : Array Value} {below : List Frame} {meth : Method} {c : Code} {D : va_G} {Y : Nat → ClassId} {F : Nat → Nat} {A : Nat → Prop} {G : zG} (C0 : zCx p s m args meth c D Y F A RX11 cX11_got 5 (some .int) wsX11_got) (res : Int32 × zSt) : ∀ (S : zSt), M_X11_got_B41 (zpk G) S = some res → ∀ (H : Heap) (locs : List Loc) (ls : Array Slot), zH D Y F A G S H → va_S A s.heap H locs → lv_has ls 5 [(0, .ref (F 20))] → W p l e (zRm 4 88) s m args below meth c H locs 0 0 (MQ below (zQi D Y F A G res) args s 0 0 A) (F0 m 41 ls []) := by
  obtain ⟨hx, hb, hml, hr, hown, hts, hK, hA, hlk, hN⟩ := id C0
  intro S h H locs ls hw hS hl
  unfold M_X11_got_B41 at h
  refine lv_aload_n hx hb dX11_got_41 rfl (lv_at hl 0 rfl) ?_
  refine lv_bipush (v := (-6)) hx hb dX11_got_42 (by decide) ?_
  obtain ⟨w6, ew6, h⟩ := z_bd h
  refine z_goi C0 hw hS (res := w6) (rest := []) (arr := (Value.ref (F 20) :: [.int (-6)]).toArray) ?_ (fun H locs hw hS => ?_)
  · exact va_runV (z_fix C0) (c_X11_refuse l D Y F G S _ (-6) w6 ew6) (cwV 1 hts gX11_got_X11_refuse rfl rfl rfl (by decide +kernel) ⟨Nat.le_of_ble_eq_true rfl, Nat.le_of_ble_eq_true rfl⟩) ⟨zPc_blind, z_rv C0 hw (k := 20) rfl rfl rfl rfl, z_give C0 hw hS _⟩ rfl rfl hl.1 rfl (lv_room (Nat.le_of_ble_eq_true rfl)) dX11_got_44 ⟨Nat.zero_le _, Nat.zero_le _⟩
  exact z_reti C0 hw hS (Option.some.inj h) dX11_got_47
def M_X11_got (pk : Nat → Nat) (S : zSt) (x1 : Int32) (x2 : Int32) (x3 : Int32) : Option (Int32 × zSt) :=
  Option.bind (M_X4_personAt pk S 0 x1) (fun w1 => (zm w1 (Option.bind (M_X11_refuse pk S (-1)) (fun w3 => some (w3.1, w3.2))) (fun q2 => zg (zOKb pk q2) (Option.bind (M_X5_isLeft pk S q2 x2) (fun w4 => (if w4 = 0 then M_X11_got_B41 pk S else (if x3 < 1 then M_X11_got_B41 pk S else (if x3 ≤ 99 then Option.bind (M_X5_gotBy pk S q2 x2 x3) (fun w9 => some (w9, S)) else M_X11_got_B41 pk S))))))))
set_option maxHeartbeats 4000000 in
set_option maxRecDepth 100000 in
theorem c_X11_got (l : Launch) (D : va_G) (Y : Nat → ClassId) (F : Nat → Nat) (G : zG) (S : zSt) (sz : Nat) (x1 : Int32) (x2 : Int32) (x3 : Int32) (res : Int32 × zSt) (h : M_X11_got (zpk G) S x1 x2 x3 = some res) : Met l yX11_got wsX11_got (zRm 4 88) (zPc D Y F G S sz [.ref (F 20), .int x1, .int x2, .int x3]) (zQi D Y F (zAo F G sz) G res) 0 0 (zAo F G sz) := by
  unfold M_X11_got at h
  refine zMet (cc := cX11_got) (maxL := 5) (ret := (some .int)) (own := RX11) (by decide +kernel) rfl rfl (Nat.le_of_ble_eq_true rfl) ?_
  intro p e s m args below meth c C0 hin hw hS ls hl
  have hl : lv_has ls 5 [(0, .ref (F 20)), (1, .int x1), (2, .int x2), (3, .int x3)] := hl
  generalize zAo F G sz = A at C0 hw hS ⊢
  obtain ⟨hx, hb, hml, hr, hown, hts, hK, hA, hlk, hN⟩ := id C0
  refine lv_aload_n hx hb dX11_got_0 rfl (lv_at hl 0 rfl) ?_
  refine z_getU C0 in_X11_got_X11 (C := RX11) (T := TX11) (N := 14) hw (k := 20) (ci := 11) (v := .ref (F 60)) rfl rfl rfl rfl 3 (by decide) rfl 1 rfl (Or.inl rfl) dX11_got_1 ?_
  refine lv_iload_n hx hb dX11_got_4 rfl (lv_at hl 1 rfl) ?_
  obtain ⟨w1, ew1, h⟩ := z_bd h
  refine z_goq C0 hw hS (r0 := w1.map (zpa F G)) (rest := []) (arr := (Value.ref (F 60) :: [.int x1]).toArray) ?_ (fun H locs hw hS => ?_)
  · exact va_runV (z_fix C0) (c_X4_personAt l D Y F G S _ 0 (by decide) x1 w1 ew1) (cwV 1 hts gX11_got_X4_personAt rfl rfl rfl (by decide +kernel) ⟨Nat.le_of_ble_eq_true rfl, Nat.le_of_ble_eq_true rfl⟩) ⟨zPc_blind, z_rv C0 hw (k := 60) rfl rfl rfl rfl, z_give C0 hw hS _⟩ rfl rfl hl.1 rfl (lv_room (Nat.le_of_ble_eq_true rfl)) dX11_got_5 ⟨Nat.zero_le _, Nat.zero_le _⟩
  rcases w1 with _ | q2
  · replace h := zm_n h
    refine z_topv (y := .null) rfl ?_
    refine lv_astoreN (lv' := [(4, .null), (0, .ref (F 20)), (1, .int x1), (2, .int x2), (3, .int x3)]) hx hb dX11_got_8 hl (by decide) rfl (fun ls hl => ?_)
    refine lv_aloadN hx hb dX11_got_10 (lv_at hl 0 rfl) ?_
    refine lv_ifnonnullN hx hb dX11_got_12 ?_
    refine lv_aload_n hx hb dX11_got_15 rfl (lv_at hl 1 rfl) ?_
    refine lv_iconst (v := (-1)) hx hb dX11_got_16 (by decide) ?_
    obtain ⟨w3, ew3, h⟩ := z_bd h
    refine z_goi C0 hw hS (res := w3) (rest := []) (arr := (Value.ref (F 20) :: [.int (-1)]).toArray) ?_ (fun H locs hw hS => ?_)
    · exact va_runV (z_fix C0) (c_X11_refuse l D Y F G S _ (-1) w3 ew3) (cwV 1 hts gX11_got_X11_refuse rfl rfl rfl (by decide +kernel) ⟨Nat.le_of_ble_eq_true rfl, Nat.le_of_ble_eq_true rfl⟩) ⟨zPc_blind, z_rv C0 hw (k := 20) rfl rfl rfl rfl, z_give C0 hw hS _⟩ rfl rfl hl.1 rfl (lv_room (Nat.le_of_ble_eq_true rfl)) dX11_got_17 ⟨Nat.zero_le _, Nat.zero_le _⟩
    exact z_reti C0 hw hS (Option.some.inj h) dX11_got_20
  · replace h := zm_s h
    obtain ⟨bq2, h⟩ := z_gd h
    have hq2 := bq2
    refine z_topv (y := .ref (zad F G (100 + 4 * q2))) rfl ?_
    refine lv_astore (lv' := [(4, .ref (zad F G (100 + 4 * q2))), (0, .ref (F 20)), (1, .int x1), (2, .int x2), (3, .int x3)]) hx hb dX11_got_8 hl (by decide) rfl (fun ls hl => ?_)
    refine lv_aload hx hb dX11_got_10 (lv_at hl 0 rfl) ?_
    refine lv_ifnonnull (tgt := 21) hx hb dX11_got_12 (by decide) ?_
    refine lv_aload hx hb dX11_got_21 (lv_at hl 0 rfl) ?_
    refine lv_iload_n hx hb dX11_got_23 rfl (lv_at hl 3 rfl) ?_
    obtain ⟨w4, ew4, h⟩ := z_bd h
    refine z_goi C0 hw hS (res := (w4, S)) (rest := []) (arr := (Value.ref (zad F G (100 + 4 * q2)) :: [.int x2]).toArray) ?_ (fun H locs hw hS => ?_)
    · rcases zOK_cases hq2 with zz | zz | zz | zz | zz | zz | zz
      · exact va_runU (z_fix C0) (c_X5_isLeft l D Y F G S _ q2 hq2 x2 w4 ew4) (va_cwU 1 hts gX11_got_X5_isLeft_u181X0 rfl rfl rfl rfl (by decide +kernel) ⟨Nat.le_of_ble_eq_true rfl, Nat.le_of_ble_eq_true rfl⟩) ⟨zPc_blind, z_prec C0 hw hq2 (ci := 0) zz rfl, z_give C0 hw hS _⟩ rfl rfl hl.1 rfl (lv_room (Nat.le_of_ble_eq_true rfl)) dX11_got_24 ⟨Nat.zero_le _, Nat.zero_le _⟩
      · exact va_runU (z_fix C0) (c_X5_isLeft l D Y F G S _ q2 hq2 x2 w4 ew4) (va_cwU 1 hts gX11_got_X5_isLeft_u181X1 rfl rfl rfl rfl (by decide +kernel) ⟨Nat.le_of_ble_eq_true rfl, Nat.le_of_ble_eq_true rfl⟩) ⟨zPc_blind, z_prec C0 hw hq2 (ci := 1) zz rfl, z_give C0 hw hS _⟩ rfl rfl hl.1 rfl (lv_room (Nat.le_of_ble_eq_true rfl)) dX11_got_24 ⟨Nat.zero_le _, Nat.zero_le _⟩
      · exact va_runU (z_fix C0) (c_X5_isLeft l D Y F G S _ q2 hq2 x2 w4 ew4) (va_cwU 1 hts gX11_got_X5_isLeft_u181X2 rfl rfl rfl rfl (by decide +kernel) ⟨Nat.le_of_ble_eq_true rfl, Nat.le_of_ble_eq_true rfl⟩) ⟨zPc_blind, z_prec C0 hw hq2 (ci := 2) zz rfl, z_give C0 hw hS _⟩ rfl rfl hl.1 rfl (lv_room (Nat.le_of_ble_eq_true rfl)) dX11_got_24 ⟨Nat.zero_le _, Nat.zero_le _⟩
      · exact va_runU (z_fix C0) (c_X5_isLeft l D Y F G S _ q2 hq2 x2 w4 ew4) (va_cwU 1 hts gX11_got_X5_isLeft_u181X3 rfl rfl rfl rfl (by decide +kernel) ⟨Nat.le_of_ble_eq_true rfl, Nat.le_of_ble_eq_true rfl⟩) ⟨zPc_blind, z_prec C0 hw hq2 (ci := 3) zz rfl, z_give C0 hw hS _⟩ rfl rfl hl.1 rfl (lv_room (Nat.le_of_ble_eq_true rfl)) dX11_got_24 ⟨Nat.zero_le _, Nat.zero_le _⟩
      · exact va_runV (z_fix C0) (c_X5_isLeft l D Y F G S _ q2 hq2 x2 w4 ew4) (cwV 1 hts gX11_got_X5_isLeft rfl rfl rfl (by decide +kernel) ⟨Nat.le_of_ble_eq_true rfl, Nat.le_of_ble_eq_true rfl⟩) ⟨zPc_blind, z_prec C0 hw hq2 (ci := 5) zz rfl, z_give C0 hw hS _⟩ rfl rfl hl.1 rfl (lv_room (Nat.le_of_ble_eq_true rfl)) dX11_got_24 ⟨Nat.zero_le _, Nat.zero_le _⟩
      · exact va_runU (z_fix C0) (c_X5_isLeft l D Y F G S _ q2 hq2 x2 w4 ew4) (va_cwU 1 hts gX11_got_X5_isLeft_u181X8 rfl rfl rfl rfl (by decide +kernel) ⟨Nat.le_of_ble_eq_true rfl, Nat.le_of_ble_eq_true rfl⟩) ⟨zPc_blind, z_prec C0 hw hq2 (ci := 8) zz rfl, z_give C0 hw hS _⟩ rfl rfl hl.1 rfl (lv_room (Nat.le_of_ble_eq_true rfl)) dX11_got_24 ⟨Nat.zero_le _, Nat.zero_le _⟩
      · exact va_runU (z_fix C0) (c_X5_isLeft l D Y F G S _ q2 hq2 x2 w4 ew4) (va_cwU 1 hts gX11_got_X5_isLeft_u181X10 rfl rfl rfl rfl (by decide +kernel) ⟨Nat.le_of_ble_eq_true rfl, Nat.le_of_ble_eq_true rfl⟩) ⟨zPc_blind, z_prec C0 hw hq2 (ci := 10) zz rfl, z_give C0 hw hS _⟩ rfl rfl hl.1 rfl (lv_room (Nat.le_of_ble_eq_true rfl)) dX11_got_24 ⟨Nat.zero_le _, Nat.zero_le _⟩
    refine lv_if_eq (tgt := 41) hx hb dX11_got_27 (by decide) (fun c5 => ?_) (fun c5 => ?_)
    · replace h := z_ifp c5 h
      exact t_X11_got_B41 C0 res S h _ _ _ hw hS (lv_sub hl [1] rfl)
    · replace h := z_ifn c5 h
      refine lv_iload_n hx hb dX11_got_30 rfl (lv_at hl 4 rfl) ?_
      refine lv_iconst (v := 1) hx hb dX11_got_31 (by decide) ?_
      refine lv_icmp_lt (tgt := 41) hx hb dX11_got_32 (by decide) (fun c7 => ?_) (fun c7 => ?_)
      · replace h := z_ifp c7 h
        exact t_X11_got_B41 C0 res S h _ _ _ hw hS (lv_sub hl [1] rfl)
      · replace h := z_ifn c7 h
        refine lv_iload_n hx hb dX11_got_35 rfl (lv_at hl 4 rfl) ?_
        refine lv_bipush (v := 99) hx hb dX11_got_36 (by decide) ?_
        refine lv_icmp_le (tgt := 48) hx hb dX11_got_38 (by decide) (fun c8 => ?_) (fun c8 => ?_)
        · replace h := z_ifp c8 h
          refine lv_aload hx hb dX11_got_48 (lv_at hl 0 rfl) ?_
          refine lv_iload_n hx hb dX11_got_50 rfl (lv_at hl 3 rfl) ?_
          refine lv_iload_n hx hb dX11_got_51 rfl (lv_at hl 4 rfl) ?_
          obtain ⟨w9, ew9, h⟩ := z_bd h
          refine z_goi C0 hw hS (res := (w9, S)) (rest := []) (arr := (Value.ref (zad F G (100 + 4 * q2)) :: [.int x2, .int x3]).toArray) ?_ (fun H locs hw hS => ?_)
          · rcases zOK_cases hq2 with zz | zz | zz | zz | zz | zz | zz
            · exact va_runU (z_fix C0) (c_X5_gotBy l D Y F G S _ q2 hq2 x2 x3 w9 ew9) (va_cwU 2 hts gX11_got_X5_gotBy_u215X0 rfl rfl rfl rfl (by decide +kernel) ⟨Nat.le_of_ble_eq_true rfl, Nat.le_of_ble_eq_true rfl⟩) ⟨zPc_blind, z_prec C0 hw hq2 (ci := 0) zz rfl, z_give C0 hw hS _⟩ rfl rfl hl.1 rfl (lv_room (Nat.le_of_ble_eq_true rfl)) dX11_got_52 ⟨Nat.zero_le _, Nat.zero_le _⟩
            · exact va_runU (z_fix C0) (c_X5_gotBy l D Y F G S _ q2 hq2 x2 x3 w9 ew9) (va_cwU 2 hts gX11_got_X5_gotBy_u215X1 rfl rfl rfl rfl (by decide +kernel) ⟨Nat.le_of_ble_eq_true rfl, Nat.le_of_ble_eq_true rfl⟩) ⟨zPc_blind, z_prec C0 hw hq2 (ci := 1) zz rfl, z_give C0 hw hS _⟩ rfl rfl hl.1 rfl (lv_room (Nat.le_of_ble_eq_true rfl)) dX11_got_52 ⟨Nat.zero_le _, Nat.zero_le _⟩
            · exact va_runU (z_fix C0) (c_X5_gotBy l D Y F G S _ q2 hq2 x2 x3 w9 ew9) (va_cwU 2 hts gX11_got_X5_gotBy_u215X2 rfl rfl rfl rfl (by decide +kernel) ⟨Nat.le_of_ble_eq_true rfl, Nat.le_of_ble_eq_true rfl⟩) ⟨zPc_blind, z_prec C0 hw hq2 (ci := 2) zz rfl, z_give C0 hw hS _⟩ rfl rfl hl.1 rfl (lv_room (Nat.le_of_ble_eq_true rfl)) dX11_got_52 ⟨Nat.zero_le _, Nat.zero_le _⟩
            · exact va_runU (z_fix C0) (c_X5_gotBy l D Y F G S _ q2 hq2 x2 x3 w9 ew9) (va_cwU 2 hts gX11_got_X5_gotBy_u215X3 rfl rfl rfl rfl (by decide +kernel) ⟨Nat.le_of_ble_eq_true rfl, Nat.le_of_ble_eq_true rfl⟩) ⟨zPc_blind, z_prec C0 hw hq2 (ci := 3) zz rfl, z_give C0 hw hS _⟩ rfl rfl hl.1 rfl (lv_room (Nat.le_of_ble_eq_true rfl)) dX11_got_52 ⟨Nat.zero_le _, Nat.zero_le _⟩
            · exact va_runV (z_fix C0) (c_X5_gotBy l D Y F G S _ q2 hq2 x2 x3 w9 ew9) (cwV 2 hts gX11_got_X5_gotBy rfl rfl rfl (by decide +kernel) ⟨Nat.le_of_ble_eq_true rfl, Nat.le_of_ble_eq_true rfl⟩) ⟨zPc_blind, z_prec C0 hw hq2 (ci := 5) zz rfl, z_give C0 hw hS _⟩ rfl rfl hl.1 rfl (lv_room (Nat.le_of_ble_eq_true rfl)) dX11_got_52 ⟨Nat.zero_le _, Nat.zero_le _⟩
            · exact va_runU (z_fix C0) (c_X5_gotBy l D Y F G S _ q2 hq2 x2 x3 w9 ew9) (va_cwU 2 hts gX11_got_X5_gotBy_u215X8 rfl rfl rfl rfl (by decide +kernel) ⟨Nat.le_of_ble_eq_true rfl, Nat.le_of_ble_eq_true rfl⟩) ⟨zPc_blind, z_prec C0 hw hq2 (ci := 8) zz rfl, z_give C0 hw hS _⟩ rfl rfl hl.1 rfl (lv_room (Nat.le_of_ble_eq_true rfl)) dX11_got_52 ⟨Nat.zero_le _, Nat.zero_le _⟩
            · exact va_runU (z_fix C0) (c_X5_gotBy l D Y F G S _ q2 hq2 x2 x3 w9 ew9) (va_cwU 2 hts gX11_got_X5_gotBy_u215X10 rfl rfl rfl rfl (by decide +kernel) ⟨Nat.le_of_ble_eq_true rfl, Nat.le_of_ble_eq_true rfl⟩) ⟨zPc_blind, z_prec C0 hw hq2 (ci := 10) zz rfl, z_give C0 hw hS _⟩ rfl rfl hl.1 rfl (lv_room (Nat.le_of_ble_eq_true rfl)) dX11_got_52 ⟨Nat.zero_le _, Nat.zero_le _⟩
          exact z_reti C0 hw hS (Option.some.inj h) dX11_got_55
        · replace h := z_ifn c8 h
          exact t_X11_got_B41 C0 res S h _ _ _ hw hS (lv_sub hl [1] rfl)
def M_X11_which_B26 (pk : Nat → Nat) (S : zSt) (x6 : Int32) : Option (Int32 × zSt) :=
  Option.bind (M_X11_refuse pk S x6) (fun w4 => some (w4.1, w4.2))
set_option maxHeartbeats 4000000 in
set_option maxRecDepth 100000 in
theorem t_X11_which_B26 {p : Program} {l : Launch} {e : Env} {s : State} {m : MethodId} {args : Array Value} {below : List Frame} {meth : Method} {c : Code} {D : va_G} {Y : Nat → ClassId} {F : Nat → Nat} {A : Nat → Prop} {G : zG} (C0 : zCx p s m args meth c D Y F A RX11 cX11_which 8 (some .int) wsX11_which) (res : Int32 × zSt) : ∀ (S : zSt) (x6 : Int32), M_X11_which_B26 (zpk G) S x6 = some res → ∀ (H : Heap) (locs : List Loc) (ls : Array Slot), zH D Y F A G S H → va_S A s.heap H locs → lv_has ls 8 [(0, .ref (F 20)), (6, .int x6)] → W p l e (zRm 6 138) s m args below meth c H locs 0 0 (MQ below (zQi D Y F A G res) args s 0 0 A) (F0 m 26 ls []) := by
  obtain ⟨hx, hb, hml, hr, hown, hts, hK, hA, hlk, hN⟩ := id C0
  intro S x6 h H locs ls hw hS hl
  unfold M_X11_which_B26 at h
  refine lv_aload_n hx hb dX11_which_26 rfl (lv_at hl 0 rfl) ?_
  refine lv_iload hx hb dX11_which_27 (lv_at hl 1 rfl) ?_
  obtain ⟨w4, ew4, h⟩ := z_bd h
  refine z_goi C0 hw hS (res := w4) (rest := []) (arr := (Value.ref (F 20) :: [.int x6]).toArray) ?_ (fun H locs hw hS => ?_)
  · exact va_runV (z_fix C0) (c_X11_refuse l D Y F G S _ x6 w4 ew4) (cwV 1 hts gX11_which_X11_refuse rfl rfl rfl (by decide +kernel) ⟨Nat.le_of_ble_eq_true rfl, Nat.le_of_ble_eq_true rfl⟩) ⟨zPc_blind, z_rv C0 hw (k := 20) rfl rfl rfl rfl, z_give C0 hw hS _⟩ rfl rfl hl.1 rfl (lv_room (Nat.le_of_ble_eq_true rfl)) dX11_which_29 ⟨Nat.zero_le _, Nat.zero_le _⟩
  exact z_reti C0 hw hS (Option.some.inj h) dX11_which_32
def M_X11_which_B81 (pk : Nat → Nat) (S : zSt) : Option (Int32 × zSt) :=
  Option.bind (M_X11_refuse pk S (-5)) (fun w10 => some (w10.1, w10.2))
set_option maxHeartbeats 4000000 in
set_option maxRecDepth 100000 in
theorem t_X11_which_B81 {p : Program} {l : Launch} {e : Env} {s : State} {m : MethodId} {args : Array Value} {below : List Frame} {meth : Method} {c : Code} {D : va_G} {Y : Nat → ClassId} {F : Nat → Nat} {A : Nat → Prop} {G : zG} (C0 : zCx p s m args meth c D Y F A RX11 cX11_which 8 (some .int) wsX11_which) (res : Int32 × zSt) : ∀ (S : zSt), M_X11_which_B81 (zpk G) S = some res → ∀ (H : Heap) (locs : List Loc) (ls : Array Slot), zH D Y F A G S H → va_S A s.heap H locs → lv_has ls 8 [(0, .ref (F 20))] → W p l e (zRm 6 138) s m args below meth c H locs 0 0 (MQ below (zQi D Y F A G res) args s 0 0 A) (F0 m 81 ls []) := by
  obtain ⟨hx, hb, hml, hr, hown, hts, hK, hA, hlk, hN⟩ := id C0
  intro S h H locs ls hw hS hl
  unfold M_X11_which_B81 at h
  refine lv_aload_n hx hb dX11_which_81 rfl (lv_at hl 0 rfl) ?_
  refine lv_bipush (v := (-5)) hx hb dX11_which_82 (by decide) ?_
  obtain ⟨w10, ew10, h⟩ := z_bd h
  refine z_goi C0 hw hS (res := w10) (rest := []) (arr := (Value.ref (F 20) :: [.int (-5)]).toArray) ?_ (fun H locs hw hS => ?_)
  · exact va_runV (z_fix C0) (c_X11_refuse l D Y F G S _ (-5) w10 ew10) (cwV 1 hts gX11_which_X11_refuse rfl rfl rfl (by decide +kernel) ⟨Nat.le_of_ble_eq_true rfl, Nat.le_of_ble_eq_true rfl⟩) ⟨zPc_blind, z_rv C0 hw (k := 20) rfl rfl rfl rfl, z_give C0 hw hS _⟩ rfl rfl hl.1 rfl (lv_room (Nat.le_of_ble_eq_true rfl)) dX11_which_84 ⟨Nat.zero_le _, Nat.zero_le _⟩
  exact z_reti C0 hw hS (Option.some.inj h) dX11_which_87
def M_X11_which (pk : Nat → Nat) (S : zSt) (x1 : Int32) (x2 : Int32) (x3 : Int32) (x4 : Int32) : Option (Int32 × zSt) :=
  Option.bind (M_X11_shelfAt pk S x1) (fun w1 => (zm w1 (Option.bind (M_X11_refusalOfTold pk S none x2 x3) (fun w3 => M_X11_which_B26 pk S w3)) (fun q2 => zg (decide (q2 < 8)) (Option.bind (M_X11_refusalOfTold pk S (some q2) x2 x3) (fun w5 => (if w5 = 0 then Option.bind (M_X4_findFits pk S 0 q2 x2 x3) (fun w7 => (if x4 = (-1) then some (w7.1, w7.2) else (if x4 < 0 then M_X11_which_B81 pk w7.2 else (if w7.1 ≤ x4 then M_X11_which_B81 pk w7.2 else (if x4 < (Int32.ofNat 36) then zg (zin x4 36) (some ((zar w7.2 23 (Int32.toNatClampNeg x4)), w7.2)) else M_X11_which_B81 pk w7.2))))) else M_X11_which_B26 pk S w5))))))
set_option maxHeartbeats 4000000 in
set_option maxRecDepth 100000 in
theorem c_X11_which (l : Launch) (D : va_G) (Y : Nat → ClassId) (F : Nat → Nat) (G : zG) (S : zSt) (sz : Nat) (x1 : Int32) (x2 : Int32) (x3 : Int32) (x4 : Int32) (res : Int32 × zSt) (h : M_X11_which (zpk G) S x1 x2 x3 x4 = some res) : Met l yX11_which wsX11_which (zRm 6 138) (zPc D Y F G S sz [.ref (F 20), .int x1, .int x2, .int x3, .int x4]) (zQi D Y F (zAo F G sz) G res) 0 0 (zAo F G sz) := by
  unfold M_X11_which at h
  refine zMet (cc := cX11_which) (maxL := 8) (ret := (some .int)) (own := RX11) (by decide +kernel) rfl rfl (Nat.le_of_ble_eq_true rfl) ?_
  intro p e s m args below meth c C0 hin hw hS ls hl
  have hl : lv_has ls 8 [(0, .ref (F 20)), (1, .int x1), (2, .int x2), (3, .int x3), (4, .int x4)] := hl
  generalize zAo F G sz = A at C0 hw hS ⊢
  obtain ⟨hx, hb, hml, hr, hown, hts, hK, hA, hlk, hN⟩ := id C0
  refine lv_aload_n hx hb dX11_which_0 rfl (lv_at hl 0 rfl) ?_
  refine lv_iload_n hx hb dX11_which_1 rfl (lv_at hl 1 rfl) ?_
  obtain ⟨w1, ew1, h⟩ := z_bd h
  refine z_goq C0 hw hS (r0 := w1.map (zsa F G)) (rest := []) (arr := (Value.ref (F 20) :: [.int x1]).toArray) ?_ (fun H locs hw hS => ?_)
  · exact va_runV (z_fix C0) (c_X11_shelfAt l D Y F G S _ x1 w1 ew1) (cwV 1 hts gX11_which_X11_shelfAt rfl rfl rfl (by decide +kernel) ⟨Nat.le_of_ble_eq_true rfl, Nat.le_of_ble_eq_true rfl⟩) ⟨zPc_blind, z_rv C0 hw (k := 20) rfl rfl rfl rfl, z_give C0 hw hS _⟩ rfl rfl hl.1 rfl (lv_room (Nat.le_of_ble_eq_true rfl)) dX11_which_2 ⟨Nat.zero_le _, Nat.zero_le _⟩
  rcases w1 with _ | q2
  · replace h := zm_n h
    refine z_topv (y := .null) rfl ?_
    refine lv_astoreN (lv' := [(5, .null), (0, .ref (F 20)), (1, .int x1), (2, .int x2), (3, .int x3), (4, .int x4)]) hx hb dX11_which_5 hl (by decide) rfl (fun ls hl => ?_)
    refine lv_aloadN hx hb dX11_which_7 (lv_at hl 0 rfl) ?_
    refine lv_iload_n hx hb dX11_which_9 rfl (lv_at hl 3 rfl) ?_
    refine lv_iload_n hx hb dX11_which_10 rfl (lv_at hl 4 rfl) ?_
    obtain ⟨w3, ew3, h⟩ := z_bd h
    refine z_goi C0 hw hS (res := (w3, S)) (rest := []) (arr := ([.null, .int x2, .int x3] : List Value).toArray) ?_ (fun H locs hw hS => ?_)
    · exact va_runS (z_fix C0) (c_X11_refusalOfTold l D Y F G S _ none (fun _ h => nomatch h) x2 x3 w3 ew3) (va_cwS 3 hts gX11_which_X11_refusalOfTold rfl rfl rfl (by decide +kernel) ⟨Nat.le_of_ble_eq_true rfl, Nat.le_of_ble_eq_true rfl⟩) ⟨zPc_blind, z_give C0 hw hS _⟩ rfl rfl hl.1 rfl (lv_room (Nat.le_of_ble_eq_true rfl)) dX11_which_11 ⟨Nat.zero_le _, Nat.zero_le _⟩
    refine lv_istore (lv' := [(6, .int w3), (5, .null), (0, .ref (F 20)), (1, .int x1), (2, .int x2), (3, .int x3), (4, .int x4)]) hx hb dX11_which_14 hl (by decide) rfl (fun ls hl => ?_)
    refine lv_aloadN hx hb dX11_which_16 (lv_at hl 1 rfl) ?_
    refine lv_ifnullN (tgt := 26) hx hb dX11_which_18 (by decide) ?_
    exact t_X11_which_B26 C0 res S w3 h _ _ _ hw hS (lv_sub hl [2, 0] rfl)
  · replace h := zm_s h
    obtain ⟨bq2, h⟩ := z_gd h
    have hq2 : q2 < 8 := of_decide_eq_true bq2
    refine z_topv (y := .ref (zad F G (40 + 2 * q2))) rfl ?_
    refine lv_astore (lv' := [(5, .ref (zad F G (40 + 2 * q2))), (0, .ref (F 20)), (1, .int x1), (2, .int x2), (3, .int x3), (4, .int x4)]) hx hb dX11_which_5 hl (by decide) rfl (fun ls hl => ?_)
    refine lv_aload hx hb dX11_which_7 (lv_at hl 0 rfl) ?_
    refine lv_iload_n hx hb dX11_which_9 rfl (lv_at hl 3 rfl) ?_
    refine lv_iload_n hx hb dX11_which_10 rfl (lv_at hl 4 rfl) ?_
    obtain ⟨w5, ew5, h⟩ := z_bd h
    refine z_goi C0 hw hS (res := (w5, S)) (rest := []) (arr := ([.ref (zad F G (40 + 2 * q2)), .int x2, .int x3] : List Value).toArray) ?_ (fun H locs hw hS => ?_)
    · exact va_runS (z_fix C0) (c_X11_refusalOfTold l D Y F G S _ (some q2) (fun _ h => Option.some.inj h ▸ hq2) x2 x3 w5 ew5) (va_cwS 3 hts gX11_which_X11_refusalOfTold rfl rfl rfl (by decide +kernel) ⟨Nat.le_of_ble_eq_true rfl, Nat.le_of_ble_eq_true rfl⟩) ⟨zPc_blind, z_give C0 hw hS _⟩ rfl rfl hl.1 rfl (lv_room (Nat.le_of_ble_eq_true rfl)) dX11_which_11 ⟨Nat.zero_le _, Nat.zero_le _⟩
    refine lv_istore (lv' := [(6, .int w5), (5, .ref (zad F G (40 + 2 * q2))), (0, .ref (F 20)), (1, .int x1), (2, .int x2), (3, .int x3), (4, .int x4)]) hx hb dX11_which_14 hl (by decide) rfl (fun ls hl => ?_)
    refine lv_aload hx hb dX11_which_16 (lv_at hl 1 rfl) ?_
    refine lv_ifnull hx hb dX11_which_18 ?_
    refine lv_iload hx hb dX11_which_21 (lv_at hl 0 rfl) ?_
    refine lv_if_eq (tgt := 33) hx hb dX11_which_23 (by decide) (fun c6 => ?_) (fun c6 => ?_)
    · replace h := z_ifp c6 h
      refine lv_aload_n hx hb dX11_which_33 rfl (lv_at hl 2 rfl) ?_
      refine z_getU C0 in_X11_which_X11 (C := RX11) (T := TX11) (N := 14) hw (k := 20) (ci := 11) (v := .ref (F 60)) rfl rfl rfl rfl 3 (by decide) rfl 1 rfl (Or.inl rfl) dX11_which_34 ?_
      refine lv_aload hx hb dX11_which_37 (lv_at hl 1 rfl) ?_
      refine lv_iload_n hx hb dX11_which_39 rfl (lv_at hl 4 rfl) ?_
      refine lv_iload_n hx hb dX11_which_40 rfl (lv_at hl 5 rfl) ?_
      refine lv_aload_n hx hb dX11_which_41 rfl (lv_at hl 2 rfl) ?_
      refine z_getU C0 in_X11_which_X11 (C := RX11) (T := TX11) (N := 14) hw (k := 20) (ci := 11) (v := .ref (F 23)) rfl rfl rfl rfl 7 (by decide) rfl 2 rfl (Or.inl rfl) dX11_which_42 ?_
      obtain ⟨w7, ew7, h⟩ := z_bd h
      refine z_goi C0 hw hS (res := w7) (rest := []) (arr := (Value.ref (F 60) :: [.ref (zad F G (40 + 2 * q2)), .int x2, .int x3, .ref (F 23)]).toArray) ?_ (fun H locs hw hS => ?_)
      · exact va_runV (z_fix C0) (c_X4_findFits l D Y F G S _ 0 q2 (by decide) hq2 x2 x3 w7 ew7) (cwV 4 hts gX11_which_X4_findFits rfl rfl rfl (by decide +kernel) ⟨Nat.le_of_ble_eq_true rfl, Nat.le_of_ble_eq_true rfl⟩) ⟨zPc_blind, z_rv C0 hw (k := 60) rfl rfl rfl rfl, z_give C0 hw hS _⟩ rfl rfl hl.1 rfl (lv_room (Nat.le_of_ble_eq_true rfl)) dX11_which_45 ⟨Nat.zero_le _, Nat.zero_le _⟩
      refine lv_istore (lv' := [(7, .int w7.1), (6, .int w5), (5, .ref (zad F G (40 + 2 * q2))), (0, .ref (F 20)), (1, .int x1), (2, .int x2), (3, .int x3), (4, .int x4)]) hx hb dX11_which_48 hl (by decide) rfl (fun ls hl => ?_)
      refine lv_iload hx hb dX11_which_50 (lv_at hl 7 rfl) ?_
      refine lv_iconst (v := (-1)) hx hb dX11_which_52 (by decide) ?_
      refine lv_icmp_ne (tgt := 59) hx hb dX11_which_53 (by decide) (fun c8 => ?_) (fun c8 => ?_)
      · replace h := z_ifn c8 h
        refine lv_iload hx hb dX11_which_59 (lv_at hl 7 rfl) ?_
        refine lv_if_lt (tgt := 81) hx hb dX11_which_61 (by decide) (fun c9 => ?_) (fun c9 => ?_)
        · replace h := z_ifp c9 h
          exact t_X11_which_B81 C0 res w7.2 h _ _ _ hw hS (lv_sub hl [3] rfl)
        · replace h := z_ifn c9 h
          refine lv_iload hx hb dX11_which_64 (lv_at hl 7 rfl) ?_
          refine lv_iload hx hb dX11_which_66 (lv_at hl 0 rfl) ?_
          refine lv_icmp_ge (tgt := 81) hx hb dX11_which_68 (by decide) (fun c11 => ?_) (fun c11 => ?_)
          · replace h := z_ifp c11 h
            exact t_X11_which_B81 C0 res w7.2 h _ _ _ hw hS (lv_sub hl [3] rfl)
          · replace h := z_ifn c11 h
            refine lv_iload hx hb dX11_which_71 (lv_at hl 7 rfl) ?_
            refine lv_aload_n hx hb dX11_which_73 rfl (lv_at hl 3 rfl) ?_
            refine z_getU C0 in_X11_which_X11 (C := RX11) (T := TX11) (N := 14) hw (k := 20) (ci := 11) (v := .ref (F 23)) rfl rfl rfl rfl 7 (by decide) rfl 2 rfl (Or.inl rfl) dX11_which_74 ?_
            refine z_alen C0 hw 23 rfl rfl zri_23 (v := Int32.ofNat 36) rfl dX11_which_77 ?_
            refine lv_icmp_lt (tgt := 88) hx hb dX11_which_78 (by decide) (fun c12 => ?_) (fun c12 => ?_)
            · replace h := z_ifp c12 h
              refine lv_aload_n hx hb dX11_which_88 rfl (lv_at hl 3 rfl) ?_
              refine z_getU C0 in_X11_which_X11 (C := RX11) (T := TX11) (N := 14) hw (k := 20) (ci := 11) (v := .ref (F 23)) rfl rfl rfl rfl 7 (by decide) rfl 2 rfl (Or.inl rfl) dX11_which_89 ?_
              refine lv_iload hx hb dX11_which_92 (lv_at hl 7 rfl) ?_
              obtain ⟨b13, h⟩ := z_gd h
              refine z_iald C0 hw 23 rfl rfl zri_23 (zin_in b13) dX11_which_94 ?_
              exact z_reti C0 hw hS (Option.some.inj h) dX11_which_95
            · replace h := z_ifn c12 h
              exact t_X11_which_B81 C0 res w7.2 h _ _ _ hw hS (lv_sub hl [3] rfl)
      · replace h := z_ifp c8 h
        refine lv_iload hx hb dX11_which_56 (lv_at hl 0 rfl) ?_
        exact z_reti C0 hw hS (Option.some.inj h) dX11_which_58
    · replace h := z_ifn c6 h
      exact t_X11_which_B26 C0 res S w5 h _ _ _ hw hS (lv_sub hl [2, 0] rfl)
def M_X11_hasOfTold (pk : Nat → Nat) (S : zSt) (x1 : Int32) : Option (Int32) :=
  (if 0 ≤ x1 then Option.bind (M_X4_personAt pk S 0 ((x1 / 10))) (fun w2 => (zm w2 (some (-1)) (fun q3 => zg (zOKb pk q3) (Option.bind (M_X11_isCopy pk S ((x1 - x1 / 10 * 10))) (fun w4 => (if w4 = 0 then some (-1) else Option.bind (M_X5_hasBits pk S q3 ((x1 - x1 / 10 * 10)) ((zsc S 60 4))) (fun w6 => some w6))))))) else some (-1))
set_option maxHeartbeats 4000000 in
set_option maxRecDepth 100000 in
theorem c_X11_hasOfTold (l : Launch) (D : va_G) (Y : Nat → ClassId) (F : Nat → Nat) (G : zG) (S : zSt) (sz : Nat) (x1 : Int32) (res : Int32) (h : M_X11_hasOfTold (zpk G) S x1 = some res) : Met l yX11_hasOfTold wsX11_hasOfTold (zRm 3 66) (zPc D Y F G S sz [.ref (F 20), .int x1]) (zQi D Y F (zAo F G sz) G (res, S)) 0 0 (zAo F G sz) := by
  unfold M_X11_hasOfTold at h
  refine zMet (cc := cX11_hasOfTold) (maxL := 4) (ret := (some .int)) (own := RX11) (by decide +kernel) rfl rfl (Nat.le_of_ble_eq_true rfl) ?_
  intro p e s m args below meth c C0 hin hw hS ls hl
  have hl : lv_has ls 4 [(0, .ref (F 20)), (1, .int x1)] := hl
  generalize zAo F G sz = A at C0 hw hS ⊢
  obtain ⟨hx, hb, hml, hr, hown, hts, hK, hA, hlk, hN⟩ := id C0
  refine lv_iload_n hx hb dX11_hasOfTold_0 rfl (lv_at hl 1 rfl) ?_
  refine lv_if_ge (tgt := 6) hx hb dX11_hasOfTold_1 (by decide) (fun c1 => ?_) (fun c1 => ?_)
  · replace h := z_ifp c1 h
    refine lv_aload_n hx hb dX11_hasOfTold_6 rfl (lv_at hl 0 rfl) ?_
    refine z_getU C0 in_X11_hasOfTold_X11 (C := RX11) (T := TX11) (N := 14) hw (k := 20) (ci := 11) (v := .ref (F 60)) rfl rfl rfl rfl 3 (by decide) rfl 1 rfl (Or.inl rfl) dX11_hasOfTold_7 ?_
    refine lv_iload_n hx hb dX11_hasOfTold_10 rfl (lv_at hl 1 rfl) ?_
    refine lv_bipush (v := 10) hx hb dX11_hasOfTold_11 (by decide) ?_
    refine lv_idiv hx hb dX11_hasOfTold_13 (by decide) ?_
    obtain ⟨w2, ew2, h⟩ := z_bd h
    refine z_goq C0 hw hS (r0 := w2.map (zpa F G)) (rest := []) (arr := (Value.ref (F 60) :: [.int ((x1 / 10))]).toArray) ?_ (fun H locs hw hS => ?_)
    · exact va_runV (z_fix C0) (c_X4_personAt l D Y F G S _ 0 (by decide) ((x1 / 10)) w2 ew2) (cwV 1 hts gX11_hasOfTold_X4_personAt rfl rfl rfl (by decide +kernel) ⟨Nat.le_of_ble_eq_true rfl, Nat.le_of_ble_eq_true rfl⟩) ⟨zPc_blind, z_rv C0 hw (k := 60) rfl rfl rfl rfl, z_give C0 hw hS _⟩ rfl rfl hl.1 rfl (lv_room (Nat.le_of_ble_eq_true rfl)) dX11_hasOfTold_14 ⟨Nat.zero_le _, Nat.zero_le _⟩
    rcases w2 with _ | q3
    · replace h := zm_n h
      refine z_topv (y := .null) rfl ?_
      refine lv_astore_nN (lv' := [(2, .null), (0, .ref (F 20)), (1, .int x1)]) hx hb dX11_hasOfTold_17 rfl hl (by decide) rfl (fun ls hl => ?_)
      refine lv_iload_n hx hb dX11_hasOfTold_18 rfl (lv_at hl 2 rfl) ?_
      refine lv_bipush (v := 10) hx hb dX11_hasOfTold_19 (by decide) ?_
      refine lv_irem hx hb dX11_hasOfTold_21 (by decide) ?_
      refine lv_istore_n (lv' := [(3, .int ((x1 - x1 / 10 * 10))), (2, .null), (0, .ref (F 20)), (1, .int x1)]) hx hb dX11_hasOfTold_22 rfl hl (by decide) rfl (fun ls hl => ?_)
      refine lv_aload_nN hx hb dX11_hasOfTold_23 rfl (lv_at hl 1 rfl) ?_
      refine lv_ifnullN (tgt := 34) hx hb dX11_hasOfTold_24 (by decide) ?_
      refine lv_iconst (v := (-1)) hx hb dX11_hasOfTold_34 (by decide) ?_
      refine lv_goto (tgt := 50) hx hb dX11_hasOfTold_35 (by decide) ?_
      exact z_reti C0 hw hS (congrArg (fun z => (z, S)) (Option.some.inj h)) dX11_hasOfTold_50
    · replace h := zm_s h
      obtain ⟨bq3, h⟩ := z_gd h
      have hq3 := bq3
      refine z_topv (y := .ref (zad F G (100 + 4 * q3))) rfl ?_
      refine lv_astore_n (lv' := [(2, .ref (zad F G (100 + 4 * q3))), (0, .ref (F 20)), (1, .int x1)]) hx hb dX11_hasOfTold_17 rfl hl (by decide) rfl (fun ls hl => ?_)
      refine lv_iload_n hx hb dX11_hasOfTold_18 rfl (lv_at hl 2 rfl) ?_
      refine lv_bipush (v := 10) hx hb dX11_hasOfTold_19 (by decide) ?_
      refine lv_irem hx hb dX11_hasOfTold_21 (by decide) ?_
      refine lv_istore_n (lv' := [(3, .int ((x1 - x1 / 10 * 10))), (2, .ref (zad F G (100 + 4 * q3))), (0, .ref (F 20)), (1, .int x1)]) hx hb dX11_hasOfTold_22 rfl hl (by decide) rfl (fun ls hl => ?_)
      refine lv_aload_n hx hb dX11_hasOfTold_23 rfl (lv_at hl 1 rfl) ?_
      refine lv_ifnull hx hb dX11_hasOfTold_24 ?_
      refine lv_iload_n hx hb dX11_hasOfTold_27 rfl (lv_at hl 0 rfl) ?_
      obtain ⟨w4, ew4, h⟩ := z_bd h
      refine z_goi C0 hw hS (res := (w4, S)) (rest := []) (arr := ([.int ((x1 - x1 / 10 * 10))] : List Value).toArray) ?_ (fun H locs hw hS => ?_)
      · exact va_runS (z_fix C0) (c_X11_isCopy l D Y F G S _ ((x1 - x1 / 10 * 10)) w4 ew4) (va_cwS 1 hts gX11_hasOfTold_X11_isCopy rfl rfl rfl (by decide +kernel) ⟨Nat.le_of_ble_eq_true rfl, Nat.le_of_ble_eq_true rfl⟩) ⟨zPc_blind, z_give C0 hw hS _⟩ rfl rfl hl.1 rfl (lv_room (Nat.le_of_ble_eq_true rfl)) dX11_hasOfTold_28 ⟨Nat.zero_le _, Nat.zero_le _⟩
      refine lv_if_ne (tgt := 38) hx hb dX11_hasOfTold_31 (by decide) (fun c5 => ?_) (fun c5 => ?_)
      · replace h := z_ifn c5 h
        refine lv_aload_n hx hb dX11_hasOfTold_38 rfl (lv_at hl 1 rfl) ?_
        refine lv_iload_n hx hb dX11_hasOfTold_39 rfl (lv_at hl 0 rfl) ?_
        refine lv_aload_n hx hb dX11_hasOfTold_40 rfl (lv_at hl 2 rfl) ?_
        refine z_getU C0 in_X11_hasOfTold_X11 (C := RX11) (T := TX11) (N := 14) hw (k := 20) (ci := 11) (v := .ref (F 60)) rfl rfl rfl rfl 3 (by decide) rfl 1 rfl (Or.inl rfl) dX11_hasOfTold_41 ?_
        refine z_getU C0 in_X11_hasOfTold_X4 (C := RX4) (T := TX4) (N := 6) hw (k := 60) (ci := 4) (v := .int ((zsc S 60 4))) rfl rfl rfl rfl 4 (by decide) rfl 2 rfl (Or.inl rfl) dX11_hasOfTold_44 ?_
        obtain ⟨w6, ew6, h⟩ := z_bd h
        refine z_goi C0 hw hS (res := (w6, S)) (rest := []) (arr := (Value.ref (zad F G (100 + 4 * q3)) :: [.int ((x1 - x1 / 10 * 10)), .int ((zsc S 60 4))]).toArray) ?_ (fun H locs hw hS => ?_)
        · rcases zOK_cases hq3 with zz | zz | zz | zz | zz | zz | zz
          · exact va_runU (z_fix C0) (c_X5_hasBits l D Y F G S _ q3 hq3 ((x1 - x1 / 10 * 10)) ((zsc S 60 4)) w6 ew6) (va_cwU 2 hts gX11_hasOfTold_X5_hasBits_u177X0 rfl rfl rfl rfl (by decide +kernel) ⟨Nat.le_of_ble_eq_true rfl, Nat.le_of_ble_eq_true rfl⟩) ⟨zPc_blind, z_prec C0 hw hq3 (ci := 0) zz rfl, z_give C0 hw hS _⟩ rfl rfl hl.1 rfl (lv_room (Nat.le_of_ble_eq_true rfl)) dX11_hasOfTold_47 ⟨Nat.zero_le _, Nat.zero_le _⟩
          · exact va_runU (z_fix C0) (c_X5_hasBits l D Y F G S _ q3 hq3 ((x1 - x1 / 10 * 10)) ((zsc S 60 4)) w6 ew6) (va_cwU 2 hts gX11_hasOfTold_X5_hasBits_u177X1 rfl rfl rfl rfl (by decide +kernel) ⟨Nat.le_of_ble_eq_true rfl, Nat.le_of_ble_eq_true rfl⟩) ⟨zPc_blind, z_prec C0 hw hq3 (ci := 1) zz rfl, z_give C0 hw hS _⟩ rfl rfl hl.1 rfl (lv_room (Nat.le_of_ble_eq_true rfl)) dX11_hasOfTold_47 ⟨Nat.zero_le _, Nat.zero_le _⟩
          · exact va_runU (z_fix C0) (c_X5_hasBits l D Y F G S _ q3 hq3 ((x1 - x1 / 10 * 10)) ((zsc S 60 4)) w6 ew6) (va_cwU 2 hts gX11_hasOfTold_X5_hasBits_u177X2 rfl rfl rfl rfl (by decide +kernel) ⟨Nat.le_of_ble_eq_true rfl, Nat.le_of_ble_eq_true rfl⟩) ⟨zPc_blind, z_prec C0 hw hq3 (ci := 2) zz rfl, z_give C0 hw hS _⟩ rfl rfl hl.1 rfl (lv_room (Nat.le_of_ble_eq_true rfl)) dX11_hasOfTold_47 ⟨Nat.zero_le _, Nat.zero_le _⟩
          · exact va_runU (z_fix C0) (c_X5_hasBits l D Y F G S _ q3 hq3 ((x1 - x1 / 10 * 10)) ((zsc S 60 4)) w6 ew6) (va_cwU 2 hts gX11_hasOfTold_X5_hasBits_u177X3 rfl rfl rfl rfl (by decide +kernel) ⟨Nat.le_of_ble_eq_true rfl, Nat.le_of_ble_eq_true rfl⟩) ⟨zPc_blind, z_prec C0 hw hq3 (ci := 3) zz rfl, z_give C0 hw hS _⟩ rfl rfl hl.1 rfl (lv_room (Nat.le_of_ble_eq_true rfl)) dX11_hasOfTold_47 ⟨Nat.zero_le _, Nat.zero_le _⟩
          · exact va_runV (z_fix C0) (c_X5_hasBits l D Y F G S _ q3 hq3 ((x1 - x1 / 10 * 10)) ((zsc S 60 4)) w6 ew6) (cwV 2 hts gX11_hasOfTold_X5_hasBits rfl rfl rfl (by decide +kernel) ⟨Nat.le_of_ble_eq_true rfl, Nat.le_of_ble_eq_true rfl⟩) ⟨zPc_blind, z_prec C0 hw hq3 (ci := 5) zz rfl, z_give C0 hw hS _⟩ rfl rfl hl.1 rfl (lv_room (Nat.le_of_ble_eq_true rfl)) dX11_hasOfTold_47 ⟨Nat.zero_le _, Nat.zero_le _⟩
          · exact va_runU (z_fix C0) (c_X5_hasBits l D Y F G S _ q3 hq3 ((x1 - x1 / 10 * 10)) ((zsc S 60 4)) w6 ew6) (va_cwU 2 hts gX11_hasOfTold_X5_hasBits_u177X8 rfl rfl rfl rfl (by decide +kernel) ⟨Nat.le_of_ble_eq_true rfl, Nat.le_of_ble_eq_true rfl⟩) ⟨zPc_blind, z_prec C0 hw hq3 (ci := 8) zz rfl, z_give C0 hw hS _⟩ rfl rfl hl.1 rfl (lv_room (Nat.le_of_ble_eq_true rfl)) dX11_hasOfTold_47 ⟨Nat.zero_le _, Nat.zero_le _⟩
          · exact va_runU (z_fix C0) (c_X5_hasBits l D Y F G S _ q3 hq3 ((x1 - x1 / 10 * 10)) ((zsc S 60 4)) w6 ew6) (va_cwU 2 hts gX11_hasOfTold_X5_hasBits_u177X10 rfl rfl rfl rfl (by decide +kernel) ⟨Nat.le_of_ble_eq_true rfl, Nat.le_of_ble_eq_true rfl⟩) ⟨zPc_blind, z_prec C0 hw hq3 (ci := 10) zz rfl, z_give C0 hw hS _⟩ rfl rfl hl.1 rfl (lv_room (Nat.le_of_ble_eq_true rfl)) dX11_hasOfTold_47 ⟨Nat.zero_le _, Nat.zero_le _⟩
        exact z_reti C0 hw hS (congrArg (fun z => (z, S)) (Option.some.inj h)) dX11_hasOfTold_50
      · replace h := z_ifp c5 h
        refine lv_iconst (v := (-1)) hx hb dX11_hasOfTold_34 (by decide) ?_
        refine lv_goto (tgt := 50) hx hb dX11_hasOfTold_35 (by decide) ?_
        exact z_reti C0 hw hS (congrArg (fun z => (z, S)) (Option.some.inj h)) dX11_hasOfTold_50
  · replace h := z_ifn c1 h
    refine lv_iconst (v := (-1)) hx hb dX11_hasOfTold_4 (by decide) ?_
    exact z_reti C0 hw hS (congrArg (fun z => (z, S)) (Option.some.inj h)) dX11_hasOfTold_5
def M_X11_bestToAsk_B70 (pk : Nat → Nat) (S : zSt) (K10 : Int32 → Int32 → Int32 → Int32 → Option (Int32)) (x2 : Int32) (x3 : Int32) (x4 : Int32) (x5 : Int32) (x6 : Int32) : Option (Int32) :=
  Option.bind (some ((if x6 < (x2 - x6) then (x2 - x6) else x6))) (fun v3 => (if x4 ≤ v3 then K10 x2 x3 x4 ((x5 + 1)) else K10 x2 x5 v3 ((x5 + 1))))
set_option maxHeartbeats 4000000 in
set_option maxRecDepth 100000 in
theorem t_X11_bestToAsk_B70 {p : Program} {l : Launch} {e : Env} {s : State} {m : MethodId} {args : Array Value} {below : List Frame} {meth : Method} {c : Code} {D : va_G} {Y : Nat → ClassId} {F : Nat → Nat} {A : Nat → Prop} {G : zG} (C0 : zCx p s m args meth c D Y F A RX11 cX11_bestToAsk 9 (some .int) wsX11_bestToAsk) (S : zSt) (res : Int32) (K10 : Int32 → Int32 → Int32 → Int32 → Option (Int32)) (hK10 : ∀ (x2 : Int32) (x3 : Int32) (x4 : Int32) (x5 : Int32), K10 x2 x3 x4 x5 = some res → ∀ (H : Heap) (locs : List Loc) (ls : Array Slot), zH D Y F A G S H → va_S A s.heap H locs → lv_has ls 9 [(0, .ref (F 20)), (2, .int x2), (3, .int x3), (4, .int x4), (5, .int x5)] → W p l e (zRm 4 89) s m args below meth c H locs 0 0 (MQ below (zQi D Y F A G (res, S)) args s 0 0 A) (F0 m 10 ls [])) : ∀ (x2 : Int32) (x3 : Int32) (x4 : Int32) (x5 : Int32) (x6 : Int32), M_X11_bestToAsk_B70 (zpk G) S K10 x2 x3 x4 x5 x6 = some res → ∀ (H : Heap) (locs : List Loc) (ls : Array Slot), zH D Y F A G S H → va_S A s.heap H locs → lv_has ls 9 [(0, .ref (F 20)), (2, .int x2), (3, .int x3), (4, .int x4), (5, .int x5), (6, .int x6)] → W p l e (zRm 4 89) s m args below meth c H locs 0 0 (MQ below (zQi D Y F A G (res, S)) args s 0 0 A) (F0 m 70 ls []) := by
  obtain ⟨hx, hb, hml, hr, hown, hts, hK, hA, hlk, hN⟩ := id C0
  intro x2 x3 x4 x5 x6 h H locs ls hw hS hl
  unfold M_X11_bestToAsk_B70 at h
  refine lv_iload hx hb dX11_bestToAsk_70 (lv_at hl 5 rfl) ?_
  refine lv_iload_n hx hb dX11_bestToAsk_72 rfl (lv_at hl 1 rfl) ?_
  refine lv_iload hx hb dX11_bestToAsk_73 (lv_at hl 5 rfl) ?_
  refine lv_isub hx hb dX11_bestToAsk_75 ?_
  refine va_mmax hx hb (hml.trans hl.1.symm) hown (hts _ (List.mem_of_getElem? (i := 2) rfl)) (hts _ (List.mem_of_getElem? (i := 3) rfl)) (hts _ (List.mem_of_getElem? (i := 4) rfl)) (hts _ (List.mem_of_getElem? (i := 5) rfl)) (Nat.le_of_ble_eq_true rfl) (Nat.le_of_ble_eq_true rfl) (Nat.zero_le _) (Nat.zero_le _) dX11_bestToAsk_76 ?_
  obtain ⟨v3, ev3, h⟩ := z_bd h
  refine z_top (Option.some.inj ev3) ?_
  refine lv_istore (lv' := [(7, .int v3), (0, .ref (F 20)), (2, .int x2), (3, .int x3), (4, .int x4), (5, .int x5), (6, .int x6)]) hx hb dX11_bestToAsk_79 hl (by decide) rfl (fun ls hl => ?_)
  refine lv_iload hx hb dX11_bestToAsk_81 (lv_at hl 0 rfl) ?_
  refine lv_iload hx hb dX11_bestToAsk_83 (lv_at hl 4 rfl) ?_
  refine lv_icmp_ge (tgt := 95) hx hb dX11_bestToAsk_85 (by decide) (fun c4 => ?_) (fun c4 => ?_)
  · replace h := z_ifp c4 h
    refine lv_iinc (v := (x5 + 1)) (lv' := [(5, .int ((x5 + 1))), (7, .int v3), (0, .ref (F 20)), (2, .int x2), (3, .int x3), (4, .int x4), (6, .int x6)]) hx hb dX11_bestToAsk_95 hl (k := 5) rfl rfl (by decide) rfl (fun ls hl => ?_)
    refine lv_goto (tgt := 10) hx hb dX11_bestToAsk_98 (by decide) ?_
    exact hK10 x2 x3 x4 ((x5 + 1)) h _ _ _ hw hS (lv_sub hl [2, 3, 4, 5, 0] rfl)
  · replace h := z_ifn c4 h
    refine lv_iload hx hb dX11_bestToAsk_88 (lv_at hl 0 rfl) ?_
    refine lv_istore (lv' := [(4, .int v3), (7, .int v3), (0, .ref (F 20)), (2, .int x2), (3, .int x3), (5, .int x5), (6, .int x6)]) hx hb dX11_bestToAsk_90 hl (by decide) rfl (fun ls hl => ?_)
    refine lv_iload hx hb dX11_bestToAsk_92 (lv_at hl 5 rfl) ?_
    refine lv_istore_n (lv' := [(3, .int x5), (4, .int v3), (7, .int v3), (0, .ref (F 20)), (2, .int x2), (5, .int x5), (6, .int x6)]) hx hb dX11_bestToAsk_94 rfl hl (by decide) rfl (fun ls hl => ?_)
    refine lv_iinc (v := (x5 + 1)) (lv' := [(5, .int ((x5 + 1))), (3, .int x5), (4, .int v3), (7, .int v3), (0, .ref (F 20)), (2, .int x2), (6, .int x6)]) hx hb dX11_bestToAsk_95 hl (k := 5) rfl rfl (by decide) rfl (fun ls hl => ?_)
    refine lv_goto (tgt := 10) hx hb dX11_bestToAsk_98 (by decide) ?_
    exact hK10 x2 x5 v3 ((x5 + 1)) h _ _ _ hw hS (lv_sub hl [4, 5, 1, 2, 0] rfl)
def M_X11_bestToAsk_B23 (pk : Nat → Nat) (S : zSt) (K10 : Int32 → Int32 → Int32 → Int32 → Option (Int32)) : Nat → Int32 → Int32 → Int32 → Int32 → Int32 → Int32 → Option (Int32)
  | 0, _, _, _, _, _, _ => none
  | n + 1, x2, x3, x4, x5, x6, x7 =>
  (if x2 ≤ x7 then M_X11_bestToAsk_B70 pk S K10 x2 x3 x4 x5 x6 else (if (Int32.ofNat 36) ≤ x7 then M_X11_bestToAsk_B70 pk S K10 x2 x3 x4 x5 x6 else zg (zin x7 36) (Option.bind (M_X11_hasOfTold pk S ((zar S 23 (Int32.toNatClampNeg x7)))) (fun w7 => Option.bind (some ((x6 + ((w7 >>> (x5 &&& 31)) &&& 1)))) (fun v8 => M_X11_bestToAsk_B23 pk S K10 n x2 x3 x4 x5 v8 ((x7 + 1)))))))
set_option maxHeartbeats 4000000 in
set_option maxRecDepth 100000 in
theorem t_X11_bestToAsk_B23 {p : Program} {l : Launch} {e : Env} {s : State} {m : MethodId} {args : Array Value} {below : List Frame} {meth : Method} {c : Code} {D : va_G} {Y : Nat → ClassId} {F : Nat → Nat} {A : Nat → Prop} {G : zG} (C0 : zCx p s m args meth c D Y F A RX11 cX11_bestToAsk 9 (some .int) wsX11_bestToAsk) (S : zSt) (res : Int32) (K10 : Int32 → Int32 → Int32 → Int32 → Option (Int32)) (hK10 : ∀ (x2 : Int32) (x3 : Int32) (x4 : Int32) (x5 : Int32), K10 x2 x3 x4 x5 = some res → ∀ (H : Heap) (locs : List Loc) (ls : Array Slot), zH D Y F A G S H → va_S A s.heap H locs → lv_has ls 9 [(0, .ref (F 20)), (2, .int x2), (3, .int x3), (4, .int x4), (5, .int x5)] → W p l e (zRm 4 89) s m args below meth c H locs 0 0 (MQ below (zQi D Y F A G (res, S)) args s 0 0 A) (F0 m 10 ls [])) : ∀ (n : Nat), ∀ (x2 : Int32) (x3 : Int32) (x4 : Int32) (x5 : Int32) (x6 : Int32) (x7 : Int32), M_X11_bestToAsk_B23 (zpk G) S K10 n x2 x3 x4 x5 x6 x7 = some res → ∀ (H : Heap) (locs : List Loc) (ls : Array Slot), zH D Y F A G S H → va_S A s.heap H locs → lv_has ls 9 [(0, .ref (F 20)), (2, .int x2), (3, .int x3), (4, .int x4), (5, .int x5), (6, .int x6), (7, .int x7)] → W p l e (zRm 4 89) s m args below meth c H locs 0 0 (MQ below (zQi D Y F A G (res, S)) args s 0 0 A) (F0 m 23 ls []) := by
  obtain ⟨hx, hb, hml, hr, hown, hts, hK, hA, hlk, hN⟩ := id C0
  intro n
  induction n with
  | zero =>
    intro x2 x3 x4 x5 x6 x7 h
    unfold M_X11_bestToAsk_B23 at h
    cases h
  | succ n ih =>
    intro x2 x3 x4 x5 x6 x7 h H locs ls hw hS hl
    rw [M_X11_bestToAsk_B23] at h
    refine lv_iload hx hb dX11_bestToAsk_23 (lv_at hl 6 rfl) ?_
    refine lv_iload_n hx hb dX11_bestToAsk_25 rfl (lv_at hl 1 rfl) ?_
    refine lv_icmp_ge (tgt := 70) hx hb dX11_bestToAsk_26 (by decide) (fun c2 => ?_) (fun c2 => ?_)
    · replace h := z_ifp c2 h
      exact t_X11_bestToAsk_B70 C0 S res K10 hK10 x2 x3 x4 x5 x6 h _ _ _ hw hS (lv_sub hl [0, 1, 2, 3, 4, 5] rfl)
    · replace h := z_ifn c2 h
      refine lv_iload hx hb dX11_bestToAsk_29 (lv_at hl 6 rfl) ?_
      refine lv_aload_n hx hb dX11_bestToAsk_31 rfl (lv_at hl 0 rfl) ?_
      refine z_getU C0 in_X11_bestToAsk_X11 (C := RX11) (T := TX11) (N := 14) hw (k := 20) (ci := 11) (v := .ref (F 23)) rfl rfl rfl rfl 7 (by decide) rfl 1 rfl (Or.inl rfl) dX11_bestToAsk_32 ?_
      refine z_alen C0 hw 23 rfl rfl zri_23 (v := Int32.ofNat 36) rfl dX11_bestToAsk_35 ?_
      refine lv_icmp_ge (tgt := 70) hx hb dX11_bestToAsk_36 (by decide) (fun c5 => ?_) (fun c5 => ?_)
      · replace h := z_ifp c5 h
        exact t_X11_bestToAsk_B70 C0 S res K10 hK10 x2 x3 x4 x5 x6 h _ _ _ hw hS (lv_sub hl [0, 1, 2, 3, 4, 5] rfl)
      · replace h := z_ifn c5 h
        refine lv_aload_n hx hb dX11_bestToAsk_39 rfl (lv_at hl 0 rfl) ?_
        refine lv_aload_n hx hb dX11_bestToAsk_40 rfl (lv_at hl 0 rfl) ?_
        refine z_getU C0 in_X11_bestToAsk_X11 (C := RX11) (T := TX11) (N := 14) hw (k := 20) (ci := 11) (v := .ref (F 23)) rfl rfl rfl rfl 7 (by decide) rfl 1 rfl (Or.inl rfl) dX11_bestToAsk_41 ?_
        refine lv_iload hx hb dX11_bestToAsk_44 (lv_at hl 6 rfl) ?_
        obtain ⟨b6, h⟩ := z_gd h
        refine z_iald C0 hw 23 rfl rfl zri_23 (zin_in b6) dX11_bestToAsk_46 ?_
        obtain ⟨w7, ew7, h⟩ := z_bd h
        refine z_goi C0 hw hS (res := (w7, S)) (rest := []) (arr := (Value.ref (F 20) :: [.int ((zar S 23 (Int32.toNatClampNeg x7)))]).toArray) ?_ (fun H locs hw hS => ?_)
        · exact va_runV (z_fix C0) (c_X11_hasOfTold l D Y F G S _ ((zar S 23 (Int32.toNatClampNeg x7))) w7 ew7) (cwV 1 hts gX11_bestToAsk_X11_hasOfTold rfl rfl rfl (by decide +kernel) ⟨Nat.le_of_ble_eq_true rfl, Nat.le_of_ble_eq_true rfl⟩) ⟨zPc_blind, z_rv C0 hw (k := 20) rfl rfl rfl rfl, z_give C0 hw hS _⟩ rfl rfl hl.1 rfl (lv_room (Nat.le_of_ble_eq_true rfl)) dX11_bestToAsk_47 ⟨Nat.zero_le _, Nat.zero_le _⟩
        refine lv_istore (lv' := [(8, .int w7), (0, .ref (F 20)), (2, .int x2), (3, .int x3), (4, .int x4), (5, .int x5), (6, .int x6), (7, .int x7)]) hx hb dX11_bestToAsk_50 hl (by decide) rfl (fun ls hl => ?_)
        refine lv_iload hx hb dX11_bestToAsk_52 (lv_at hl 6 rfl) ?_
        refine lv_iload hx hb dX11_bestToAsk_54 (lv_at hl 0 rfl) ?_
        refine lv_iload hx hb dX11_bestToAsk_56 (lv_at hl 5 rfl) ?_
        refine lv_ishr hx hb dX11_bestToAsk_58 ?_
        refine lv_iconst (v := 1) hx hb dX11_bestToAsk_59 (by decide) ?_
        refine lv_iand hx hb dX11_bestToAsk_60 ?_
        refine lv_iadd hx hb dX11_bestToAsk_61 ?_
        obtain ⟨v8, ev8, h⟩ := z_bd h
        refine z_top (Option.some.inj ev8) ?_
        refine lv_istore (lv' := [(6, .int v8), (8, .int w7), (0, .ref (F 20)), (2, .int x2), (3, .int x3), (4, .int x4), (5, .int x5), (7, .int x7)]) hx hb dX11_bestToAsk_62 hl (by decide) rfl (fun ls hl => ?_)
        refine lv_iinc (v := (x7 + 1)) (lv' := [(7, .int ((x7 + 1))), (6, .int v8), (8, .int w7), (0, .ref (F 20)), (2, .int x2), (3, .int x3), (4, .int x4), (5, .int x5)]) hx hb dX11_bestToAsk_64 hl (k := 7) rfl rfl (by decide) rfl (fun ls hl => ?_)
        refine lv_goto (tgt := 23) hx hb dX11_bestToAsk_67 (by decide) ?_
        exact ih x2 x3 x4 x5 v8 ((x7 + 1)) h _ _ _ hw hS (lv_sub hl [3, 4, 5, 6, 7, 1, 0] rfl)
def M_X11_bestToAsk_B10 (pk : Nat → Nat) (S : zSt) : Nat → Int32 → Int32 → Int32 → Int32 → Option (Int32)
  | 0, _, _, _, _ => none
  | n + 1, x2, x3, x4, x5 =>
  (if 8 ≤ x5 then some x3 else M_X11_bestToAsk_B23 pk S (fun x2_ x3_ x4_ x5_ => M_X11_bestToAsk_B10 pk S n x2_ x3_ x4_ x5_) zF x2 x3 x4 x5 0 0)
set_option maxHeartbeats 4000000 in
set_option maxRecDepth 100000 in
theorem t_X11_bestToAsk_B10 {p : Program} {l : Launch} {e : Env} {s : State} {m : MethodId} {args : Array Value} {below : List Frame} {meth : Method} {c : Code} {D : va_G} {Y : Nat → ClassId} {F : Nat → Nat} {A : Nat → Prop} {G : zG} (C0 : zCx p s m args meth c D Y F A RX11 cX11_bestToAsk 9 (some .int) wsX11_bestToAsk) (S : zSt) (res : Int32) : ∀ (n : Nat), ∀ (x2 : Int32) (x3 : Int32) (x4 : Int32) (x5 : Int32), M_X11_bestToAsk_B10 (zpk G) S n x2 x3 x4 x5 = some res → ∀ (H : Heap) (locs : List Loc) (ls : Array Slot), zH D Y F A G S H → va_S A s.heap H locs → lv_has ls 9 [(0, .ref (F 20)), (2, .int x2), (3, .int x3), (4, .int x4), (5, .int x5)] → W p l e (zRm 4 89) s m args below meth c H locs 0 0 (MQ below (zQi D Y F A G (res, S)) args s 0 0 A) (F0 m 10 ls []) := by
  obtain ⟨hx, hb, hml, hr, hown, hts, hK, hA, hlk, hN⟩ := id C0
  intro n
  induction n with
  | zero =>
    intro x2 x3 x4 x5 h
    unfold M_X11_bestToAsk_B10 at h
    cases h
  | succ n ih =>
    intro x2 x3 x4 x5 h H locs ls hw hS hl
    rw [M_X11_bestToAsk_B10] at h
    refine lv_iload hx hb dX11_bestToAsk_10 (lv_at hl 4 rfl) ?_
    refine lv_bipush (v := 8) hx hb dX11_bestToAsk_12 (by decide) ?_
    refine lv_icmp_ge (tgt := 101) hx hb dX11_bestToAsk_14 (by decide) (fun c1 => ?_) (fun c1 => ?_)
    · replace h := z_ifp c1 h
      refine lv_iload_n hx hb dX11_bestToAsk_101 rfl (lv_at hl 2 rfl) ?_
      exact z_reti C0 hw hS (congrArg (fun z => (z, S)) (Option.some.inj h)) dX11_bestToAsk_102
    · replace h := z_ifn c1 h
      refine lv_iconst (v := 0) hx hb dX11_bestToAsk_17 (by decide) ?_
      refine lv_istore (lv' := [(6, .int 0), (0, .ref (F 20)), (2, .int x2), (3, .int x3), (4, .int x4), (5, .int x5)]) hx hb dX11_bestToAsk_18 hl (by decide) rfl (fun ls hl => ?_)
      refine lv_iconst (v := 0) hx hb dX11_bestToAsk_20 (by decide) ?_
      refine lv_istore (lv' := [(7, .int 0), (6, .int 0), (0, .ref (F 20)), (2, .int x2), (3, .int x3), (4, .int x4), (5, .int x5)]) hx hb dX11_bestToAsk_21 hl (by decide) rfl (fun ls hl => ?_)
      exact t_X11_bestToAsk_B23 C0 S res (fun x2_ x3_ x4_ x5_ => M_X11_bestToAsk_B10 (zpk G) S n x2_ x3_ x4_ x5_) ih zF x2 x3 x4 x5 0 0 h _ _ _ hw hS (lv_sub hl [2, 3, 4, 5, 6, 1, 0] rfl)
def M_X11_bestToAsk (pk : Nat → Nat) (S : zSt) (x1 : Int32) (x2 : Int32) : Option (Int32) :=
  M_X11_bestToAsk_B10 pk S zF x2 (-1) ((x2 + 1)) x1
set_option maxHeartbeats 4000000 in
set_option maxRecDepth 100000 in
theorem c_X11_bestToAsk (l : Launch) (D : va_G) (Y : Nat → ClassId) (F : Nat → Nat) (G : zG) (S : zSt) (sz : Nat) (x1 : Int32) (x2 : Int32) (res : Int32) (h : M_X11_bestToAsk (zpk G) S x1 x2 = some res) : Met l yX11_bestToAsk wsX11_bestToAsk (zRm 4 89) (zPc D Y F G S sz [.ref (F 20), .int x1, .int x2]) (zQi D Y F (zAo F G sz) G (res, S)) 0 0 (zAo F G sz) := by
  unfold M_X11_bestToAsk at h
  refine zMet (cc := cX11_bestToAsk) (maxL := 9) (ret := (some .int)) (own := RX11) (by decide +kernel) rfl rfl (Nat.le_of_ble_eq_true rfl) ?_
  intro p e s m args below meth c C0 hin hw hS ls hl
  have hl : lv_has ls 9 [(0, .ref (F 20)), (1, .int x1), (2, .int x2)] := hl
  generalize zAo F G sz = A at C0 hw hS ⊢
  obtain ⟨hx, hb, hml, hr, hown, hts, hK, hA, hlk, hN⟩ := id C0
  refine lv_iconst (v := (-1)) hx hb dX11_bestToAsk_0 (by decide) ?_
  refine lv_istore_n (lv' := [(3, .int (-1)), (0, .ref (F 20)), (1, .int x1), (2, .int x2)]) hx hb dX11_bestToAsk_1 rfl hl (by decide) rfl (fun ls hl => ?_)
  refine lv_iload_n hx hb dX11_bestToAsk_2 rfl (lv_at hl 3 rfl) ?_
  refine lv_iconst (v := 1) hx hb dX11_bestToAsk_3 (by decide) ?_
  refine lv_iadd hx hb dX11_bestToAsk_4 ?_
  refine lv_istore (lv' := [(4, .int ((x2 + 1))), (3, .int (-1)), (0, .ref (F 20)), (1, .int x1), (2, .int x2)]) hx hb dX11_bestToAsk_5 hl (by decide) rfl (fun ls hl => ?_)
  refine lv_iload_n hx hb dX11_bestToAsk_7 rfl (lv_at hl 3 rfl) ?_
  refine lv_istore (lv' := [(5, .int x1), (4, .int ((x2 + 1))), (3, .int (-1)), (0, .ref (F 20)), (1, .int x1), (2, .int x2)]) hx hb dX11_bestToAsk_8 hl (by decide) rfl (fun ls hl => ?_)
  exact t_X11_bestToAsk_B10 C0 S res zF x2 (-1) ((x2 + 1)) x1 h _ _ _ hw hS (lv_sub hl [3, 5, 2, 1, 0] rfl)
def M_X11_next_B26 (pk : Nat → Nat) (S : zSt) (x5 : Int32) : Option (Int32 × zSt) :=
  Option.bind (M_X11_refuseLess pk S x5 10) (fun w4 => some (w4.1, w4.2))
set_option maxHeartbeats 4000000 in
set_option maxRecDepth 100000 in
theorem t_X11_next_B26 {p : Program} {l : Launch} {e : Env} {s : State} {m : MethodId} {args : Array Value} {below : List Frame} {meth : Method} {c : Code} {D : va_G} {Y : Nat → ClassId} {F : Nat → Nat} {A : Nat → Prop} {G : zG} (C0 : zCx p s m args meth c D Y F A RX11 cX11_next 7 (some .int) wsX11_next) (res : Int32 × zSt) : ∀ (S : zSt) (x5 : Int32), M_X11_next_B26 (zpk G) S x5 = some res → ∀ (H : Heap) (locs : List Loc) (ls : Array Slot), zH D Y F A G S H → va_S A s.heap H locs → lv_has ls 7 [(0, .ref (F 20)), (5, .int x5)] → W p l e (zRm 6 138) s m args below meth c H locs 0 0 (MQ below (zQi D Y F A G res) args s 0 0 A) (F0 m 26 ls []) := by
  obtain ⟨hx, hb, hml, hr, hown, hts, hK, hA, hlk, hN⟩ := id C0
  intro S x5 h H locs ls hw hS hl
  unfold M_X11_next_B26 at h
  refine lv_aload_n hx hb dX11_next_26 rfl (lv_at hl 0 rfl) ?_
  refine lv_iload hx hb dX11_next_27 (lv_at hl 1 rfl) ?_
  refine lv_bipush (v := 10) hx hb dX11_next_29 (by decide) ?_
  obtain ⟨w4, ew4, h⟩ := z_bd h
  refine z_goi C0 hw hS (res := w4) (rest := []) (arr := (Value.ref (F 20) :: [.int x5, .int 10]).toArray) ?_ (fun H locs hw hS => ?_)
  · exact va_runV (z_fix C0) (c_X11_refuseLess l D Y F G S _ x5 10 w4 ew4) (cwV 2 hts gX11_next_X11_refuseLess rfl rfl rfl (by decide +kernel) ⟨Nat.le_of_ble_eq_true rfl, Nat.le_of_ble_eq_true rfl⟩) ⟨zPc_blind, z_rv C0 hw (k := 20) rfl rfl rfl rfl, z_give C0 hw hS _⟩ rfl rfl hl.1 rfl (lv_room (Nat.le_of_ble_eq_true rfl)) dX11_next_31 ⟨Nat.zero_le _, Nat.zero_le _⟩
  exact z_reti C0 hw hS (Option.some.inj h) dX11_next_34
def M_X11_next (pk : Nat → Nat) (S : zSt) (x1 : Int32) (x2 : Int32) (x3 : Int32) : Option (Int32 × zSt) :=
  Option.bind (M_X11_shelfAt pk S x1) (fun w1 => (zm w1 (Option.bind (M_X11_refusalOfTold pk S none x2 x3) (fun w3 => M_X11_next_B26 pk S w3)) (fun q2 => zg (decide (q2 < 8)) (Option.bind (M_X11_refusalOfTold pk S (some q2) x2 x3) (fun w5 => (if w5 = 0 then Option.bind (M_X4_findFits pk S 0 q2 x2 x3) (fun w7 => (if 2 ≤ w7.1 then Option.bind (M_X11_bestToAsk pk w7.2 x2 w7.1) (fun w9 => some (w9, w7.2)) else some ((-1), w7.2))) else M_X11_next_B26 pk S w5))))))
set_option maxHeartbeats 4000000 in
set_option maxRecDepth 100000 in
theorem c_X11_next (l : Launch) (D : va_G) (Y : Nat → ClassId) (F : Nat → Nat) (G : zG) (S : zSt) (sz : Nat) (x1 : Int32) (x2 : Int32) (x3 : Int32) (res : Int32 × zSt) (h : M_X11_next (zpk G) S x1 x2 x3 = some res) : Met l yX11_next wsX11_next (zRm 6 138) (zPc D Y F G S sz [.ref (F 20), .int x1, .int x2, .int x3]) (zQi D Y F (zAo F G sz) G res) 0 0 (zAo F G sz) := by
  unfold M_X11_next at h
  refine zMet (cc := cX11_next) (maxL := 7) (ret := (some .int)) (own := RX11) (by decide +kernel) rfl rfl (Nat.le_of_ble_eq_true rfl) ?_
  intro p e s m args below meth c C0 hin hw hS ls hl
  have hl : lv_has ls 7 [(0, .ref (F 20)), (1, .int x1), (2, .int x2), (3, .int x3)] := hl
  generalize zAo F G sz = A at C0 hw hS ⊢
  obtain ⟨hx, hb, hml, hr, hown, hts, hK, hA, hlk, hN⟩ := id C0
  refine lv_aload_n hx hb dX11_next_0 rfl (lv_at hl 0 rfl) ?_
  refine lv_iload_n hx hb dX11_next_1 rfl (lv_at hl 1 rfl) ?_
  obtain ⟨w1, ew1, h⟩ := z_bd h
  refine z_goq C0 hw hS (r0 := w1.map (zsa F G)) (rest := []) (arr := (Value.ref (F 20) :: [.int x1]).toArray) ?_ (fun H locs hw hS => ?_)
  · exact va_runV (z_fix C0) (c_X11_shelfAt l D Y F G S _ x1 w1 ew1) (cwV 1 hts gX11_next_X11_shelfAt rfl rfl rfl (by decide +kernel) ⟨Nat.le_of_ble_eq_true rfl, Nat.le_of_ble_eq_true rfl⟩) ⟨zPc_blind, z_rv C0 hw (k := 20) rfl rfl rfl rfl, z_give C0 hw hS _⟩ rfl rfl hl.1 rfl (lv_room (Nat.le_of_ble_eq_true rfl)) dX11_next_2 ⟨Nat.zero_le _, Nat.zero_le _⟩
  rcases w1 with _ | q2
  · replace h := zm_n h
    refine z_topv (y := .null) rfl ?_
    refine lv_astoreN (lv' := [(4, .null), (0, .ref (F 20)), (1, .int x1), (2, .int x2), (3, .int x3)]) hx hb dX11_next_5 hl (by decide) rfl (fun ls hl => ?_)
    refine lv_aloadN hx hb dX11_next_7 (lv_at hl 0 rfl) ?_
    refine lv_iload_n hx hb dX11_next_9 rfl (lv_at hl 3 rfl) ?_
    refine lv_iload_n hx hb dX11_next_10 rfl (lv_at hl 4 rfl) ?_
    obtain ⟨w3, ew3, h⟩ := z_bd h
    refine z_goi C0 hw hS (res := (w3, S)) (rest := []) (arr := ([.null, .int x2, .int x3] : List Value).toArray) ?_ (fun H locs hw hS => ?_)
    · exact va_runS (z_fix C0) (c_X11_refusalOfTold l D Y F G S _ none (fun _ h => nomatch h) x2 x3 w3 ew3) (va_cwS 3 hts gX11_next_X11_refusalOfTold rfl rfl rfl (by decide +kernel) ⟨Nat.le_of_ble_eq_true rfl, Nat.le_of_ble_eq_true rfl⟩) ⟨zPc_blind, z_give C0 hw hS _⟩ rfl rfl hl.1 rfl (lv_room (Nat.le_of_ble_eq_true rfl)) dX11_next_11 ⟨Nat.zero_le _, Nat.zero_le _⟩
    refine lv_istore (lv' := [(5, .int w3), (4, .null), (0, .ref (F 20)), (1, .int x1), (2, .int x2), (3, .int x3)]) hx hb dX11_next_14 hl (by decide) rfl (fun ls hl => ?_)
    refine lv_aloadN hx hb dX11_next_16 (lv_at hl 1 rfl) ?_
    refine lv_ifnullN (tgt := 26) hx hb dX11_next_18 (by decide) ?_
    exact t_X11_next_B26 C0 res S w3 h _ _ _ hw hS (lv_sub hl [2, 0] rfl)
  · replace h := zm_s h
    obtain ⟨bq2, h⟩ := z_gd h
    have hq2 : q2 < 8 := of_decide_eq_true bq2
    refine z_topv (y := .ref (zad F G (40 + 2 * q2))) rfl ?_
    refine lv_astore (lv' := [(4, .ref (zad F G (40 + 2 * q2))), (0, .ref (F 20)), (1, .int x1), (2, .int x2), (3, .int x3)]) hx hb dX11_next_5 hl (by decide) rfl (fun ls hl => ?_)
    refine lv_aload hx hb dX11_next_7 (lv_at hl 0 rfl) ?_
    refine lv_iload_n hx hb dX11_next_9 rfl (lv_at hl 3 rfl) ?_
    refine lv_iload_n hx hb dX11_next_10 rfl (lv_at hl 4 rfl) ?_
    obtain ⟨w5, ew5, h⟩ := z_bd h
    refine z_goi C0 hw hS (res := (w5, S)) (rest := []) (arr := ([.ref (zad F G (40 + 2 * q2)), .int x2, .int x3] : List Value).toArray) ?_ (fun H locs hw hS => ?_)
    · exact va_runS (z_fix C0) (c_X11_refusalOfTold l D Y F G S _ (some q2) (fun _ h => Option.some.inj h ▸ hq2) x2 x3 w5 ew5) (va_cwS 3 hts gX11_next_X11_refusalOfTold rfl rfl rfl (by decide +kernel) ⟨Nat.le_of_ble_eq_true rfl, Nat.le_of_ble_eq_true rfl⟩) ⟨zPc_blind, z_give C0 hw hS _⟩ rfl rfl hl.1 rfl (lv_room (Nat.le_of_ble_eq_true rfl)) dX11_next_11 ⟨Nat.zero_le _, Nat.zero_le _⟩
    refine lv_istore (lv' := [(5, .int w5), (4, .ref (zad F G (40 + 2 * q2))), (0, .ref (F 20)), (1, .int x1), (2, .int x2), (3, .int x3)]) hx hb dX11_next_14 hl (by decide) rfl (fun ls hl => ?_)
    refine lv_aload hx hb dX11_next_16 (lv_at hl 1 rfl) ?_
    refine lv_ifnull hx hb dX11_next_18 ?_
    refine lv_iload hx hb dX11_next_21 (lv_at hl 0 rfl) ?_
    refine lv_if_eq (tgt := 35) hx hb dX11_next_23 (by decide) (fun c6 => ?_) (fun c6 => ?_)
    · replace h := z_ifp c6 h
      refine lv_aload_n hx hb dX11_next_35 rfl (lv_at hl 2 rfl) ?_
      refine z_getU C0 in_X11_next_X11 (C := RX11) (T := TX11) (N := 14) hw (k := 20) (ci := 11) (v := .ref (F 60)) rfl rfl rfl rfl 3 (by decide) rfl 1 rfl (Or.inl rfl) dX11_next_36 ?_
      refine lv_aload hx hb dX11_next_39 (lv_at hl 1 rfl) ?_
      refine lv_iload_n hx hb dX11_next_41 rfl (lv_at hl 4 rfl) ?_
      refine lv_iload_n hx hb dX11_next_42 rfl (lv_at hl 5 rfl) ?_
      refine lv_aload_n hx hb dX11_next_43 rfl (lv_at hl 2 rfl) ?_
      refine z_getU C0 in_X11_next_X11 (C := RX11) (T := TX11) (N := 14) hw (k := 20) (ci := 11) (v := .ref (F 23)) rfl rfl rfl rfl 7 (by decide) rfl 2 rfl (Or.inl rfl) dX11_next_44 ?_
      obtain ⟨w7, ew7, h⟩ := z_bd h
      refine z_goi C0 hw hS (res := w7) (rest := []) (arr := (Value.ref (F 60) :: [.ref (zad F G (40 + 2 * q2)), .int x2, .int x3, .ref (F 23)]).toArray) ?_ (fun H locs hw hS => ?_)
      · exact va_runV (z_fix C0) (c_X4_findFits l D Y F G S _ 0 q2 (by decide) hq2 x2 x3 w7 ew7) (cwV 4 hts gX11_next_X4_findFits rfl rfl rfl (by decide +kernel) ⟨Nat.le_of_ble_eq_true rfl, Nat.le_of_ble_eq_true rfl⟩) ⟨zPc_blind, z_rv C0 hw (k := 60) rfl rfl rfl rfl, z_give C0 hw hS _⟩ rfl rfl hl.1 rfl (lv_room (Nat.le_of_ble_eq_true rfl)) dX11_next_47 ⟨Nat.zero_le _, Nat.zero_le _⟩
      refine lv_istore (lv' := [(6, .int w7.1), (5, .int w5), (4, .ref (zad F G (40 + 2 * q2))), (0, .ref (F 20)), (1, .int x1), (2, .int x2), (3, .int x3)]) hx hb dX11_next_50 hl (by decide) rfl (fun ls hl => ?_)
      refine lv_iload hx hb dX11_next_52 (lv_at hl 0 rfl) ?_
      refine lv_iconst (v := 2) hx hb dX11_next_54 (by decide) ?_
      refine lv_icmp_ge (tgt := 62) hx hb dX11_next_55 (by decide) (fun c8 => ?_) (fun c8 => ?_)
      · replace h := z_ifp c8 h
        refine lv_aload_n hx hb dX11_next_62 rfl (lv_at hl 3 rfl) ?_
        refine lv_iload_n hx hb dX11_next_63 rfl (lv_at hl 5 rfl) ?_
        refine lv_iload hx hb dX11_next_64 (lv_at hl 0 rfl) ?_
        obtain ⟨w9, ew9, h⟩ := z_bd h
        refine z_goi C0 hw hS (res := (w9, w7.2)) (rest := []) (arr := (Value.ref (F 20) :: [.int x2, .int w7.1]).toArray) ?_ (fun H locs hw hS => ?_)
        · exact va_runV (z_fix C0) (c_X11_bestToAsk l D Y F G w7.2 _ x2 w7.1 w9 ew9) (cwV 2 hts gX11_next_X11_bestToAsk rfl rfl rfl (by decide +kernel) ⟨Nat.le_of_ble_eq_true rfl, Nat.le_of_ble_eq_true rfl⟩) ⟨zPc_blind, z_rv C0 hw (k := 20) rfl rfl rfl rfl, z_give C0 hw hS _⟩ rfl rfl hl.1 rfl (lv_room (Nat.le_of_ble_eq_true rfl)) dX11_next_66 ⟨Nat.zero_le _, Nat.zero_le _⟩
        exact z_reti C0 hw hS (Option.some.inj h) dX11_next_69
      · replace h := z_ifn c8 h
        refine lv_iconst (v := (-1)) hx hb dX11_next_58 (by decide) ?_
        refine lv_goto (tgt := 69) hx hb dX11_next_59 (by decide) ?_
        exact z_reti C0 hw hS (Option.some.inj h) dX11_next_69
    · replace h := z_ifn c6 h
      exact t_X11_next_B26 C0 res S w5 h _ _ _ hw hS (lv_sub hl [2, 0] rfl)
def M_X11_unlike_B24 (pk : Nat → Nat) (S : zSt) : Option (Int32 × zSt) :=
  Option.bind (M_X11_refuse pk S (-6)) (fun w4 => some (w4.1, w4.2))
set_option maxHeartbeats 4000000 in
set_option maxRecDepth 100000 in
theorem t_X11_unlike_B24 {p : Program} {l : Launch} {e : Env} {s : State} {m : MethodId} {args : Array Value} {below : List Frame} {meth : Method} {c : Code} {D : va_G} {Y : Nat → ClassId} {F : Nat → Nat} {A : Nat → Prop} {G : zG} (C0 : zCx p s m args meth c D Y F A RX11 cX11_unlike 5 (some .int) wsX11_unlike) (res : Int32 × zSt) : ∀ (S : zSt), M_X11_unlike_B24 (zpk G) S = some res → ∀ (H : Heap) (locs : List Loc) (ls : Array Slot), zH D Y F A G S H → va_S A s.heap H locs → lv_has ls 5 [(0, .ref (F 20))] → W p l e (zRm 4 89) s m args below meth c H locs 0 0 (MQ below (zQi D Y F A G res) args s 0 0 A) (F0 m 24 ls []) := by
  obtain ⟨hx, hb, hml, hr, hown, hts, hK, hA, hlk, hN⟩ := id C0
  intro S h H locs ls hw hS hl
  unfold M_X11_unlike_B24 at h
  refine lv_aload_n hx hb dX11_unlike_24 rfl (lv_at hl 0 rfl) ?_
  refine lv_bipush (v := (-6)) hx hb dX11_unlike_25 (by decide) ?_
  obtain ⟨w4, ew4, h⟩ := z_bd h
  refine z_goi C0 hw hS (res := w4) (rest := []) (arr := (Value.ref (F 20) :: [.int (-6)]).toArray) ?_ (fun H locs hw hS => ?_)
  · exact va_runV (z_fix C0) (c_X11_refuse l D Y F G S _ (-6) w4 ew4) (cwV 1 hts gX11_unlike_X11_refuse rfl rfl rfl (by decide +kernel) ⟨Nat.le_of_ble_eq_true rfl, Nat.le_of_ble_eq_true rfl⟩) ⟨zPc_blind, z_rv C0 hw (k := 20) rfl rfl rfl rfl, z_give C0 hw hS _⟩ rfl rfl hl.1 rfl (lv_room (Nat.le_of_ble_eq_true rfl)) dX11_unlike_27 ⟨Nat.zero_le _, Nat.zero_le _⟩
  exact z_reti C0 hw hS (Option.some.inj h) dX11_unlike_30
def M_X11_unlike (pk : Nat → Nat) (S : zSt) (x1 : Int32) (x2 : Int32) : Option (Int32 × zSt) :=
  Option.bind (M_X11_hasOfTold pk S x1) (fun w1 => Option.bind (M_X11_hasOfTold pk S x2) (fun w2 => (if w1 = (-1) then M_X11_unlike_B24 pk S else (if w2 = (-1) then M_X11_unlike_B24 pk S else Option.bind (M_J6_bitCount_0f7a4 S ((w1 ^^^ w2))) (fun w6 => some (w6, S))))))
set_option maxHeartbeats 4000000 in
set_option maxRecDepth 100000 in
theorem c_X11_unlike (l : Launch) (D : va_G) (Y : Nat → ClassId) (F : Nat → Nat) (G : zG) (S : zSt) (sz : Nat) (x1 : Int32) (x2 : Int32) (res : Int32 × zSt) (h : M_X11_unlike (zpk G) S x1 x2 = some res) : Met l yX11_unlike wsX11_unlike (zRm 4 89) (zPc D Y F G S sz [.ref (F 20), .int x1, .int x2]) (zQi D Y F (zAo F G sz) G res) 0 0 (zAo F G sz) := by
  unfold M_X11_unlike at h
  refine zMet (cc := cX11_unlike) (maxL := 5) (ret := (some .int)) (own := RX11) (by decide +kernel) rfl rfl (Nat.le_of_ble_eq_true rfl) ?_
  intro p e s m args below meth c C0 hin hw hS ls hl
  have hl : lv_has ls 5 [(0, .ref (F 20)), (1, .int x1), (2, .int x2)] := hl
  generalize zAo F G sz = A at C0 hw hS ⊢
  obtain ⟨hx, hb, hml, hr, hown, hts, hK, hA, hlk, hN⟩ := id C0
  refine lv_aload_n hx hb dX11_unlike_0 rfl (lv_at hl 0 rfl) ?_
  refine lv_iload_n hx hb dX11_unlike_1 rfl (lv_at hl 1 rfl) ?_
  obtain ⟨w1, ew1, h⟩ := z_bd h
  refine z_goi C0 hw hS (res := (w1, S)) (rest := []) (arr := (Value.ref (F 20) :: [.int x1]).toArray) ?_ (fun H locs hw hS => ?_)
  · exact va_runV (z_fix C0) (c_X11_hasOfTold l D Y F G S _ x1 w1 ew1) (cwV 1 hts gX11_unlike_X11_hasOfTold rfl rfl rfl (by decide +kernel) ⟨Nat.le_of_ble_eq_true rfl, Nat.le_of_ble_eq_true rfl⟩) ⟨zPc_blind, z_rv C0 hw (k := 20) rfl rfl rfl rfl, z_give C0 hw hS _⟩ rfl rfl hl.1 rfl (lv_room (Nat.le_of_ble_eq_true rfl)) dX11_unlike_2 ⟨Nat.zero_le _, Nat.zero_le _⟩
  refine lv_istore_n (lv' := [(3, .int w1), (0, .ref (F 20)), (1, .int x1), (2, .int x2)]) hx hb dX11_unlike_5 rfl hl (by decide) rfl (fun ls hl => ?_)
  refine lv_aload_n hx hb dX11_unlike_6 rfl (lv_at hl 1 rfl) ?_
  refine lv_iload_n hx hb dX11_unlike_7 rfl (lv_at hl 3 rfl) ?_
  obtain ⟨w2, ew2, h⟩ := z_bd h
  refine z_goi C0 hw hS (res := (w2, S)) (rest := []) (arr := (Value.ref (F 20) :: [.int x2]).toArray) ?_ (fun H locs hw hS => ?_)
  · exact va_runV (z_fix C0) (c_X11_hasOfTold l D Y F G S _ x2 w2 ew2) (cwV 1 hts gX11_unlike_X11_hasOfTold rfl rfl rfl (by decide +kernel) ⟨Nat.le_of_ble_eq_true rfl, Nat.le_of_ble_eq_true rfl⟩) ⟨zPc_blind, z_rv C0 hw (k := 20) rfl rfl rfl rfl, z_give C0 hw hS _⟩ rfl rfl hl.1 rfl (lv_room (Nat.le_of_ble_eq_true rfl)) dX11_unlike_8 ⟨Nat.zero_le _, Nat.zero_le _⟩
  refine lv_istore (lv' := [(4, .int w2), (3, .int w1), (0, .ref (F 20)), (1, .int x1), (2, .int x2)]) hx hb dX11_unlike_11 hl (by decide) rfl (fun ls hl => ?_)
  refine lv_iload_n hx hb dX11_unlike_13 rfl (lv_at hl 1 rfl) ?_
  refine lv_iconst (v := (-1)) hx hb dX11_unlike_14 (by decide) ?_
  refine lv_icmp_eq (tgt := 24) hx hb dX11_unlike_15 (by decide) (fun c3 => ?_) (fun c3 => ?_)
  · replace h := z_ifp c3 h
    exact t_X11_unlike_B24 C0 res S h _ _ _ hw hS (lv_sub hl [2] rfl)
  · replace h := z_ifn c3 h
    refine lv_iload hx hb dX11_unlike_18 (lv_at hl 0 rfl) ?_
    refine lv_iconst (v := (-1)) hx hb dX11_unlike_20 (by decide) ?_
    refine lv_icmp_ne (tgt := 31) hx hb dX11_unlike_21 (by decide) (fun c5 => ?_) (fun c5 => ?_)
    · replace h := z_ifn c5 h
      refine lv_iload_n hx hb dX11_unlike_31 rfl (lv_at hl 1 rfl) ?_
      refine lv_iload hx hb dX11_unlike_32 (lv_at hl 0 rfl) ?_
      refine lv_ixor hx hb dX11_unlike_34 ?_
      obtain ⟨w6, ew6, h⟩ := z_bd h
      refine z_goi C0 hw hS (res := (w6, S)) (rest := []) (arr := ([.int ((w1 ^^^ w2))] : List Value).toArray) ?_ (fun H locs hw hS => ?_)
      · exact va_runS (z_fix C0) (c_J6_bitCount_0f7a4 l D Y F G S _ ((w1 ^^^ w2)) w6 ew6) (va_cwS 1 hts gX11_unlike_J6_bitCount_0f7a4 rfl rfl rfl (by decide +kernel) ⟨Nat.le_of_ble_eq_true rfl, Nat.le_of_ble_eq_true rfl⟩) ⟨zPc_blind, z_give C0 hw hS _⟩ rfl rfl hl.1 rfl (lv_room (Nat.le_of_ble_eq_true rfl)) dX11_unlike_35 ⟨Nat.zero_le _, Nat.zero_le _⟩
      exact z_reti C0 hw hS (Option.some.inj h) dX11_unlike_38
    · replace h := z_ifp c5 h
      exact t_X11_unlike_B24 C0 res S h _ _ _ hw hS (lv_sub hl [2] rfl)
def M_X11_oddOf_B44 (pk : Nat → Nat) (S : zSt) (q1 : Nat) (K13 : Int32 → Int32 → Int32 → Option (Int32)) : Nat → Int32 → Int32 → Int32 → Int32 → Int32 → Int32 → Option (Int32)
  | 0, _, _, _, _, _, _ => none
  | n + 1, x2, x3, x4, x5, x6, x7 =>
  (if 6 ≤ x7 then (if x6 ≤ x3 then K13 x2 x3 ((x4 + 1)) else K13 x4 x6 ((x4 + 1))) else Option.bind (M_X5_hasBits pk S q1 x7 ((zsc S 60 4))) (fun w5 => Option.bind (M_J6_bitCount_0f7a4 S ((x5 ^^^ w5))) (fun w6 => M_X11_oddOf_B44 pk S q1 K13 n x2 x3 x4 x5 ((x6 + w6)) ((x7 + 1)))))
set_option maxHeartbeats 4000000 in
set_option maxRecDepth 100000 in
theorem t_X11_oddOf_B44 {p : Program} {l : Launch} {e : Env} {s : State} {m : MethodId} {args : Array Value} {below : List Frame} {meth : Method} {c : Code} {D : va_G} {Y : Nat → ClassId} {F : Nat → Nat} {A : Nat → Prop} {G : zG} (C0 : zCx p s m args meth c D Y F A RX11 cX11_oddOf 8 (some .int) wsX11_oddOf) (S : zSt) (q1 : Nat) (hq1 : zOKb (zpk G) q1 = true) (res : Int32) (K13 : Int32 → Int32 → Int32 → Option (Int32)) (hK13 : ∀ (x2 : Int32) (x3 : Int32) (x4 : Int32), K13 x2 x3 x4 = some res → ∀ (H : Heap) (locs : List Loc) (ls : Array Slot), zH D Y F A G S H → va_S A s.heap H locs → lv_has ls 8 [(0, .ref (F 20)), (1, .ref (zad F G (100 + 4 * q1))), (2, .int x2), (3, .int x3), (4, .int x4)] → W p l e (zRm 3 66) s m args below meth c H locs 0 0 (MQ below (zQi D Y F A G (res, S)) args s 0 0 A) (F0 m 13 ls [])) : ∀ (n : Nat), ∀ (x2 : Int32) (x3 : Int32) (x4 : Int32) (x5 : Int32) (x6 : Int32) (x7 : Int32), M_X11_oddOf_B44 (zpk G) S q1 K13 n x2 x3 x4 x5 x6 x7 = some res → ∀ (H : Heap) (locs : List Loc) (ls : Array Slot), zH D Y F A G S H → va_S A s.heap H locs → lv_has ls 8 [(0, .ref (F 20)), (1, .ref (zad F G (100 + 4 * q1))), (2, .int x2), (3, .int x3), (4, .int x4), (5, .int x5), (6, .int x6), (7, .int x7)] → W p l e (zRm 3 66) s m args below meth c H locs 0 0 (MQ below (zQi D Y F A G (res, S)) args s 0 0 A) (F0 m 44 ls []) := by
  obtain ⟨hx, hb, hml, hr, hown, hts, hK, hA, hlk, hN⟩ := id C0
  intro n
  induction n with
  | zero =>
    intro x2 x3 x4 x5 x6 x7 h
    unfold M_X11_oddOf_B44 at h
    cases h
  | succ n ih =>
    intro x2 x3 x4 x5 x6 x7 h H locs ls hw hS hl
    rw [M_X11_oddOf_B44] at h
    refine lv_iload hx hb dX11_oddOf_44 (lv_at hl 7 rfl) ?_
    refine lv_bipush (v := 6) hx hb dX11_oddOf_46 (by decide) ?_
    refine lv_icmp_ge (tgt := 81) hx hb dX11_oddOf_48 (by decide) (fun c3 => ?_) (fun c3 => ?_)
    · replace h := z_ifp c3 h
      refine lv_iload hx hb dX11_oddOf_81 (lv_at hl 6 rfl) ?_
      refine lv_iload_n hx hb dX11_oddOf_83 rfl (lv_at hl 3 rfl) ?_
      refine lv_icmp_le (tgt := 93) hx hb dX11_oddOf_84 (by decide) (fun c4 => ?_) (fun c4 => ?_)
      · replace h := z_ifp c4 h
        refine lv_iinc (v := (x4 + 1)) (lv' := [(4, .int ((x4 + 1))), (0, .ref (F 20)), (1, .ref (zad F G (100 + 4 * q1))), (2, .int x2), (3, .int x3), (5, .int x5), (6, .int x6), (7, .int x7)]) hx hb dX11_oddOf_93 hl (k := 4) rfl rfl (by decide) rfl (fun ls hl => ?_)
        refine lv_goto (tgt := 13) hx hb dX11_oddOf_96 (by decide) ?_
        exact hK13 x2 x3 ((x4 + 1)) h _ _ _ hw hS (lv_sub hl [1, 2, 3, 4, 0] rfl)
      · replace h := z_ifn c4 h
        refine lv_iload hx hb dX11_oddOf_87 (lv_at hl 6 rfl) ?_
        refine lv_istore_n (lv' := [(3, .int x6), (0, .ref (F 20)), (1, .ref (zad F G (100 + 4 * q1))), (2, .int x2), (4, .int x4), (5, .int x5), (6, .int x6), (7, .int x7)]) hx hb dX11_oddOf_89 rfl hl (by decide) rfl (fun ls hl => ?_)
        refine lv_iload hx hb dX11_oddOf_90 (lv_at hl 4 rfl) ?_
        refine lv_istore_n (lv' := [(2, .int x4), (3, .int x6), (0, .ref (F 20)), (1, .ref (zad F G (100 + 4 * q1))), (4, .int x4), (5, .int x5), (6, .int x6), (7, .int x7)]) hx hb dX11_oddOf_92 rfl hl (by decide) rfl (fun ls hl => ?_)
        refine lv_iinc (v := (x4 + 1)) (lv' := [(4, .int ((x4 + 1))), (2, .int x4), (3, .int x6), (0, .ref (F 20)), (1, .ref (zad F G (100 + 4 * q1))), (5, .int x5), (6, .int x6), (7, .int x7)]) hx hb dX11_oddOf_93 hl (k := 4) rfl rfl (by decide) rfl (fun ls hl => ?_)
        refine lv_goto (tgt := 13) hx hb dX11_oddOf_96 (by decide) ?_
        exact hK13 x4 x6 ((x4 + 1)) h _ _ _ hw hS (lv_sub hl [3, 4, 1, 2, 0] rfl)
    · replace h := z_ifn c3 h
      refine lv_iload hx hb dX11_oddOf_51 (lv_at hl 6 rfl) ?_
      refine lv_iload hx hb dX11_oddOf_53 (lv_at hl 5 rfl) ?_
      refine lv_aload_n hx hb dX11_oddOf_55 rfl (lv_at hl 1 rfl) ?_
      refine lv_iload hx hb dX11_oddOf_56 (lv_at hl 7 rfl) ?_
      refine lv_aload_n hx hb dX11_oddOf_58 rfl (lv_at hl 0 rfl) ?_
      refine z_getU C0 in_X11_oddOf_X11 (C := RX11) (T := TX11) (N := 14) hw (k := 20) (ci := 11) (v := .ref (F 60)) rfl rfl rfl rfl 3 (by decide) rfl 2 rfl (Or.inl rfl) dX11_oddOf_59 ?_
      refine z_getU C0 in_X11_oddOf_X4 (C := RX4) (T := TX4) (N := 6) hw (k := 60) (ci := 4) (v := .int ((zsc S 60 4))) rfl rfl rfl rfl 4 (by decide) rfl 3 rfl (Or.inl rfl) dX11_oddOf_62 ?_
      obtain ⟨w5, ew5, h⟩ := z_bd h
      refine z_goi C0 hw hS (res := (w5, S)) (rest := [.int x5, .int x6]) (arr := (Value.ref (zad F G (100 + 4 * q1)) :: [.int x7, .int ((zsc S 60 4))]).toArray) ?_ (fun H locs hw hS => ?_)
      · rcases zOK_cases hq1 with zz | zz | zz | zz | zz | zz | zz
        · exact va_runU (z_fix C0) (c_X5_hasBits l D Y F G S _ q1 hq1 x7 ((zsc S 60 4)) w5 ew5) (va_cwU 2 hts gX11_oddOf_X5_hasBits_u177X0 rfl rfl rfl rfl (by decide +kernel) ⟨Nat.le_of_ble_eq_true rfl, Nat.le_of_ble_eq_true rfl⟩) ⟨zPc_blind, z_prec C0 hw hq1 (ci := 0) zz rfl, z_give C0 hw hS _⟩ rfl rfl hl.1 rfl (lv_room (Nat.le_of_ble_eq_true rfl)) dX11_oddOf_65 ⟨Nat.zero_le _, Nat.zero_le _⟩
        · exact va_runU (z_fix C0) (c_X5_hasBits l D Y F G S _ q1 hq1 x7 ((zsc S 60 4)) w5 ew5) (va_cwU 2 hts gX11_oddOf_X5_hasBits_u177X1 rfl rfl rfl rfl (by decide +kernel) ⟨Nat.le_of_ble_eq_true rfl, Nat.le_of_ble_eq_true rfl⟩) ⟨zPc_blind, z_prec C0 hw hq1 (ci := 1) zz rfl, z_give C0 hw hS _⟩ rfl rfl hl.1 rfl (lv_room (Nat.le_of_ble_eq_true rfl)) dX11_oddOf_65 ⟨Nat.zero_le _, Nat.zero_le _⟩
        · exact va_runU (z_fix C0) (c_X5_hasBits l D Y F G S _ q1 hq1 x7 ((zsc S 60 4)) w5 ew5) (va_cwU 2 hts gX11_oddOf_X5_hasBits_u177X2 rfl rfl rfl rfl (by decide +kernel) ⟨Nat.le_of_ble_eq_true rfl, Nat.le_of_ble_eq_true rfl⟩) ⟨zPc_blind, z_prec C0 hw hq1 (ci := 2) zz rfl, z_give C0 hw hS _⟩ rfl rfl hl.1 rfl (lv_room (Nat.le_of_ble_eq_true rfl)) dX11_oddOf_65 ⟨Nat.zero_le _, Nat.zero_le _⟩
        · exact va_runU (z_fix C0) (c_X5_hasBits l D Y F G S _ q1 hq1 x7 ((zsc S 60 4)) w5 ew5) (va_cwU 2 hts gX11_oddOf_X5_hasBits_u177X3 rfl rfl rfl rfl (by decide +kernel) ⟨Nat.le_of_ble_eq_true rfl, Nat.le_of_ble_eq_true rfl⟩) ⟨zPc_blind, z_prec C0 hw hq1 (ci := 3) zz rfl, z_give C0 hw hS _⟩ rfl rfl hl.1 rfl (lv_room (Nat.le_of_ble_eq_true rfl)) dX11_oddOf_65 ⟨Nat.zero_le _, Nat.zero_le _⟩
        · exact va_runV (z_fix C0) (c_X5_hasBits l D Y F G S _ q1 hq1 x7 ((zsc S 60 4)) w5 ew5) (cwV 2 hts gX11_oddOf_X5_hasBits rfl rfl rfl (by decide +kernel) ⟨Nat.le_of_ble_eq_true rfl, Nat.le_of_ble_eq_true rfl⟩) ⟨zPc_blind, z_prec C0 hw hq1 (ci := 5) zz rfl, z_give C0 hw hS _⟩ rfl rfl hl.1 rfl (lv_room (Nat.le_of_ble_eq_true rfl)) dX11_oddOf_65 ⟨Nat.zero_le _, Nat.zero_le _⟩
        · exact va_runU (z_fix C0) (c_X5_hasBits l D Y F G S _ q1 hq1 x7 ((zsc S 60 4)) w5 ew5) (va_cwU 2 hts gX11_oddOf_X5_hasBits_u177X8 rfl rfl rfl rfl (by decide +kernel) ⟨Nat.le_of_ble_eq_true rfl, Nat.le_of_ble_eq_true rfl⟩) ⟨zPc_blind, z_prec C0 hw hq1 (ci := 8) zz rfl, z_give C0 hw hS _⟩ rfl rfl hl.1 rfl (lv_room (Nat.le_of_ble_eq_true rfl)) dX11_oddOf_65 ⟨Nat.zero_le _, Nat.zero_le _⟩
        · exact va_runU (z_fix C0) (c_X5_hasBits l D Y F G S _ q1 hq1 x7 ((zsc S 60 4)) w5 ew5) (va_cwU 2 hts gX11_oddOf_X5_hasBits_u177X10 rfl rfl rfl rfl (by decide +kernel) ⟨Nat.le_of_ble_eq_true rfl, Nat.le_of_ble_eq_true rfl⟩) ⟨zPc_blind, z_prec C0 hw hq1 (ci := 10) zz rfl, z_give C0 hw hS _⟩ rfl rfl hl.1 rfl (lv_room (Nat.le_of_ble_eq_true rfl)) dX11_oddOf_65 ⟨Nat.zero_le _, Nat.zero_le _⟩
      refine lv_ixor hx hb dX11_oddOf_68 ?_
      obtain ⟨w6, ew6, h⟩ := z_bd h
      refine z_goi C0 hw hS (res := (w6, S)) (rest := [.int x6]) (arr := ([.int ((x5 ^^^ w5))] : List Value).toArray) ?_ (fun H locs hw hS => ?_)
      · exact va_runS (z_fix C0) (c_J6_bitCount_0f7a4 l D Y F G S _ ((x5 ^^^ w5)) w6 ew6) (va_cwS 1 hts gX11_oddOf_J6_bitCount_0f7a4 rfl rfl rfl (by decide +kernel) ⟨Nat.le_of_ble_eq_true rfl, Nat.le_of_ble_eq_true rfl⟩) ⟨zPc_blind, z_give C0 hw hS _⟩ rfl rfl hl.1 rfl (lv_room (Nat.le_of_ble_eq_true rfl)) dX11_oddOf_69 ⟨Nat.zero_le _, Nat.zero_le _⟩
      refine lv_iadd hx hb dX11_oddOf_72 ?_
      refine lv_istore (lv' := [(6, .int ((x6 + w6))), (0, .ref (F 20)), (1, .ref (zad F G (100 + 4 * q1))), (2, .int x2), (3, .int x3), (4, .int x4), (5, .int x5), (7, .int x7)]) hx hb dX11_oddOf_73 hl (by decide) rfl (fun ls hl => ?_)
      refine lv_iinc (v := (x7 + 1)) (lv' := [(7, .int ((x7 + 1))), (6, .int ((x6 + w6))), (0, .ref (F 20)), (1, .ref (zad F G (100 + 4 * q1))), (2, .int x2), (3, .int x3), (4, .int x4), (5, .int x5)]) hx hb dX11_oddOf_75 hl (k := 7) rfl rfl (by decide) rfl (fun ls hl => ?_)
      refine lv_goto (tgt := 44) hx hb dX11_oddOf_78 (by decide) ?_
      exact ih x2 x3 x4 x5 ((x6 + w6)) ((x7 + 1)) h _ _ _ hw hS (lv_sub hl [2, 3, 4, 5, 6, 7, 1, 0] rfl)
def M_X11_oddOf_B13 (pk : Nat → Nat) (S : zSt) (q1 : Nat) : Nat → Int32 → Int32 → Int32 → Option (Int32)
  | 0, _, _, _ => none
  | n + 1, x2, x3, x4 =>
  (if 6 ≤ x4 then some x2 else Option.bind (M_X5_hasBits pk S q1 x4 ((zsc S 60 4))) (fun w2 => M_X11_oddOf_B44 pk S q1 (fun x2_ x3_ x4_ => M_X11_oddOf_B13 pk S q1 n x2_ x3_ x4_) zF x2 x3 x4 w2 0 ((zsc S (100 + 4 * q1) 8))))
set_option maxHeartbeats 4000000 in
set_option maxRecDepth 100000 in
theorem t_X11_oddOf_B13 {p : Program} {l : Launch} {e : Env} {s : State} {m : MethodId} {args : Array Value} {below : List Frame} {meth : Method} {c : Code} {D : va_G} {Y : Nat → ClassId} {F : Nat → Nat} {A : Nat → Prop} {G : zG} (C0 : zCx p s m args meth c D Y F A RX11 cX11_oddOf 8 (some .int) wsX11_oddOf) (S : zSt) (q1 : Nat) (hq1 : zOKb (zpk G) q1 = true) (res : Int32) : ∀ (n : Nat), ∀ (x2 : Int32) (x3 : Int32) (x4 : Int32), M_X11_oddOf_B13 (zpk G) S q1 n x2 x3 x4 = some res → ∀ (H : Heap) (locs : List Loc) (ls : Array Slot), zH D Y F A G S H → va_S A s.heap H locs → lv_has ls 8 [(0, .ref (F 20)), (1, .ref (zad F G (100 + 4 * q1))), (2, .int x2), (3, .int x3), (4, .int x4)] → W p l e (zRm 3 66) s m args below meth c H locs 0 0 (MQ below (zQi D Y F A G (res, S)) args s 0 0 A) (F0 m 13 ls []) := by
  obtain ⟨hx, hb, hml, hr, hown, hts, hK, hA, hlk, hN⟩ := id C0
  intro n
  induction n with
  | zero =>
    intro x2 x3 x4 h
    unfold M_X11_oddOf_B13 at h
    cases h
  | succ n ih =>
    intro x2 x3 x4 h H locs ls hw hS hl
    rw [M_X11_oddOf_B13] at h
    refine lv_iload hx hb dX11_oddOf_13 (lv_at hl 4 rfl) ?_
    refine lv_bipush (v := 6) hx hb dX11_oddOf_15 (by decide) ?_
    refine lv_icmp_ge (tgt := 99) hx hb dX11_oddOf_17 (by decide) (fun c1 => ?_) (fun c1 => ?_)
    · replace h := z_ifp c1 h
      refine lv_iload_n hx hb dX11_oddOf_99 rfl (lv_at hl 2 rfl) ?_
      exact z_reti C0 hw hS (congrArg (fun z => (z, S)) (Option.some.inj h)) dX11_oddOf_100
    · replace h := z_ifn c1 h
      refine lv_aload_n hx hb dX11_oddOf_20 rfl (lv_at hl 1 rfl) ?_
      refine lv_iload hx hb dX11_oddOf_21 (lv_at hl 4 rfl) ?_
      refine lv_aload_n hx hb dX11_oddOf_23 rfl (lv_at hl 0 rfl) ?_
      refine z_getU C0 in_X11_oddOf_X11 (C := RX11) (T := TX11) (N := 14) hw (k := 20) (ci := 11) (v := .ref (F 60)) rfl rfl rfl rfl 3 (by decide) rfl 2 rfl (Or.inl rfl) dX11_oddOf_24 ?_
      refine z_getU C0 in_X11_oddOf_X4 (C := RX4) (T := TX4) (N := 6) hw (k := 60) (ci := 4) (v := .int ((zsc S 60 4))) rfl rfl rfl rfl 4 (by decide) rfl 3 rfl (Or.inl rfl) dX11_oddOf_27 ?_
      obtain ⟨w2, ew2, h⟩ := z_bd h
      refine z_goi C0 hw hS (res := (w2, S)) (rest := []) (arr := (Value.ref (zad F G (100 + 4 * q1)) :: [.int x4, .int ((zsc S 60 4))]).toArray) ?_ (fun H locs hw hS => ?_)
      · rcases zOK_cases hq1 with zz | zz | zz | zz | zz | zz | zz
        · exact va_runU (z_fix C0) (c_X5_hasBits l D Y F G S _ q1 hq1 x4 ((zsc S 60 4)) w2 ew2) (va_cwU 2 hts gX11_oddOf_X5_hasBits_u177X0 rfl rfl rfl rfl (by decide +kernel) ⟨Nat.le_of_ble_eq_true rfl, Nat.le_of_ble_eq_true rfl⟩) ⟨zPc_blind, z_prec C0 hw hq1 (ci := 0) zz rfl, z_give C0 hw hS _⟩ rfl rfl hl.1 rfl (lv_room (Nat.le_of_ble_eq_true rfl)) dX11_oddOf_30 ⟨Nat.zero_le _, Nat.zero_le _⟩
        · exact va_runU (z_fix C0) (c_X5_hasBits l D Y F G S _ q1 hq1 x4 ((zsc S 60 4)) w2 ew2) (va_cwU 2 hts gX11_oddOf_X5_hasBits_u177X1 rfl rfl rfl rfl (by decide +kernel) ⟨Nat.le_of_ble_eq_true rfl, Nat.le_of_ble_eq_true rfl⟩) ⟨zPc_blind, z_prec C0 hw hq1 (ci := 1) zz rfl, z_give C0 hw hS _⟩ rfl rfl hl.1 rfl (lv_room (Nat.le_of_ble_eq_true rfl)) dX11_oddOf_30 ⟨Nat.zero_le _, Nat.zero_le _⟩
        · exact va_runU (z_fix C0) (c_X5_hasBits l D Y F G S _ q1 hq1 x4 ((zsc S 60 4)) w2 ew2) (va_cwU 2 hts gX11_oddOf_X5_hasBits_u177X2 rfl rfl rfl rfl (by decide +kernel) ⟨Nat.le_of_ble_eq_true rfl, Nat.le_of_ble_eq_true rfl⟩) ⟨zPc_blind, z_prec C0 hw hq1 (ci := 2) zz rfl, z_give C0 hw hS _⟩ rfl rfl hl.1 rfl (lv_room (Nat.le_of_ble_eq_true rfl)) dX11_oddOf_30 ⟨Nat.zero_le _, Nat.zero_le _⟩
        · exact va_runU (z_fix C0) (c_X5_hasBits l D Y F G S _ q1 hq1 x4 ((zsc S 60 4)) w2 ew2) (va_cwU 2 hts gX11_oddOf_X5_hasBits_u177X3 rfl rfl rfl rfl (by decide +kernel) ⟨Nat.le_of_ble_eq_true rfl, Nat.le_of_ble_eq_true rfl⟩) ⟨zPc_blind, z_prec C0 hw hq1 (ci := 3) zz rfl, z_give C0 hw hS _⟩ rfl rfl hl.1 rfl (lv_room (Nat.le_of_ble_eq_true rfl)) dX11_oddOf_30 ⟨Nat.zero_le _, Nat.zero_le _⟩
        · exact va_runV (z_fix C0) (c_X5_hasBits l D Y F G S _ q1 hq1 x4 ((zsc S 60 4)) w2 ew2) (cwV 2 hts gX11_oddOf_X5_hasBits rfl rfl rfl (by decide +kernel) ⟨Nat.le_of_ble_eq_true rfl, Nat.le_of_ble_eq_true rfl⟩) ⟨zPc_blind, z_prec C0 hw hq1 (ci := 5) zz rfl, z_give C0 hw hS _⟩ rfl rfl hl.1 rfl (lv_room (Nat.le_of_ble_eq_true rfl)) dX11_oddOf_30 ⟨Nat.zero_le _, Nat.zero_le _⟩
        · exact va_runU (z_fix C0) (c_X5_hasBits l D Y F G S _ q1 hq1 x4 ((zsc S 60 4)) w2 ew2) (va_cwU 2 hts gX11_oddOf_X5_hasBits_u177X8 rfl rfl rfl rfl (by decide +kernel) ⟨Nat.le_of_ble_eq_true rfl, Nat.le_of_ble_eq_true rfl⟩) ⟨zPc_blind, z_prec C0 hw hq1 (ci := 8) zz rfl, z_give C0 hw hS _⟩ rfl rfl hl.1 rfl (lv_room (Nat.le_of_ble_eq_true rfl)) dX11_oddOf_30 ⟨Nat.zero_le _, Nat.zero_le _⟩
        · exact va_runU (z_fix C0) (c_X5_hasBits l D Y F G S _ q1 hq1 x4 ((zsc S 60 4)) w2 ew2) (va_cwU 2 hts gX11_oddOf_X5_hasBits_u177X10 rfl rfl rfl rfl (by decide +kernel) ⟨Nat.le_of_ble_eq_true rfl, Nat.le_of_ble_eq_true rfl⟩) ⟨zPc_blind, z_prec C0 hw hq1 (ci := 10) zz rfl, z_give C0 hw hS _⟩ rfl rfl hl.1 rfl (lv_room (Nat.le_of_ble_eq_true rfl)) dX11_oddOf_30 ⟨Nat.zero_le _, Nat.zero_le _⟩
      refine lv_istore (lv' := [(5, .int w2), (0, .ref (F 20)), (1, .ref (zad F G (100 + 4 * q1))), (2, .int x2), (3, .int x3), (4, .int x4)]) hx hb dX11_oddOf_33 hl (by decide) rfl (fun ls hl => ?_)
      refine lv_iconst (v := 0) hx hb dX11_oddOf_35 (by decide) ?_
      refine lv_istore (lv' := [(6, .int 0), (5, .int w2), (0, .ref (F 20)), (1, .ref (zad F G (100 + 4 * q1))), (2, .int x2), (3, .int x3), (4, .int x4)]) hx hb dX11_oddOf_36 hl (by decide) rfl (fun ls hl => ?_)
      refine lv_aload_n hx hb dX11_oddOf_38 rfl (lv_at hl 3 rfl) ?_
      refine z_getP C0 inP_X11_oddOf hw hq1 8 (by decide) (v := .int ((zsc S (100 + 4 * q1) 8))) rfl 1 rfl (Or.inl rfl) dX11_oddOf_39 ?_
      refine lv_istore (lv' := [(7, .int ((zsc S (100 + 4 * q1) 8))), (6, .int 0), (5, .int w2), (0, .ref (F 20)), (1, .ref (zad F G (100 + 4 * q1))), (2, .int x2), (3, .int x3), (4, .int x4)]) hx hb dX11_oddOf_42 hl (by decide) rfl (fun ls hl => ?_)
      exact t_X11_oddOf_B44 C0 S q1 hq1 res (fun x2_ x3_ x4_ => M_X11_oddOf_B13 (zpk G) S q1 n x2_ x3_ x4_) ih zF x2 x3 x4 w2 0 ((zsc S (100 + 4 * q1) 8)) h _ _ _ hw hS (lv_sub hl [3, 4, 5, 6, 7, 2, 1, 0] rfl)
def M_X11_oddOf (pk : Nat → Nat) (S : zSt) (q1 : Nat) : Option (Int32) :=
  M_X11_oddOf_B13 pk S q1 zF ((zsc S (100 + 4 * q1) 8)) (-1) ((zsc S (100 + 4 * q1) 8))
set_option maxHeartbeats 4000000 in
set_option maxRecDepth 100000 in
theorem c_X11_oddOf (l : Launch) (D : va_G) (Y : Nat → ClassId) (F : Nat → Nat) (G : zG) (S : zSt) (sz : Nat) (q1 : Nat) (hq1 : zOKb (zpk G) q1 = true) (res : Int32) (h : M_X11_oddOf (zpk G) S q1 = some res) : Met l yX11_oddOf wsX11_oddOf (zRm 3 66) (zPc D Y F G S sz [.ref (F 20), .ref (zad F G (100 + 4 * q1))]) (zQi D Y F (zAo F G sz) G (res, S)) 0 0 (zAo F G sz) := by
  unfold M_X11_oddOf at h
  refine zMet (cc := cX11_oddOf) (maxL := 8) (ret := (some .int)) (own := RX11) (by decide +kernel) rfl rfl (Nat.le_of_ble_eq_true rfl) ?_
  intro p e s m args below meth c C0 hin hw hS ls hl
  have hl : lv_has ls 8 [(0, .ref (F 20)), (1, .ref (zad F G (100 + 4 * q1)))] := hl
  generalize zAo F G sz = A at C0 hw hS ⊢
  obtain ⟨hx, hb, hml, hr, hown, hts, hK, hA, hlk, hN⟩ := id C0
  refine lv_aload_n hx hb dX11_oddOf_0 rfl (lv_at hl 1 rfl) ?_
  refine z_getP C0 inP_X11_oddOf hw hq1 8 (by decide) (v := .int ((zsc S (100 + 4 * q1) 8))) rfl 1 rfl (Or.inl rfl) dX11_oddOf_1 ?_
  refine lv_istore_n (lv' := [(2, .int ((zsc S (100 + 4 * q1) 8))), (0, .ref (F 20)), (1, .ref (zad F G (100 + 4 * q1)))]) hx hb dX11_oddOf_4 rfl hl (by decide) rfl (fun ls hl => ?_)
  refine lv_iconst (v := (-1)) hx hb dX11_oddOf_5 (by decide) ?_
  refine lv_istore_n (lv' := [(3, .int (-1)), (2, .int ((zsc S (100 + 4 * q1) 8))), (0, .ref (F 20)), (1, .ref (zad F G (100 + 4 * q1)))]) hx hb dX11_oddOf_6 rfl hl (by decide) rfl (fun ls hl => ?_)
  refine lv_aload_n hx hb dX11_oddOf_7 rfl (lv_at hl 3 rfl) ?_
  refine z_getP C0 inP_X11_oddOf hw hq1 8 (by decide) (v := .int ((zsc S (100 + 4 * q1) 8))) rfl 1 rfl (Or.inl rfl) dX11_oddOf_8 ?_
  refine lv_istore (lv' := [(4, .int ((zsc S (100 + 4 * q1) 8))), (3, .int (-1)), (2, .int ((zsc S (100 + 4 * q1) 8))), (0, .ref (F 20)), (1, .ref (zad F G (100 + 4 * q1)))]) hx hb dX11_oddOf_11 hl (by decide) rfl (fun ls hl => ?_)
  exact t_X11_oddOf_B13 C0 S q1 hq1 res zF ((zsc S (100 + 4 * q1) 8)) (-1) ((zsc S (100 + 4 * q1) 8)) h _ _ _ hw hS (lv_sub hl [3, 4, 2, 1, 0] rfl)
def M_X11_odd (pk : Nat → Nat) (S : zSt) (x1 : Int32) : Option (Int32 × zSt) :=
  Option.bind (M_X4_personAt pk S 0 x1) (fun w1 => (zm w1 (Option.bind (M_X11_refuse pk S (-1)) (fun w3 => some (w3.1, w3.2))) (fun q2 => zg (zOKb pk q2) (Option.bind (M_X5_isGone pk S q2) (fun w4 => (if w4 = 0 then Option.bind (M_X11_oddOf pk S q2) (fun w6 => some (w6, S)) else Option.bind (M_X11_refuse pk S (-6)) (fun w7 => some (w7.1, w7.2))))))))
set_option maxHeartbeats 4000000 in
set_option maxRecDepth 100000 in
theorem c_X11_odd (l : Launch) (D : va_G) (Y : Nat → ClassId) (F : Nat → Nat) (G : zG) (S : zSt) (sz : Nat) (x1 : Int32) (res : Int32 × zSt) (h : M_X11_odd (zpk G) S x1 = some res) : Met l yX11_odd wsX11_odd (zRm 4 93) (zPc D Y F G S sz [.ref (F 20), .int x1]) (zQi D Y F (zAo F G sz) G res) 0 0 (zAo F G sz) := by
  unfold M_X11_odd at h
  refine zMet (cc := cX11_odd) (maxL := 3) (ret := (some .int)) (own := RX11) (by decide +kernel) rfl rfl (Nat.le_of_ble_eq_true rfl) ?_
  intro p e s m args below meth c C0 hin hw hS ls hl
  have hl : lv_has ls 3 [(0, .ref (F 20)), (1, .int x1)] := hl
  generalize zAo F G sz = A at C0 hw hS ⊢
  obtain ⟨hx, hb, hml, hr, hown, hts, hK, hA, hlk, hN⟩ := id C0
  refine lv_aload_n hx hb dX11_odd_0 rfl (lv_at hl 0 rfl) ?_
  refine z_getU C0 in_X11_odd_X11 (C := RX11) (T := TX11) (N := 14) hw (k := 20) (ci := 11) (v := .ref (F 60)) rfl rfl rfl rfl 3 (by decide) rfl 1 rfl (Or.inl rfl) dX11_odd_1 ?_
  refine lv_iload_n hx hb dX11_odd_4 rfl (lv_at hl 1 rfl) ?_
  obtain ⟨w1, ew1, h⟩ := z_bd h
  refine z_goq C0 hw hS (r0 := w1.map (zpa F G)) (rest := []) (arr := (Value.ref (F 60) :: [.int x1]).toArray) ?_ (fun H locs hw hS => ?_)
  · exact va_runV (z_fix C0) (c_X4_personAt l D Y F G S _ 0 (by decide) x1 w1 ew1) (cwV 1 hts gX11_odd_X4_personAt rfl rfl rfl (by decide +kernel) ⟨Nat.le_of_ble_eq_true rfl, Nat.le_of_ble_eq_true rfl⟩) ⟨zPc_blind, z_rv C0 hw (k := 60) rfl rfl rfl rfl, z_give C0 hw hS _⟩ rfl rfl hl.1 rfl (lv_room (Nat.le_of_ble_eq_true rfl)) dX11_odd_5 ⟨Nat.zero_le _, Nat.zero_le _⟩
  rcases w1 with _ | q2
  · replace h := zm_n h
    refine z_topv (y := .null) rfl ?_
    refine lv_astore_nN (lv' := [(2, .null), (0, .ref (F 20)), (1, .int x1)]) hx hb dX11_odd_8 rfl hl (by decide) rfl (fun ls hl => ?_)
    refine lv_aload_nN hx hb dX11_odd_9 rfl (lv_at hl 0 rfl) ?_
    refine lv_ifnonnullN hx hb dX11_odd_10 ?_
    refine lv_aload_n hx hb dX11_odd_13 rfl (lv_at hl 1 rfl) ?_
    refine lv_iconst (v := (-1)) hx hb dX11_odd_14 (by decide) ?_
    obtain ⟨w3, ew3, h⟩ := z_bd h
    refine z_goi C0 hw hS (res := w3) (rest := []) (arr := (Value.ref (F 20) :: [.int (-1)]).toArray) ?_ (fun H locs hw hS => ?_)
    · exact va_runV (z_fix C0) (c_X11_refuse l D Y F G S _ (-1) w3 ew3) (cwV 1 hts gX11_odd_X11_refuse rfl rfl rfl (by decide +kernel) ⟨Nat.le_of_ble_eq_true rfl, Nat.le_of_ble_eq_true rfl⟩) ⟨zPc_blind, z_rv C0 hw (k := 20) rfl rfl rfl rfl, z_give C0 hw hS _⟩ rfl rfl hl.1 rfl (lv_room (Nat.le_of_ble_eq_true rfl)) dX11_odd_15 ⟨Nat.zero_le _, Nat.zero_le _⟩
    exact z_reti C0 hw hS (Option.some.inj h) dX11_odd_18
  · replace h := zm_s h
    obtain ⟨bq2, h⟩ := z_gd h
    have hq2 := bq2
    refine z_topv (y := .ref (zad F G (100 + 4 * q2))) rfl ?_
    refine lv_astore_n (lv' := [(2, .ref (zad F G (100 + 4 * q2))), (0, .ref (F 20)), (1, .int x1)]) hx hb dX11_odd_8 rfl hl (by decide) rfl (fun ls hl => ?_)
    refine lv_aload_n hx hb dX11_odd_9 rfl (lv_at hl 0 rfl) ?_
    refine lv_ifnonnull (tgt := 19) hx hb dX11_odd_10 (by decide) ?_
    refine lv_aload_n hx hb dX11_odd_19 rfl (lv_at hl 0 rfl) ?_
    obtain ⟨w4, ew4, h⟩ := z_bd h
    refine z_goi C0 hw hS (res := (w4, S)) (rest := []) (arr := (Value.ref (zad F G (100 + 4 * q2)) :: []).toArray) ?_ (fun H locs hw hS => ?_)
    · rcases zOK_cases hq2 with zz | zz | zz | zz | zz | zz | zz
      · exact va_runU (z_fix C0) (c_X5_isGone l D Y F G S _ q2 hq2 w4 ew4) (va_cwU 0 hts gX11_odd_X5_isGone_u237X0 rfl rfl rfl rfl (by decide +kernel) ⟨Nat.le_of_ble_eq_true rfl, Nat.le_of_ble_eq_true rfl⟩) ⟨zPc_blind, z_prec C0 hw hq2 (ci := 0) zz rfl, z_give C0 hw hS _⟩ rfl rfl hl.1 rfl (lv_room (Nat.le_of_ble_eq_true rfl)) dX11_odd_20 ⟨Nat.zero_le _, Nat.zero_le _⟩
      · exact va_runU (z_fix C0) (c_X5_isGone l D Y F G S _ q2 hq2 w4 ew4) (va_cwU 0 hts gX11_odd_X5_isGone_u237X1 rfl rfl rfl rfl (by decide +kernel) ⟨Nat.le_of_ble_eq_true rfl, Nat.le_of_ble_eq_true rfl⟩) ⟨zPc_blind, z_prec C0 hw hq2 (ci := 1) zz rfl, z_give C0 hw hS _⟩ rfl rfl hl.1 rfl (lv_room (Nat.le_of_ble_eq_true rfl)) dX11_odd_20 ⟨Nat.zero_le _, Nat.zero_le _⟩
      · exact va_runU (z_fix C0) (c_X5_isGone l D Y F G S _ q2 hq2 w4 ew4) (va_cwU 0 hts gX11_odd_X5_isGone_u237X2 rfl rfl rfl rfl (by decide +kernel) ⟨Nat.le_of_ble_eq_true rfl, Nat.le_of_ble_eq_true rfl⟩) ⟨zPc_blind, z_prec C0 hw hq2 (ci := 2) zz rfl, z_give C0 hw hS _⟩ rfl rfl hl.1 rfl (lv_room (Nat.le_of_ble_eq_true rfl)) dX11_odd_20 ⟨Nat.zero_le _, Nat.zero_le _⟩
      · exact va_runU (z_fix C0) (c_X5_isGone l D Y F G S _ q2 hq2 w4 ew4) (va_cwU 0 hts gX11_odd_X5_isGone_u237X3 rfl rfl rfl rfl (by decide +kernel) ⟨Nat.le_of_ble_eq_true rfl, Nat.le_of_ble_eq_true rfl⟩) ⟨zPc_blind, z_prec C0 hw hq2 (ci := 3) zz rfl, z_give C0 hw hS _⟩ rfl rfl hl.1 rfl (lv_room (Nat.le_of_ble_eq_true rfl)) dX11_odd_20 ⟨Nat.zero_le _, Nat.zero_le _⟩
      · exact va_runV (z_fix C0) (c_X5_isGone l D Y F G S _ q2 hq2 w4 ew4) (cwV 0 hts gX11_odd_X5_isGone rfl rfl rfl (by decide +kernel) ⟨Nat.le_of_ble_eq_true rfl, Nat.le_of_ble_eq_true rfl⟩) ⟨zPc_blind, z_prec C0 hw hq2 (ci := 5) zz rfl, z_give C0 hw hS _⟩ rfl rfl hl.1 rfl (lv_room (Nat.le_of_ble_eq_true rfl)) dX11_odd_20 ⟨Nat.zero_le _, Nat.zero_le _⟩
      · exact va_runU (z_fix C0) (c_X5_isGone l D Y F G S _ q2 hq2 w4 ew4) (va_cwU 0 hts gX11_odd_X5_isGone_u237X8 rfl rfl rfl rfl (by decide +kernel) ⟨Nat.le_of_ble_eq_true rfl, Nat.le_of_ble_eq_true rfl⟩) ⟨zPc_blind, z_prec C0 hw hq2 (ci := 8) zz rfl, z_give C0 hw hS _⟩ rfl rfl hl.1 rfl (lv_room (Nat.le_of_ble_eq_true rfl)) dX11_odd_20 ⟨Nat.zero_le _, Nat.zero_le _⟩
      · exact va_runU (z_fix C0) (c_X5_isGone l D Y F G S _ q2 hq2 w4 ew4) (va_cwU 0 hts gX11_odd_X5_isGone_u237X10 rfl rfl rfl rfl (by decide +kernel) ⟨Nat.le_of_ble_eq_true rfl, Nat.le_of_ble_eq_true rfl⟩) ⟨zPc_blind, z_prec C0 hw hq2 (ci := 10) zz rfl, z_give C0 hw hS _⟩ rfl rfl hl.1 rfl (lv_room (Nat.le_of_ble_eq_true rfl)) dX11_odd_20 ⟨Nat.zero_le _, Nat.zero_le _⟩
    refine lv_if_eq (tgt := 33) hx hb dX11_odd_23 (by decide) (fun c5 => ?_) (fun c5 => ?_)
    · replace h := z_ifp c5 h
      refine lv_aload_n hx hb dX11_odd_33 rfl (lv_at hl 1 rfl) ?_
      refine lv_aload_n hx hb dX11_odd_34 rfl (lv_at hl 0 rfl) ?_
      obtain ⟨w6, ew6, h⟩ := z_bd h
      refine z_goi C0 hw hS (res := (w6, S)) (rest := []) (arr := (Value.ref (F 20) :: [.ref (zad F G (100 + 4 * q2))]).toArray) ?_ (fun H locs hw hS => ?_)
      · exact va_runV (z_fix C0) (c_X11_oddOf l D Y F G S _ q2 hq2 w6 ew6) (cwV 1 hts gX11_odd_X11_oddOf rfl rfl rfl (by decide +kernel) ⟨Nat.le_of_ble_eq_true rfl, Nat.le_of_ble_eq_true rfl⟩) ⟨zPc_blind, z_rv C0 hw (k := 20) rfl rfl rfl rfl, z_give C0 hw hS _⟩ rfl rfl hl.1 rfl (lv_room (Nat.le_of_ble_eq_true rfl)) dX11_odd_35 ⟨Nat.zero_le _, Nat.zero_le _⟩
      exact z_reti C0 hw hS (Option.some.inj h) dX11_odd_38
    · replace h := z_ifn c5 h
      refine lv_aload_n hx hb dX11_odd_26 rfl (lv_at hl 1 rfl) ?_
      refine lv_bipush (v := (-6)) hx hb dX11_odd_27 (by decide) ?_
      obtain ⟨w7, ew7, h⟩ := z_bd h
      refine z_goi C0 hw hS (res := w7) (rest := []) (arr := (Value.ref (F 20) :: [.int (-6)]).toArray) ?_ (fun H locs hw hS => ?_)
      · exact va_runV (z_fix C0) (c_X11_refuse l D Y F G S _ (-6) w7 ew7) (cwV 1 hts gX11_odd_X11_refuse rfl rfl rfl (by decide +kernel) ⟨Nat.le_of_ble_eq_true rfl, Nat.le_of_ble_eq_true rfl⟩) ⟨zPc_blind, z_rv C0 hw (k := 20) rfl rfl rfl rfl, z_give C0 hw hS _⟩ rfl rfl hl.1 rfl (lv_room (Nat.le_of_ble_eq_true rfl)) dX11_odd_29 ⟨Nat.zero_le _, Nat.zero_le _⟩
      exact z_reti C0 hw hS (Option.some.inj h) dX11_odd_32
def M_X11_mend_B30 (pk : Nat → Nat) : Nat → zSt → Option Nat → Int32 → Int32 → Option (Int32 × zSt)
  | 0, _, _, _, _ => none
  | n + 1, S, o3, x4, x5 =>
  (zm o3 (none) (fun q9 => zg (zOKb pk q9) ((if 8 ≤ x5 then some (x4, S) else Option.bind (M_X5_rubsToMend pk S q9 x5 ((zsc S 60 4))) (fun w12 => M_X11_mend_B30 pk n S (some q9) ((x4 + w12)) ((x5 + 1)))))))
set_option maxHeartbeats 4000000 in
set_option maxRecDepth 100000 in
theorem t_X11_mend_B30 {p : Program} {l : Launch} {e : Env} {s : State} {m : MethodId} {args : Array Value} {below : List Frame} {meth : Method} {c : Code} {D : va_G} {Y : Nat → ClassId} {F : Nat → Nat} {A : Nat → Prop} {G : zG} (C0 : zCx p s m args meth c D Y F A RX11 cX11_mend 6 (some .int) wsX11_mend) (res : Int32 × zSt) : ∀ (n : Nat), ∀ (S : zSt) (o3 : Option Nat) (x4 : Int32) (x5 : Int32), M_X11_mend_B30 (zpk G) n S o3 x4 x5 = some res → ∀ (H : Heap) (locs : List Loc) (ls : Array Slot), zH D Y F A G S H → va_S A s.heap H locs → lv_has ls 6 [(0, .ref (F 20)), (3, va_rf (Option.map (zpa F G) o3)), (4, .int x4), (5, .int x5)] → W p l e (zRm 4 89) s m args below meth c H locs 0 0 (MQ below (zQi D Y F A G res) args s 0 0 A) (F0 m 30 ls []) := by
  obtain ⟨hx, hb, hml, hr, hown, hts, hK, hA, hlk, hN⟩ := id C0
  intro n
  induction n with
  | zero =>
    intro S o3 x4 x5 h
    unfold M_X11_mend_B30 at h
    cases h
  | succ n ih =>
    intro S o3 x4 x5 h H locs ls hw hS hl
    rw [M_X11_mend_B30] at h
    rcases o3 with _ | q9
    · replace h := zm_n h
      have hl : lv_has ls 6 [(0, .ref (F 20)), (3, .null), (4, .int x4), (5, .int x5)] := hl
      cases h
    · replace h := zm_s h
      obtain ⟨bq9, h⟩ := z_gd h
      have hq9 := bq9
      have hl : lv_has ls 6 [(0, .ref (F 20)), (3, .ref (zad F G (100 + 4 * q9))), (4, .int x4), (5, .int x5)] := hl
      refine lv_iload hx hb dX11_mend_30 (lv_at hl 3 rfl) ?_
      refine lv_bipush (v := 8) hx hb dX11_mend_32 (by decide) ?_
      refine lv_icmp_ge (tgt := 61) hx hb dX11_mend_34 (by decide) (fun c11 => ?_) (fun c11 => ?_)
      · replace h := z_ifp c11 h
        refine lv_iload hx hb dX11_mend_61 (lv_at hl 2 rfl) ?_
        exact z_reti C0 hw hS (Option.some.inj h) dX11_mend_63
      · replace h := z_ifn c11 h
        refine lv_iload hx hb dX11_mend_37 (lv_at hl 2 rfl) ?_
        refine lv_aload_n hx hb dX11_mend_39 rfl (lv_at hl 1 rfl) ?_
        refine lv_iload hx hb dX11_mend_40 (lv_at hl 3 rfl) ?_
        refine lv_aload_n hx hb dX11_mend_42 rfl (lv_at hl 0 rfl) ?_
        refine z_getU C0 in_X11_mend_X11 (C := RX11) (T := TX11) (N := 14) hw (k := 20) (ci := 11) (v := .ref (F 60)) rfl rfl rfl rfl 3 (by decide) rfl 1 rfl (Or.inl rfl) dX11_mend_43 ?_
        refine z_getU C0 in_X11_mend_X4 (C := RX4) (T := TX4) (N := 6) hw (k := 60) (ci := 4) (v := .int ((zsc S 60 4))) rfl rfl rfl rfl 4 (by decide) rfl 2 rfl (Or.inl rfl) dX11_mend_46 ?_
        obtain ⟨w12, ew12, h⟩ := z_bd h
        refine z_goi C0 hw hS (res := (w12, S)) (rest := [.int x4]) (arr := (Value.ref (zad F G (100 + 4 * q9)) :: [.int x5, .int ((zsc S 60 4))]).toArray) ?_ (fun H locs hw hS => ?_)
        · rcases zOK_cases hq9 with zz | zz | zz | zz | zz | zz | zz
          · exact va_runU (z_fix C0) (c_X5_rubsToMend l D Y F G S _ q9 hq9 x5 ((zsc S 60 4)) w12 ew12) (va_cwU 2 hts gX11_mend_X5_rubsToMend_u244X0 rfl rfl rfl rfl (by decide +kernel) ⟨Nat.le_of_ble_eq_true rfl, Nat.le_of_ble_eq_true rfl⟩) ⟨zPc_blind, z_prec C0 hw hq9 (ci := 0) zz rfl, z_give C0 hw hS _⟩ rfl rfl hl.1 rfl (lv_room (Nat.le_of_ble_eq_true rfl)) dX11_mend_49 ⟨Nat.zero_le _, Nat.zero_le _⟩
          · exact va_runU (z_fix C0) (c_X5_rubsToMend l D Y F G S _ q9 hq9 x5 ((zsc S 60 4)) w12 ew12) (va_cwU 2 hts gX11_mend_X5_rubsToMend_u244X1 rfl rfl rfl rfl (by decide +kernel) ⟨Nat.le_of_ble_eq_true rfl, Nat.le_of_ble_eq_true rfl⟩) ⟨zPc_blind, z_prec C0 hw hq9 (ci := 1) zz rfl, z_give C0 hw hS _⟩ rfl rfl hl.1 rfl (lv_room (Nat.le_of_ble_eq_true rfl)) dX11_mend_49 ⟨Nat.zero_le _, Nat.zero_le _⟩
          · exact va_runU (z_fix C0) (c_X5_rubsToMend l D Y F G S _ q9 hq9 x5 ((zsc S 60 4)) w12 ew12) (va_cwU 2 hts gX11_mend_X5_rubsToMend_u244X2 rfl rfl rfl rfl (by decide +kernel) ⟨Nat.le_of_ble_eq_true rfl, Nat.le_of_ble_eq_true rfl⟩) ⟨zPc_blind, z_prec C0 hw hq9 (ci := 2) zz rfl, z_give C0 hw hS _⟩ rfl rfl hl.1 rfl (lv_room (Nat.le_of_ble_eq_true rfl)) dX11_mend_49 ⟨Nat.zero_le _, Nat.zero_le _⟩
          · exact va_runU (z_fix C0) (c_X5_rubsToMend l D Y F G S _ q9 hq9 x5 ((zsc S 60 4)) w12 ew12) (va_cwU 2 hts gX11_mend_X5_rubsToMend_u244X3 rfl rfl rfl rfl (by decide +kernel) ⟨Nat.le_of_ble_eq_true rfl, Nat.le_of_ble_eq_true rfl⟩) ⟨zPc_blind, z_prec C0 hw hq9 (ci := 3) zz rfl, z_give C0 hw hS _⟩ rfl rfl hl.1 rfl (lv_room (Nat.le_of_ble_eq_true rfl)) dX11_mend_49 ⟨Nat.zero_le _, Nat.zero_le _⟩
          · exact va_runV (z_fix C0) (c_X5_rubsToMend l D Y F G S _ q9 hq9 x5 ((zsc S 60 4)) w12 ew12) (cwV 2 hts gX11_mend_X5_rubsToMend rfl rfl rfl (by decide +kernel) ⟨Nat.le_of_ble_eq_true rfl, Nat.le_of_ble_eq_true rfl⟩) ⟨zPc_blind, z_prec C0 hw hq9 (ci := 5) zz rfl, z_give C0 hw hS _⟩ rfl rfl hl.1 rfl (lv_room (Nat.le_of_ble_eq_true rfl)) dX11_mend_49 ⟨Nat.zero_le _, Nat.zero_le _⟩
          · exact va_runU (z_fix C0) (c_X5_rubsToMend l D Y F G S _ q9 hq9 x5 ((zsc S 60 4)) w12 ew12) (va_cwU 2 hts gX11_mend_X5_rubsToMend_u244X8 rfl rfl rfl rfl (by decide +kernel) ⟨Nat.le_of_ble_eq_true rfl, Nat.le_of_ble_eq_true rfl⟩) ⟨zPc_blind, z_prec C0 hw hq9 (ci := 8) zz rfl, z_give C0 hw hS _⟩ rfl rfl hl.1 rfl (lv_room (Nat.le_of_ble_eq_true rfl)) dX11_mend_49 ⟨Nat.zero_le _, Nat.zero_le _⟩
          · exact va_runU (z_fix C0) (c_X5_rubsToMend l D Y F G S _ q9 hq9 x5 ((zsc S 60 4)) w12 ew12) (va_cwU 2 hts gX11_mend_X5_rubsToMend_u244X10 rfl rfl rfl rfl (by decide +kernel) ⟨Nat.le_of_ble_eq_true rfl, Nat.le_of_ble_eq_true rfl⟩) ⟨zPc_blind, z_prec C0 hw hq9 (ci := 10) zz rfl, z_give C0 hw hS _⟩ rfl rfl hl.1 rfl (lv_room (Nat.le_of_ble_eq_true rfl)) dX11_mend_49 ⟨Nat.zero_le _, Nat.zero_le _⟩
        refine lv_iadd hx hb dX11_mend_52 ?_
        refine lv_istore (lv' := [(4, .int ((x4 + w12))), (0, .ref (F 20)), (3, .ref (zad F G (100 + 4 * q9))), (5, .int x5)]) hx hb dX11_mend_53 hl (by decide) rfl (fun ls hl => ?_)
        refine lv_iinc (v := (x5 + 1)) (lv' := [(5, .int ((x5 + 1))), (4, .int ((x4 + w12))), (0, .ref (F 20)), (3, .ref (zad F G (100 + 4 * q9)))]) hx hb dX11_mend_55 hl (k := 3) rfl rfl (by decide) rfl (fun ls hl => ?_)
        refine lv_goto (tgt := 30) hx hb dX11_mend_58 (by decide) ?_
        exact ih S (some q9) ((x4 + w12)) ((x5 + 1)) h _ _ _ hw hS (lv_sub hl [2, 3, 1, 0] rfl)
def M_X11_mend (pk : Nat → Nat) (S : zSt) (x1 : Int32) (x2 : Int32) : Option (Int32 × zSt) :=
  Option.bind (M_X4_personAt pk S 0 x1) (fun w1 => (zm w1 (Option.bind (M_X11_refuse pk S (-1)) (fun w3 => some (w3.1, w3.2))) (fun q2 => zg (zOKb pk q2) ((if x2 = (-1) then M_X11_mend_B30 pk zF S (some q2) 0 0 else Option.bind (M_X11_isDeed pk S x2) (fun w5 => (if w5 = 0 then Option.bind (M_X11_refuse pk S (-6)) (fun w7 => some (w7.1, w7.2)) else Option.bind (M_X5_rubsToMend pk S q2 x2 ((zsc S 60 4))) (fun w8 => some (w8, S)))))))))
set_option maxHeartbeats 4000000 in
set_option maxRecDepth 100000 in
theorem c_X11_mend (l : Launch) (D : va_G) (Y : Nat → ClassId) (F : Nat → Nat) (G : zG) (S : zSt) (sz : Nat) (x1 : Int32) (x2 : Int32) (res : Int32 × zSt) (h : M_X11_mend (zpk G) S x1 x2 = some res) : Met l yX11_mend wsX11_mend (zRm 4 89) (zPc D Y F G S sz [.ref (F 20), .int x1, .int x2]) (zQi D Y F (zAo F G sz) G res) 0 0 (zAo F G sz) := by
  unfold M_X11_mend at h
  refine zMet (cc := cX11_mend) (maxL := 6) (ret := (some .int)) (own := RX11) (by decide +kernel) rfl rfl (Nat.le_of_ble_eq_true rfl) ?_
  intro p e s m args below meth c C0 hin hw hS ls hl
  have hl : lv_has ls 6 [(0, .ref (F 20)), (1, .int x1), (2, .int x2)] := hl
  generalize zAo F G sz = A at C0 hw hS ⊢
  obtain ⟨hx, hb, hml, hr, hown, hts, hK, hA, hlk, hN⟩ := id C0
  refine lv_aload_n hx hb dX11_mend_0 rfl (lv_at hl 0 rfl) ?_
  refine z_getU C0 in_X11_mend_X11 (C := RX11) (T := TX11) (N := 14) hw (k := 20) (ci := 11) (v := .ref (F 60)) rfl rfl rfl rfl 3 (by decide) rfl 1 rfl (Or.inl rfl) dX11_mend_1 ?_
  refine lv_iload_n hx hb dX11_mend_4 rfl (lv_at hl 1 rfl) ?_
  obtain ⟨w1, ew1, h⟩ := z_bd h
  refine z_goq C0 hw hS (r0 := w1.map (zpa F G)) (rest := []) (arr := (Value.ref (F 60) :: [.int x1]).toArray) ?_ (fun H locs hw hS => ?_)
  · exact va_runV (z_fix C0) (c_X4_personAt l D Y F G S _ 0 (by decide) x1 w1 ew1) (cwV 1 hts gX11_mend_X4_personAt rfl rfl rfl (by decide +kernel) ⟨Nat.le_of_ble_eq_true rfl, Nat.le_of_ble_eq_true rfl⟩) ⟨zPc_blind, z_rv C0 hw (k := 60) rfl rfl rfl rfl, z_give C0 hw hS _⟩ rfl rfl hl.1 rfl (lv_room (Nat.le_of_ble_eq_true rfl)) dX11_mend_5 ⟨Nat.zero_le _, Nat.zero_le _⟩
  rcases w1 with _ | q2
  · replace h := zm_n h
    refine z_topv (y := .null) rfl ?_
    refine lv_astore_nN (lv' := [(3, .null), (0, .ref (F 20)), (1, .int x1), (2, .int x2)]) hx hb dX11_mend_8 rfl hl (by decide) rfl (fun ls hl => ?_)
    refine lv_aload_nN hx hb dX11_mend_9 rfl (lv_at hl 0 rfl) ?_
    refine lv_ifnonnullN hx hb dX11_mend_10 ?_
    refine lv_aload_n hx hb dX11_mend_13 rfl (lv_at hl 1 rfl) ?_
    refine lv_iconst (v := (-1)) hx hb dX11_mend_14 (by decide) ?_
    obtain ⟨w3, ew3, h⟩ := z_bd h
    refine z_goi C0 hw hS (res := w3) (rest := []) (arr := (Value.ref (F 20) :: [.int (-1)]).toArray) ?_ (fun H locs hw hS => ?_)
    · exact va_runV (z_fix C0) (c_X11_refuse l D Y F G S _ (-1) w3 ew3) (cwV 1 hts gX11_mend_X11_refuse rfl rfl rfl (by decide +kernel) ⟨Nat.le_of_ble_eq_true rfl, Nat.le_of_ble_eq_true rfl⟩) ⟨zPc_blind, z_rv C0 hw (k := 20) rfl rfl rfl rfl, z_give C0 hw hS _⟩ rfl rfl hl.1 rfl (lv_room (Nat.le_of_ble_eq_true rfl)) dX11_mend_15 ⟨Nat.zero_le _, Nat.zero_le _⟩
    exact z_reti C0 hw hS (Option.some.inj h) dX11_mend_18
  · replace h := zm_s h
    obtain ⟨bq2, h⟩ := z_gd h
    have hq2 := bq2
    refine z_topv (y := .ref (zad F G (100 + 4 * q2))) rfl ?_
    refine lv_astore_n (lv' := [(3, .ref (zad F G (100 + 4 * q2))), (0, .ref (F 20)), (1, .int x1), (2, .int x2)]) hx hb dX11_mend_8 rfl hl (by decide) rfl (fun ls hl => ?_)
    refine lv_aload_n hx hb dX11_mend_9 rfl (lv_at hl 0 rfl) ?_
    refine lv_ifnonnull (tgt := 19) hx hb dX11_mend_10 (by decide) ?_
    refine lv_iload_n hx hb dX11_mend_19 rfl (lv_at hl 3 rfl) ?_
    refine lv_iconst (v := (-1)) hx hb dX11_mend_20 (by decide) ?_
    refine lv_icmp_ne (tgt := 64) hx hb dX11_mend_21 (by decide) (fun c4 => ?_) (fun c4 => ?_)
    · replace h := z_ifn c4 h
      refine lv_iload_n hx hb dX11_mend_64 rfl (lv_at hl 3 rfl) ?_
      obtain ⟨w5, ew5, h⟩ := z_bd h
      refine z_goi C0 hw hS (res := (w5, S)) (rest := []) (arr := ([.int x2] : List Value).toArray) ?_ (fun H locs hw hS => ?_)
      · exact va_runS (z_fix C0) (c_X11_isDeed l D Y F G S _ x2 w5 ew5) (va_cwS 1 hts gX11_mend_X11_isDeed rfl rfl rfl (by decide +kernel) ⟨Nat.le_of_ble_eq_true rfl, Nat.le_of_ble_eq_true rfl⟩) ⟨zPc_blind, z_give C0 hw hS _⟩ rfl rfl hl.1 rfl (lv_room (Nat.le_of_ble_eq_true rfl)) dX11_mend_65 ⟨Nat.zero_le _, Nat.zero_le _⟩
      refine lv_if_eq (tgt := 86) hx hb dX11_mend_68 (by decide) (fun c6 => ?_) (fun c6 => ?_)
      · replace h := z_ifp c6 h
        refine lv_aload_n hx hb dX11_mend_86 rfl (lv_at hl 1 rfl) ?_
        refine lv_bipush (v := (-6)) hx hb dX11_mend_87 (by decide) ?_
        obtain ⟨w7, ew7, h⟩ := z_bd h
        refine z_goi C0 hw hS (res := w7) (rest := []) (arr := (Value.ref (F 20) :: [.int (-6)]).toArray) ?_ (fun H locs hw hS => ?_)
        · exact va_runV (z_fix C0) (c_X11_refuse l D Y F G S _ (-6) w7 ew7) (cwV 1 hts gX11_mend_X11_refuse rfl rfl rfl (by decide +kernel) ⟨Nat.le_of_ble_eq_true rfl, Nat.le_of_ble_eq_true rfl⟩) ⟨zPc_blind, z_rv C0 hw (k := 20) rfl rfl rfl rfl, z_give C0 hw hS _⟩ rfl rfl hl.1 rfl (lv_room (Nat.le_of_ble_eq_true rfl)) dX11_mend_89 ⟨Nat.zero_le _, Nat.zero_le _⟩
        exact z_reti C0 hw hS (Option.some.inj h) dX11_mend_92
      · replace h := z_ifn c6 h
        refine lv_aload_n hx hb dX11_mend_71 rfl (lv_at hl 0 rfl) ?_
        refine lv_iload_n hx hb dX11_mend_72 rfl (lv_at hl 3 rfl) ?_
        refine lv_aload_n hx hb dX11_mend_73 rfl (lv_at hl 1 rfl) ?_
        refine z_getU C0 in_X11_mend_X11 (C := RX11) (T := TX11) (N := 14) hw (k := 20) (ci := 11) (v := .ref (F 60)) rfl rfl rfl rfl 3 (by decide) rfl 1 rfl (Or.inl rfl) dX11_mend_74 ?_
        refine z_getU C0 in_X11_mend_X4 (C := RX4) (T := TX4) (N := 6) hw (k := 60) (ci := 4) (v := .int ((zsc S 60 4))) rfl rfl rfl rfl 4 (by decide) rfl 2 rfl (Or.inl rfl) dX11_mend_77 ?_
        obtain ⟨w8, ew8, h⟩ := z_bd h
        refine z_goi C0 hw hS (res := (w8, S)) (rest := []) (arr := (Value.ref (zad F G (100 + 4 * q2)) :: [.int x2, .int ((zsc S 60 4))]).toArray) ?_ (fun H locs hw hS => ?_)
        · rcases zOK_cases hq2 with zz | zz | zz | zz | zz | zz | zz
          · exact va_runU (z_fix C0) (c_X5_rubsToMend l D Y F G S _ q2 hq2 x2 ((zsc S 60 4)) w8 ew8) (va_cwU 2 hts gX11_mend_X5_rubsToMend_u244X0 rfl rfl rfl rfl (by decide +kernel) ⟨Nat.le_of_ble_eq_true rfl, Nat.le_of_ble_eq_true rfl⟩) ⟨zPc_blind, z_prec C0 hw hq2 (ci := 0) zz rfl, z_give C0 hw hS _⟩ rfl rfl hl.1 rfl (lv_room (Nat.le_of_ble_eq_true rfl)) dX11_mend_80 ⟨Nat.zero_le _, Nat.zero_le _⟩
          · exact va_runU (z_fix C0) (c_X5_rubsToMend l D Y F G S _ q2 hq2 x2 ((zsc S 60 4)) w8 ew8) (va_cwU 2 hts gX11_mend_X5_rubsToMend_u244X1 rfl rfl rfl rfl (by decide +kernel) ⟨Nat.le_of_ble_eq_true rfl, Nat.le_of_ble_eq_true rfl⟩) ⟨zPc_blind, z_prec C0 hw hq2 (ci := 1) zz rfl, z_give C0 hw hS _⟩ rfl rfl hl.1 rfl (lv_room (Nat.le_of_ble_eq_true rfl)) dX11_mend_80 ⟨Nat.zero_le _, Nat.zero_le _⟩
          · exact va_runU (z_fix C0) (c_X5_rubsToMend l D Y F G S _ q2 hq2 x2 ((zsc S 60 4)) w8 ew8) (va_cwU 2 hts gX11_mend_X5_rubsToMend_u244X2 rfl rfl rfl rfl (by decide +kernel) ⟨Nat.le_of_ble_eq_true rfl, Nat.le_of_ble_eq_true rfl⟩) ⟨zPc_blind, z_prec C0 hw hq2 (ci := 2) zz rfl, z_give C0 hw hS _⟩ rfl rfl hl.1 rfl (lv_room (Nat.le_of_ble_eq_true rfl)) dX11_mend_80 ⟨Nat.zero_le _, Nat.zero_le _⟩
          · exact va_runU (z_fix C0) (c_X5_rubsToMend l D Y F G S _ q2 hq2 x2 ((zsc S 60 4)) w8 ew8) (va_cwU 2 hts gX11_mend_X5_rubsToMend_u244X3 rfl rfl rfl rfl (by decide +kernel) ⟨Nat.le_of_ble_eq_true rfl, Nat.le_of_ble_eq_true rfl⟩) ⟨zPc_blind, z_prec C0 hw hq2 (ci := 3) zz rfl, z_give C0 hw hS _⟩ rfl rfl hl.1 rfl (lv_room (Nat.le_of_ble_eq_true rfl)) dX11_mend_80 ⟨Nat.zero_le _, Nat.zero_le _⟩
          · exact va_runV (z_fix C0) (c_X5_rubsToMend l D Y F G S _ q2 hq2 x2 ((zsc S 60 4)) w8 ew8) (cwV 2 hts gX11_mend_X5_rubsToMend rfl rfl rfl (by decide +kernel) ⟨Nat.le_of_ble_eq_true rfl, Nat.le_of_ble_eq_true rfl⟩) ⟨zPc_blind, z_prec C0 hw hq2 (ci := 5) zz rfl, z_give C0 hw hS _⟩ rfl rfl hl.1 rfl (lv_room (Nat.le_of_ble_eq_true rfl)) dX11_mend_80 ⟨Nat.zero_le _, Nat.zero_le _⟩
          · exact va_runU (z_fix C0) (c_X5_rubsToMend l D Y F G S _ q2 hq2 x2 ((zsc S 60 4)) w8 ew8) (va_cwU 2 hts gX11_mend_X5_rubsToMend_u244X8 rfl rfl rfl rfl (by decide +kernel) ⟨Nat.le_of_ble_eq_true rfl, Nat.le_of_ble_eq_true rfl⟩) ⟨zPc_blind, z_prec C0 hw hq2 (ci := 8) zz rfl, z_give C0 hw hS _⟩ rfl rfl hl.1 rfl (lv_room (Nat.le_of_ble_eq_true rfl)) dX11_mend_80 ⟨Nat.zero_le _, Nat.zero_le _⟩
          · exact va_runU (z_fix C0) (c_X5_rubsToMend l D Y F G S _ q2 hq2 x2 ((zsc S 60 4)) w8 ew8) (va_cwU 2 hts gX11_mend_X5_rubsToMend_u244X10 rfl rfl rfl rfl (by decide +kernel) ⟨Nat.le_of_ble_eq_true rfl, Nat.le_of_ble_eq_true rfl⟩) ⟨zPc_blind, z_prec C0 hw hq2 (ci := 10) zz rfl, z_give C0 hw hS _⟩ rfl rfl hl.1 rfl (lv_room (Nat.le_of_ble_eq_true rfl)) dX11_mend_80 ⟨Nat.zero_le _, Nat.zero_le _⟩
        refine lv_goto (tgt := 92) hx hb dX11_mend_83 (by decide) ?_
        exact z_reti C0 hw hS (Option.some.inj h) dX11_mend_92
    · replace h := z_ifp c4 h
      refine lv_iconst (v := 0) hx hb dX11_mend_24 (by decide) ?_
      refine lv_istore (lv' := [(4, .int 0), (3, .ref (zad F G (100 + 4 * q2))), (0, .ref (F 20)), (1, .int x1), (2, .int x2)]) hx hb dX11_mend_25 hl (by decide) rfl (fun ls hl => ?_)
      refine lv_iconst (v := 0) hx hb dX11_mend_27 (by decide) ?_
      refine lv_istore (lv' := [(5, .int 0), (4, .int 0), (3, .ref (zad F G (100 + 4 * q2))), (0, .ref (F 20)), (1, .int x1), (2, .int x2)]) hx hb dX11_mend_28 hl (by decide) rfl (fun ls hl => ?_)
      exact t_X11_mend_B30 C0 res zF S (some q2) 0 0 h _ _ _ hw hS (lv_sub hl [3, 2, 1, 0] rfl)
def M_X11_bestWith (pk : Nat → Nat) (S : zSt) (x1 : Int32) (x2 : Int32) (x3 : Int32) : Option (Int32) :=
  zg (zin x1 6) (zg (zin x3 6) (Option.bind (M_J6_bitCount_0f7a4 S (((zar S 24 (Int32.toNatClampNeg x1)) &&& (zar S 25 (Int32.toNatClampNeg x3))))) (fun w3 => zg (zin ((x1 + 1)) 7) (zg (zin ((x2 ||| ((1 : Int32) <<< (x3 &&& 31)))) 64) (some ((w3 + (zar S ((28 + Int32.toNatClampNeg ((x1 + 1)))) (Int32.toNatClampNeg ((x2 ||| ((1 : Int32) <<< (x3 &&& 31)))))))))))))
set_option maxHeartbeats 4000000 in
set_option maxRecDepth 100000 in
theorem c_X11_bestWith (l : Launch) (D : va_G) (Y : Nat → ClassId) (F : Nat → Nat) (G : zG) (S : zSt) (sz : Nat) (x1 : Int32) (x2 : Int32) (x3 : Int32) (res : Int32) (h : M_X11_bestWith (zpk G) S x1 x2 x3 = some res) : Met l yX11_bestWith wsX11_bestWith (zRm 1 20) (zPc D Y F G S sz [.ref (F 20), .int x1, .int x2, .int x3]) (zQi D Y F (zAo F G sz) G (res, S)) 0 0 (zAo F G sz) := by
  unfold M_X11_bestWith at h
  refine zMet (cc := cX11_bestWith) (maxL := 5) (ret := (some .int)) (own := RX11) (by decide +kernel) rfl rfl (Nat.le_of_ble_eq_true rfl) ?_
  intro p e s m args below meth c C0 hin hw hS ls hl
  have hl : lv_has ls 5 [(0, .ref (F 20)), (1, .int x1), (2, .int x2), (3, .int x3)] := hl
  generalize zAo F G sz = A at C0 hw hS ⊢
  obtain ⟨hx, hb, hml, hr, hown, hts, hK, hA, hlk, hN⟩ := id C0
  refine lv_aload_n hx hb dX11_bestWith_0 rfl (lv_at hl 0 rfl) ?_
  refine z_getU C0 in_X11_bestWith_X11 (C := RX11) (T := TX11) (N := 14) hw (k := 20) (ci := 11) (v := .ref (F 24)) rfl rfl rfl rfl 8 (by decide) rfl 1 rfl (Or.inl rfl) dX11_bestWith_1 ?_
  refine lv_iload_n hx hb dX11_bestWith_4 rfl (lv_at hl 1 rfl) ?_
  obtain ⟨b1, h⟩ := z_gd h
  refine z_iald C0 hw 24 rfl rfl zri_24 (zin_in b1) dX11_bestWith_5 ?_
  refine lv_aload_n hx hb dX11_bestWith_6 rfl (lv_at hl 0 rfl) ?_
  refine z_getU C0 in_X11_bestWith_X11 (C := RX11) (T := TX11) (N := 14) hw (k := 20) (ci := 11) (v := .ref (F 25)) rfl rfl rfl rfl 9 (by decide) rfl 2 rfl (Or.inl rfl) dX11_bestWith_7 ?_
  refine lv_iload_n hx hb dX11_bestWith_10 rfl (lv_at hl 3 rfl) ?_
  obtain ⟨b2, h⟩ := z_gd h
  refine z_iald C0 hw 25 rfl rfl zri_25 (zin_in b2) dX11_bestWith_11 ?_
  refine lv_iand hx hb dX11_bestWith_12 ?_
  obtain ⟨w3, ew3, h⟩ := z_bd h
  refine z_goi C0 hw hS (res := (w3, S)) (rest := []) (arr := ([.int (((zar S 24 (Int32.toNatClampNeg x1)) &&& (zar S 25 (Int32.toNatClampNeg x3))))] : List Value).toArray) ?_ (fun H locs hw hS => ?_)
  · exact va_runS (z_fix C0) (c_J6_bitCount_0f7a4 l D Y F G S _ (((zar S 24 (Int32.toNatClampNeg x1)) &&& (zar S 25 (Int32.toNatClampNeg x3)))) w3 ew3) (va_cwS 1 hts gX11_bestWith_J6_bitCount_0f7a4 rfl rfl rfl (by decide +kernel) ⟨Nat.le_of_ble_eq_true rfl, Nat.le_of_ble_eq_true rfl⟩) ⟨zPc_blind, z_give C0 hw hS _⟩ rfl rfl hl.1 rfl (lv_room (Nat.le_of_ble_eq_true rfl)) dX11_bestWith_13 ⟨Nat.zero_le _, Nat.zero_le _⟩
  refine lv_istore (lv' := [(4, .int w3), (0, .ref (F 20)), (1, .int x1), (2, .int x2), (3, .int x3)]) hx hb dX11_bestWith_16 hl (by decide) rfl (fun ls hl => ?_)
  refine lv_iload hx hb dX11_bestWith_18 (lv_at hl 0 rfl) ?_
  refine lv_aload_n hx hb dX11_bestWith_20 rfl (lv_at hl 1 rfl) ?_
  refine z_getU C0 in_X11_bestWith_X11 (C := RX11) (T := TX11) (N := 14) hw (k := 20) (ci := 11) (v := .ref (F 27)) rfl rfl rfl rfl 11 (by decide) rfl 3 rfl (Or.inl rfl) dX11_bestWith_21 ?_
  refine lv_iload_n hx hb dX11_bestWith_24 rfl (lv_at hl 2 rfl) ?_
  refine lv_iconst (v := 1) hx hb dX11_bestWith_25 (by decide) ?_
  refine lv_iadd hx hb dX11_bestWith_26 ?_
  obtain ⟨b4, h⟩ := z_gd h
  refine z_aaldI C0 hw (zin_in b4) rfl dX11_bestWith_27 ?_
  refine z_topv (y := .ref (zad F G (28 + Int32.toNatClampNeg ((x1 + 1))))) rfl ?_
  refine lv_iload_n hx hb dX11_bestWith_28 rfl (lv_at hl 3 rfl) ?_
  refine lv_iconst (v := 1) hx hb dX11_bestWith_29 (by decide) ?_
  refine lv_iload_n hx hb dX11_bestWith_30 rfl (lv_at hl 4 rfl) ?_
  refine lv_ishl hx hb dX11_bestWith_31 ?_
  refine lv_ior hx hb dX11_bestWith_32 ?_
  obtain ⟨b5, h⟩ := z_gd h
  refine z_iald C0 hw ((28 + Int32.toNatClampNeg ((x1 + 1)))) (zbb_E (zin_lt b4)) rfl (zbb_R (zin_lt b4)) (zin_in b5) dX11_bestWith_33 ?_
  refine lv_iadd hx hb dX11_bestWith_34 ?_
  exact z_reti C0 hw hS (congrArg (fun z => (z, S)) (Option.some.inj h)) dX11_bestWith_35
def M_X11_bestFrom_B15 (pk : Nat → Nat) (S : zSt) (q3 : Nat) : Nat → Int32 → Int32 → Int32 → Int32 → Option (Int32)
  | 0, _, _, _, _ => none
  | n + 1, x1, x2, x4, x5 =>
  (if 6 ≤ x5 then some x4 else Option.bind (M_X5_isLeft pk S q3 x5) (fun w5 => (if w5 = 0 then M_X11_bestFrom_B15 pk S q3 n x1 x2 x4 ((x5 + 1)) else (if ((x2 >>> (x5 &&& 31)) &&& 1) = 0 then Option.bind (M_X11_bestWith pk S x1 x2 x5) (fun w8 => Option.bind (some ((if x4 < w8 then w8 else x4))) (fun v9 => M_X11_bestFrom_B15 pk S q3 n x1 x2 v9 ((x5 + 1)))) else M_X11_bestFrom_B15 pk S q3 n x1 x2 x4 ((x5 + 1))))))
set_option maxHeartbeats 4000000 in
set_option maxRecDepth 100000 in
theorem t_X11_bestFrom_B15 {p : Program} {l : Launch} {e : Env} {s : State} {m : MethodId} {args : Array Value} {below : List Frame} {meth : Method} {c : Code} {D : va_G} {Y : Nat → ClassId} {F : Nat → Nat} {A : Nat → Prop} {G : zG} (C0 : zCx p s m args meth c D Y F A RX11 cX11_bestFrom 6 (some .int) wsX11_bestFrom) (S : zSt) (q3 : Nat) (hq3 : zOKb (zpk G) q3 = true) (res : Int32) : ∀ (n : Nat), ∀ (x1 : Int32) (x2 : Int32) (x4 : Int32) (x5 : Int32), M_X11_bestFrom_B15 (zpk G) S q3 n x1 x2 x4 x5 = some res → ∀ (H : Heap) (locs : List Loc) (ls : Array Slot), zH D Y F A G S H → va_S A s.heap H locs → lv_has ls 6 [(0, .ref (F 20)), (1, .int x1), (2, .int x2), (3, .ref (zad F G (100 + 4 * q3))), (4, .int x4), (5, .int x5)] → W p l e (zRm 2 44) s m args below meth c H locs 0 0 (MQ below (zQi D Y F A G (res, S)) args s 0 0 A) (F0 m 15 ls []) := by
  obtain ⟨hx, hb, hml, hr, hown, hts, hK, hA, hlk, hN⟩ := id C0
  intro n
  induction n with
  | zero =>
    intro x1 x2 x4 x5 h
    unfold M_X11_bestFrom_B15 at h
    cases h
  | succ n ih =>
    intro x1 x2 x4 x5 h H locs ls hw hS hl
    rw [M_X11_bestFrom_B15] at h
    refine lv_iload hx hb dX11_bestFrom_15 (lv_at hl 5 rfl) ?_
    refine lv_bipush (v := 6) hx hb dX11_bestFrom_17 (by decide) ?_
    refine lv_icmp_ge (tgt := 61) hx hb dX11_bestFrom_19 (by decide) (fun c4 => ?_) (fun c4 => ?_)
    · replace h := z_ifp c4 h
      refine lv_iload hx hb dX11_bestFrom_61 (lv_at hl 4 rfl) ?_
      exact z_reti C0 hw hS (congrArg (fun z => (z, S)) (Option.some.inj h)) dX11_bestFrom_63
    · replace h := z_ifn c4 h
      refine lv_aload_n hx hb dX11_bestFrom_22 rfl (lv_at hl 3 rfl) ?_
      refine lv_iload hx hb dX11_bestFrom_23 (lv_at hl 5 rfl) ?_
      obtain ⟨w5, ew5, h⟩ := z_bd h
      refine z_goi C0 hw hS (res := (w5, S)) (rest := []) (arr := (Value.ref (zad F G (100 + 4 * q3)) :: [.int x5]).toArray) ?_ (fun H locs hw hS => ?_)
      · rcases zOK_cases hq3 with zz | zz | zz | zz | zz | zz | zz
        · exact va_runU (z_fix C0) (c_X5_isLeft l D Y F G S _ q3 hq3 x5 w5 ew5) (va_cwU 1 hts gX11_bestFrom_X5_isLeft_u181X0 rfl rfl rfl rfl (by decide +kernel) ⟨Nat.le_of_ble_eq_true rfl, Nat.le_of_ble_eq_true rfl⟩) ⟨zPc_blind, z_prec C0 hw hq3 (ci := 0) zz rfl, z_give C0 hw hS _⟩ rfl rfl hl.1 rfl (lv_room (Nat.le_of_ble_eq_true rfl)) dX11_bestFrom_25 ⟨Nat.zero_le _, Nat.zero_le _⟩
        · exact va_runU (z_fix C0) (c_X5_isLeft l D Y F G S _ q3 hq3 x5 w5 ew5) (va_cwU 1 hts gX11_bestFrom_X5_isLeft_u181X1 rfl rfl rfl rfl (by decide +kernel) ⟨Nat.le_of_ble_eq_true rfl, Nat.le_of_ble_eq_true rfl⟩) ⟨zPc_blind, z_prec C0 hw hq3 (ci := 1) zz rfl, z_give C0 hw hS _⟩ rfl rfl hl.1 rfl (lv_room (Nat.le_of_ble_eq_true rfl)) dX11_bestFrom_25 ⟨Nat.zero_le _, Nat.zero_le _⟩
        · exact va_runU (z_fix C0) (c_X5_isLeft l D Y F G S _ q3 hq3 x5 w5 ew5) (va_cwU 1 hts gX11_bestFrom_X5_isLeft_u181X2 rfl rfl rfl rfl (by decide +kernel) ⟨Nat.le_of_ble_eq_true rfl, Nat.le_of_ble_eq_true rfl⟩) ⟨zPc_blind, z_prec C0 hw hq3 (ci := 2) zz rfl, z_give C0 hw hS _⟩ rfl rfl hl.1 rfl (lv_room (Nat.le_of_ble_eq_true rfl)) dX11_bestFrom_25 ⟨Nat.zero_le _, Nat.zero_le _⟩
        · exact va_runU (z_fix C0) (c_X5_isLeft l D Y F G S _ q3 hq3 x5 w5 ew5) (va_cwU 1 hts gX11_bestFrom_X5_isLeft_u181X3 rfl rfl rfl rfl (by decide +kernel) ⟨Nat.le_of_ble_eq_true rfl, Nat.le_of_ble_eq_true rfl⟩) ⟨zPc_blind, z_prec C0 hw hq3 (ci := 3) zz rfl, z_give C0 hw hS _⟩ rfl rfl hl.1 rfl (lv_room (Nat.le_of_ble_eq_true rfl)) dX11_bestFrom_25 ⟨Nat.zero_le _, Nat.zero_le _⟩
        · exact va_runV (z_fix C0) (c_X5_isLeft l D Y F G S _ q3 hq3 x5 w5 ew5) (cwV 1 hts gX11_bestFrom_X5_isLeft rfl rfl rfl (by decide +kernel) ⟨Nat.le_of_ble_eq_true rfl, Nat.le_of_ble_eq_true rfl⟩) ⟨zPc_blind, z_prec C0 hw hq3 (ci := 5) zz rfl, z_give C0 hw hS _⟩ rfl rfl hl.1 rfl (lv_room (Nat.le_of_ble_eq_true rfl)) dX11_bestFrom_25 ⟨Nat.zero_le _, Nat.zero_le _⟩
        · exact va_runU (z_fix C0) (c_X5_isLeft l D Y F G S _ q3 hq3 x5 w5 ew5) (va_cwU 1 hts gX11_bestFrom_X5_isLeft_u181X8 rfl rfl rfl rfl (by decide +kernel) ⟨Nat.le_of_ble_eq_true rfl, Nat.le_of_ble_eq_true rfl⟩) ⟨zPc_blind, z_prec C0 hw hq3 (ci := 8) zz rfl, z_give C0 hw hS _⟩ rfl rfl hl.1 rfl (lv_room (Nat.le_of_ble_eq_true rfl)) dX11_bestFrom_25 ⟨Nat.zero_le _, Nat.zero_le _⟩
        · exact va_runU (z_fix C0) (c_X5_isLeft l D Y F G S _ q3 hq3 x5 w5 ew5) (va_cwU 1 hts gX11_bestFrom_X5_isLeft_u181X10 rfl rfl rfl rfl (by decide +kernel) ⟨Nat.le_of_ble_eq_true rfl, Nat.le_of_ble_eq_true rfl⟩) ⟨zPc_blind, z_prec C0 hw hq3 (ci := 10) zz rfl, z_give C0 hw hS _⟩ rfl rfl hl.1 rfl (lv_room (Nat.le_of_ble_eq_true rfl)) dX11_bestFrom_25 ⟨Nat.zero_le _, Nat.zero_le _⟩
      refine lv_if_eq (tgt := 55) hx hb dX11_bestFrom_28 (by decide) (fun c6 => ?_) (fun c6 => ?_)
      · replace h := z_ifp c6 h
        refine lv_iinc (v := (x5 + 1)) (lv' := [(5, .int ((x5 + 1))), (0, .ref (F 20)), (1, .int x1), (2, .int x2), (3, .ref (zad F G (100 + 4 * q3))), (4, .int x4)]) hx hb dX11_bestFrom_55 hl (k := 5) rfl rfl (by decide) rfl (fun ls hl => ?_)
        refine lv_goto (tgt := 15) hx hb dX11_bestFrom_58 (by decide) ?_
        exact ih x1 x2 x4 ((x5 + 1)) h _ _ _ hw hS (lv_sub hl [1, 2, 3, 4, 5, 0] rfl)
      · replace h := z_ifn c6 h
        refine lv_iload_n hx hb dX11_bestFrom_31 rfl (lv_at hl 2 rfl) ?_
        refine lv_iload hx hb dX11_bestFrom_32 (lv_at hl 5 rfl) ?_
        refine lv_ishr hx hb dX11_bestFrom_34 ?_
        refine lv_iconst (v := 1) hx hb dX11_bestFrom_35 (by decide) ?_
        refine lv_iand hx hb dX11_bestFrom_36 ?_
        refine lv_if_ne (tgt := 55) hx hb dX11_bestFrom_37 (by decide) (fun c7 => ?_) (fun c7 => ?_)
        · replace h := z_ifn c7 h
          refine lv_iinc (v := (x5 + 1)) (lv' := [(5, .int ((x5 + 1))), (0, .ref (F 20)), (1, .int x1), (2, .int x2), (3, .ref (zad F G (100 + 4 * q3))), (4, .int x4)]) hx hb dX11_bestFrom_55 hl (k := 5) rfl rfl (by decide) rfl (fun ls hl => ?_)
          refine lv_goto (tgt := 15) hx hb dX11_bestFrom_58 (by decide) ?_
          exact ih x1 x2 x4 ((x5 + 1)) h _ _ _ hw hS (lv_sub hl [1, 2, 3, 4, 5, 0] rfl)
        · replace h := z_ifp c7 h
          refine lv_iload hx hb dX11_bestFrom_40 (lv_at hl 4 rfl) ?_
          refine lv_aload_n hx hb dX11_bestFrom_42 rfl (lv_at hl 0 rfl) ?_
          refine lv_iload_n hx hb dX11_bestFrom_43 rfl (lv_at hl 1 rfl) ?_
          refine lv_iload_n hx hb dX11_bestFrom_44 rfl (lv_at hl 2 rfl) ?_
          refine lv_iload hx hb dX11_bestFrom_45 (lv_at hl 5 rfl) ?_
          obtain ⟨w8, ew8, h⟩ := z_bd h
          refine z_goi C0 hw hS (res := (w8, S)) (rest := [.int x4]) (arr := (Value.ref (F 20) :: [.int x1, .int x2, .int x5]).toArray) ?_ (fun H locs hw hS => ?_)
          · exact va_runV (z_fix C0) (c_X11_bestWith l D Y F G S _ x1 x2 x5 w8 ew8) (cwV 3 hts gX11_bestFrom_X11_bestWith rfl rfl rfl (by decide +kernel) ⟨Nat.le_of_ble_eq_true rfl, Nat.le_of_ble_eq_true rfl⟩) ⟨zPc_blind, z_rv C0 hw (k := 20) rfl rfl rfl rfl, z_give C0 hw hS _⟩ rfl rfl hl.1 rfl (lv_room (Nat.le_of_ble_eq_true rfl)) dX11_bestFrom_47 ⟨Nat.zero_le _, Nat.zero_le _⟩
          refine va_mmax hx hb (hml.trans hl.1.symm) hown (hts _ (List.mem_of_getElem? (i := 2) rfl)) (hts _ (List.mem_of_getElem? (i := 3) rfl)) (hts _ (List.mem_of_getElem? (i := 4) rfl)) (hts _ (List.mem_of_getElem? (i := 5) rfl)) (Nat.le_of_ble_eq_true rfl) (Nat.le_of_ble_eq_true rfl) (Nat.zero_le _) (Nat.zero_le _) dX11_bestFrom_50 ?_
          obtain ⟨v9, ev9, h⟩ := z_bd h
          refine z_top (Option.some.inj ev9) ?_
          refine lv_istore (lv' := [(4, .int v9), (0, .ref (F 20)), (1, .int x1), (2, .int x2), (3, .ref (zad F G (100 + 4 * q3))), (5, .int x5)]) hx hb dX11_bestFrom_53 hl (by decide) rfl (fun ls hl => ?_)
          refine lv_iinc (v := (x5 + 1)) (lv' := [(5, .int ((x5 + 1))), (4, .int v9), (0, .ref (F 20)), (1, .int x1), (2, .int x2), (3, .ref (zad F G (100 + 4 * q3)))]) hx hb dX11_bestFrom_55 hl (k := 5) rfl rfl (by decide) rfl (fun ls hl => ?_)
          refine lv_goto (tgt := 15) hx hb dX11_bestFrom_58 (by decide) ?_
          exact ih x1 x2 v9 ((x5 + 1)) h _ _ _ hw hS (lv_sub hl [2, 3, 4, 5, 1, 0] rfl)
def M_X11_bestFrom (pk : Nat → Nat) (S : zSt) (q3 : Nat) (x1 : Int32) (x2 : Int32) : Option (Int32) :=
  zg (zin ((x1 + 1)) 7) (zg (zin x2 64) (Option.bind (some ((zar S ((28 + Int32.toNatClampNeg ((x1 + 1)))) (Int32.toNatClampNeg x2)))) (fun v3 => M_X11_bestFrom_B15 pk S q3 zF x1 x2 v3 0)))
set_option maxHeartbeats 4000000 in
set_option maxRecDepth 100000 in
theorem c_X11_bestFrom (l : Launch) (D : va_G) (Y : Nat → ClassId) (F : Nat → Nat) (G : zG) (S : zSt) (sz : Nat) (q3 : Nat) (hq3 : zOKb (zpk G) q3 = true) (x1 : Int32) (x2 : Int32) (res : Int32) (h : M_X11_bestFrom (zpk G) S q3 x1 x2 = some res) : Met l yX11_bestFrom wsX11_bestFrom (zRm 2 44) (zPc D Y F G S sz [.ref (F 20), .int x1, .int x2, .ref (zad F G (100 + 4 * q3))]) (zQi D Y F (zAo F G sz) G (res, S)) 0 0 (zAo F G sz) := by
  unfold M_X11_bestFrom at h
  refine zMet (cc := cX11_bestFrom) (maxL := 6) (ret := (some .int)) (own := RX11) (by decide +kernel) rfl rfl (Nat.le_of_ble_eq_true rfl) ?_
  intro p e s m args below meth c C0 hin hw hS ls hl
  have hl : lv_has ls 6 [(0, .ref (F 20)), (1, .int x1), (2, .int x2), (3, .ref (zad F G (100 + 4 * q3)))] := hl
  generalize zAo F G sz = A at C0 hw hS ⊢
  obtain ⟨hx, hb, hml, hr, hown, hts, hK, hA, hlk, hN⟩ := id C0
  refine lv_aload_n hx hb dX11_bestFrom_0 rfl (lv_at hl 0 rfl) ?_
  refine z_getU C0 in_X11_bestFrom_X11 (C := RX11) (T := TX11) (N := 14) hw (k := 20) (ci := 11) (v := .ref (F 27)) rfl rfl rfl rfl 11 (by decide) rfl 1 rfl (Or.inl rfl) dX11_bestFrom_1 ?_
  refine lv_iload_n hx hb dX11_bestFrom_4 rfl (lv_at hl 1 rfl) ?_
  refine lv_iconst (v := 1) hx hb dX11_bestFrom_5 (by decide) ?_
  refine lv_iadd hx hb dX11_bestFrom_6 ?_
  obtain ⟨b1, h⟩ := z_gd h
  refine z_aaldI C0 hw (zin_in b1) rfl dX11_bestFrom_7 ?_
  refine z_topv (y := .ref (zad F G (28 + Int32.toNatClampNeg ((x1 + 1))))) rfl ?_
  refine lv_iload_n hx hb dX11_bestFrom_8 rfl (lv_at hl 2 rfl) ?_
  obtain ⟨b2, h⟩ := z_gd h
  refine z_iald C0 hw ((28 + Int32.toNatClampNeg ((x1 + 1)))) (zbb_E (zin_lt b1)) rfl (zbb_R (zin_lt b1)) (zin_in b2) dX11_bestFrom_9 ?_
  obtain ⟨v3, ev3, h⟩ := z_bd h
  refine z_top (Option.some.inj ev3) ?_
  refine lv_istore (lv' := [(4, .int v3), (0, .ref (F 20)), (1, .int x1), (2, .int x2), (3, .ref (zad F G (100 + 4 * q3)))]) hx hb dX11_bestFrom_10 hl (by decide) rfl (fun ls hl => ?_)
  refine lv_iconst (v := 0) hx hb dX11_bestFrom_12 (by decide) ?_
  refine lv_istore (lv' := [(5, .int 0), (4, .int v3), (0, .ref (F 20)), (1, .int x1), (2, .int x2), (3, .ref (zad F G (100 + 4 * q3)))]) hx hb dX11_bestFrom_13 hl (by decide) rfl (fun ls hl => ?_)
  exact t_X11_bestFrom_B15 C0 S q3 hq3 res zF x1 x2 v3 0 h _ _ _ hw hS (lv_sub hl [2, 3, 4, 5, 1, 0] rfl)
def M_X11_firstBest_B30 (pk : Nat → Nat) (S : zSt) (q3 : Nat) : Nat → Int32 → Int32 → Int32 → Int32 → Option (Int32)
  | 0, _, _, _, _ => none
  | n + 1, x1, x2, x4, x5 =>
  (if 6 ≤ x5 then some (-1) else Option.bind (M_X5_isLeft pk S q3 x5) (fun w8 => (if w8 = 0 then M_X11_firstBest_B30 pk S q3 n x1 x2 x4 ((x5 + 1)) else (if ((x2 >>> (x5 &&& 31)) &&& 1) = 0 then Option.bind (M_X11_bestWith pk S x1 x2 x5) (fun w11 => (if w11 = x4 then some x5 else M_X11_firstBest_B30 pk S q3 n x1 x2 x4 ((x5 + 1)))) else M_X11_firstBest_B30 pk S q3 n x1 x2 x4 ((x5 + 1))))))
set_option maxHeartbeats 4000000 in
set_option maxRecDepth 100000 in
theorem t_X11_firstBest_B30 {p : Program} {l : Launch} {e : Env} {s : State} {m : MethodId} {args : Array Value} {below : List Frame} {meth : Method} {c : Code} {D : va_G} {Y : Nat → ClassId} {F : Nat → Nat} {A : Nat → Prop} {G : zG} (C0 : zCx p s m args meth c D Y F A RX11 cX11_firstBest 6 (some .int) wsX11_firstBest) (S : zSt) (q3 : Nat) (hq3 : zOKb (zpk G) q3 = true) (res : Int32) : ∀ (n : Nat), ∀ (x1 : Int32) (x2 : Int32) (x4 : Int32) (x5 : Int32), M_X11_firstBest_B30 (zpk G) S q3 n x1 x2 x4 x5 = some res → ∀ (H : Heap) (locs : List Loc) (ls : Array Slot), zH D Y F A G S H → va_S A s.heap H locs → lv_has ls 6 [(0, .ref (F 20)), (1, .int x1), (2, .int x2), (3, .ref (zad F G (100 + 4 * q3))), (4, .int x4), (5, .int x5)] → W p l e (zRm 2 44) s m args below meth c H locs 0 0 (MQ below (zQi D Y F A G (res, S)) args s 0 0 A) (F0 m 30 ls []) := by
  obtain ⟨hx, hb, hml, hr, hown, hts, hK, hA, hlk, hN⟩ := id C0
  intro n
  induction n with
  | zero =>
    intro x1 x2 x4 x5 h
    unfold M_X11_firstBest_B30 at h
    cases h
  | succ n ih =>
    intro x1 x2 x4 x5 h H locs ls hw hS hl
    rw [M_X11_firstBest_B30] at h
    refine lv_iload hx hb dX11_firstBest_30 (lv_at hl 5 rfl) ?_
    refine lv_bipush (v := 6) hx hb dX11_firstBest_32 (by decide) ?_
    refine lv_icmp_ge (tgt := 77) hx hb dX11_firstBest_34 (by decide) (fun c7 => ?_) (fun c7 => ?_)
    · replace h := z_ifp c7 h
      refine lv_iconst (v := (-1)) hx hb dX11_firstBest_77 (by decide) ?_
      exact z_reti C0 hw hS (congrArg (fun z => (z, S)) (Option.some.inj h)) dX11_firstBest_78
    · replace h := z_ifn c7 h
      refine lv_aload_n hx hb dX11_firstBest_37 rfl (lv_at hl 3 rfl) ?_
      refine lv_iload hx hb dX11_firstBest_38 (lv_at hl 5 rfl) ?_
      obtain ⟨w8, ew8, h⟩ := z_bd h
      refine z_goi C0 hw hS (res := (w8, S)) (rest := []) (arr := (Value.ref (zad F G (100 + 4 * q3)) :: [.int x5]).toArray) ?_ (fun H locs hw hS => ?_)
      · rcases zOK_cases hq3 with zz | zz | zz | zz | zz | zz | zz
        · exact va_runU (z_fix C0) (c_X5_isLeft l D Y F G S _ q3 hq3 x5 w8 ew8) (va_cwU 1 hts gX11_firstBest_X5_isLeft_u181X0 rfl rfl rfl rfl (by decide +kernel) ⟨Nat.le_of_ble_eq_true rfl, Nat.le_of_ble_eq_true rfl⟩) ⟨zPc_blind, z_prec C0 hw hq3 (ci := 0) zz rfl, z_give C0 hw hS _⟩ rfl rfl hl.1 rfl (lv_room (Nat.le_of_ble_eq_true rfl)) dX11_firstBest_40 ⟨Nat.zero_le _, Nat.zero_le _⟩
        · exact va_runU (z_fix C0) (c_X5_isLeft l D Y F G S _ q3 hq3 x5 w8 ew8) (va_cwU 1 hts gX11_firstBest_X5_isLeft_u181X1 rfl rfl rfl rfl (by decide +kernel) ⟨Nat.le_of_ble_eq_true rfl, Nat.le_of_ble_eq_true rfl⟩) ⟨zPc_blind, z_prec C0 hw hq3 (ci := 1) zz rfl, z_give C0 hw hS _⟩ rfl rfl hl.1 rfl (lv_room (Nat.le_of_ble_eq_true rfl)) dX11_firstBest_40 ⟨Nat.zero_le _, Nat.zero_le _⟩
        · exact va_runU (z_fix C0) (c_X5_isLeft l D Y F G S _ q3 hq3 x5 w8 ew8) (va_cwU 1 hts gX11_firstBest_X5_isLeft_u181X2 rfl rfl rfl rfl (by decide +kernel) ⟨Nat.le_of_ble_eq_true rfl, Nat.le_of_ble_eq_true rfl⟩) ⟨zPc_blind, z_prec C0 hw hq3 (ci := 2) zz rfl, z_give C0 hw hS _⟩ rfl rfl hl.1 rfl (lv_room (Nat.le_of_ble_eq_true rfl)) dX11_firstBest_40 ⟨Nat.zero_le _, Nat.zero_le _⟩
        · exact va_runU (z_fix C0) (c_X5_isLeft l D Y F G S _ q3 hq3 x5 w8 ew8) (va_cwU 1 hts gX11_firstBest_X5_isLeft_u181X3 rfl rfl rfl rfl (by decide +kernel) ⟨Nat.le_of_ble_eq_true rfl, Nat.le_of_ble_eq_true rfl⟩) ⟨zPc_blind, z_prec C0 hw hq3 (ci := 3) zz rfl, z_give C0 hw hS _⟩ rfl rfl hl.1 rfl (lv_room (Nat.le_of_ble_eq_true rfl)) dX11_firstBest_40 ⟨Nat.zero_le _, Nat.zero_le _⟩
        · exact va_runV (z_fix C0) (c_X5_isLeft l D Y F G S _ q3 hq3 x5 w8 ew8) (cwV 1 hts gX11_firstBest_X5_isLeft rfl rfl rfl (by decide +kernel) ⟨Nat.le_of_ble_eq_true rfl, Nat.le_of_ble_eq_true rfl⟩) ⟨zPc_blind, z_prec C0 hw hq3 (ci := 5) zz rfl, z_give C0 hw hS _⟩ rfl rfl hl.1 rfl (lv_room (Nat.le_of_ble_eq_true rfl)) dX11_firstBest_40 ⟨Nat.zero_le _, Nat.zero_le _⟩
        · exact va_runU (z_fix C0) (c_X5_isLeft l D Y F G S _ q3 hq3 x5 w8 ew8) (va_cwU 1 hts gX11_firstBest_X5_isLeft_u181X8 rfl rfl rfl rfl (by decide +kernel) ⟨Nat.le_of_ble_eq_true rfl, Nat.le_of_ble_eq_true rfl⟩) ⟨zPc_blind, z_prec C0 hw hq3 (ci := 8) zz rfl, z_give C0 hw hS _⟩ rfl rfl hl.1 rfl (lv_room (Nat.le_of_ble_eq_true rfl)) dX11_firstBest_40 ⟨Nat.zero_le _, Nat.zero_le _⟩
        · exact va_runU (z_fix C0) (c_X5_isLeft l D Y F G S _ q3 hq3 x5 w8 ew8) (va_cwU 1 hts gX11_firstBest_X5_isLeft_u181X10 rfl rfl rfl rfl (by decide +kernel) ⟨Nat.le_of_ble_eq_true rfl, Nat.le_of_ble_eq_true rfl⟩) ⟨zPc_blind, z_prec C0 hw hq3 (ci := 10) zz rfl, z_give C0 hw hS _⟩ rfl rfl hl.1 rfl (lv_room (Nat.le_of_ble_eq_true rfl)) dX11_firstBest_40 ⟨Nat.zero_le _, Nat.zero_le _⟩
      refine lv_if_eq (tgt := 71) hx hb dX11_firstBest_43 (by decide) (fun c9 => ?_) (fun c9 => ?_)
      · replace h := z_ifp c9 h
        refine lv_iinc (v := (x5 + 1)) (lv' := [(5, .int ((x5 + 1))), (0, .ref (F 20)), (1, .int x1), (2, .int x2), (3, .ref (zad F G (100 + 4 * q3))), (4, .int x4)]) hx hb dX11_firstBest_71 hl (k := 5) rfl rfl (by decide) rfl (fun ls hl => ?_)
        refine lv_goto (tgt := 30) hx hb dX11_firstBest_74 (by decide) ?_
        exact ih x1 x2 x4 ((x5 + 1)) h _ _ _ hw hS (lv_sub hl [1, 2, 3, 4, 5, 0] rfl)
      · replace h := z_ifn c9 h
        refine lv_iload_n hx hb dX11_firstBest_46 rfl (lv_at hl 2 rfl) ?_
        refine lv_iload hx hb dX11_firstBest_47 (lv_at hl 5 rfl) ?_
        refine lv_ishr hx hb dX11_firstBest_49 ?_
        refine lv_iconst (v := 1) hx hb dX11_firstBest_50 (by decide) ?_
        refine lv_iand hx hb dX11_firstBest_51 ?_
        refine lv_if_ne (tgt := 71) hx hb dX11_firstBest_52 (by decide) (fun c10 => ?_) (fun c10 => ?_)
        · replace h := z_ifn c10 h
          refine lv_iinc (v := (x5 + 1)) (lv' := [(5, .int ((x5 + 1))), (0, .ref (F 20)), (1, .int x1), (2, .int x2), (3, .ref (zad F G (100 + 4 * q3))), (4, .int x4)]) hx hb dX11_firstBest_71 hl (k := 5) rfl rfl (by decide) rfl (fun ls hl => ?_)
          refine lv_goto (tgt := 30) hx hb dX11_firstBest_74 (by decide) ?_
          exact ih x1 x2 x4 ((x5 + 1)) h _ _ _ hw hS (lv_sub hl [1, 2, 3, 4, 5, 0] rfl)
        · replace h := z_ifp c10 h
          refine lv_aload_n hx hb dX11_firstBest_55 rfl (lv_at hl 0 rfl) ?_
          refine lv_iload_n hx hb dX11_firstBest_56 rfl (lv_at hl 1 rfl) ?_
          refine lv_iload_n hx hb dX11_firstBest_57 rfl (lv_at hl 2 rfl) ?_
          refine lv_iload hx hb dX11_firstBest_58 (lv_at hl 5 rfl) ?_
          obtain ⟨w11, ew11, h⟩ := z_bd h
          refine z_goi C0 hw hS (res := (w11, S)) (rest := []) (arr := (Value.ref (F 20) :: [.int x1, .int x2, .int x5]).toArray) ?_ (fun H locs hw hS => ?_)
          · exact va_runV (z_fix C0) (c_X11_bestWith l D Y F G S _ x1 x2 x5 w11 ew11) (cwV 3 hts gX11_firstBest_X11_bestWith rfl rfl rfl (by decide +kernel) ⟨Nat.le_of_ble_eq_true rfl, Nat.le_of_ble_eq_true rfl⟩) ⟨zPc_blind, z_rv C0 hw (k := 20) rfl rfl rfl rfl, z_give C0 hw hS _⟩ rfl rfl hl.1 rfl (lv_room (Nat.le_of_ble_eq_true rfl)) dX11_firstBest_60 ⟨Nat.zero_le _, Nat.zero_le _⟩
          refine lv_iload hx hb dX11_firstBest_63 (lv_at hl 4 rfl) ?_
          refine lv_icmp_ne (tgt := 71) hx hb dX11_firstBest_65 (by decide) (fun c12 => ?_) (fun c12 => ?_)
          · replace h := z_ifn c12 h
            refine lv_iinc (v := (x5 + 1)) (lv' := [(5, .int ((x5 + 1))), (0, .ref (F 20)), (1, .int x1), (2, .int x2), (3, .ref (zad F G (100 + 4 * q3))), (4, .int x4)]) hx hb dX11_firstBest_71 hl (k := 5) rfl rfl (by decide) rfl (fun ls hl => ?_)
            refine lv_goto (tgt := 30) hx hb dX11_firstBest_74 (by decide) ?_
            exact ih x1 x2 x4 ((x5 + 1)) h _ _ _ hw hS (lv_sub hl [1, 2, 3, 4, 5, 0] rfl)
          · replace h := z_ifp c12 h
            refine lv_iload hx hb dX11_firstBest_68 (lv_at hl 5 rfl) ?_
            exact z_reti C0 hw hS (congrArg (fun z => (z, S)) (Option.some.inj h)) dX11_firstBest_70
def M_X11_firstBest (pk : Nat → Nat) (S : zSt) (q3 : Nat) (x1 : Int32) (x2 : Int32) : Option (Int32) :=
  zg (zin x1 7) (zg (zin x2 64) (Option.bind (some ((zar S ((28 + Int32.toNatClampNeg x1)) (Int32.toNatClampNeg x2)))) (fun v3 => zg (zin ((x1 + 1)) 7) (zg (zin x2 64) ((if (zar S ((28 + Int32.toNatClampNeg ((x1 + 1)))) (Int32.toNatClampNeg x2)) = v3 then some (-1) else M_X11_firstBest_B30 pk S q3 zF x1 x2 v3 0))))))
set_option maxHeartbeats 4000000 in
set_option maxRecDepth 100000 in
theorem c_X11_firstBest (l : Launch) (D : va_G) (Y : Nat → ClassId) (F : Nat → Nat) (G : zG) (S : zSt) (sz : Nat) (q3 : Nat) (hq3 : zOKb (zpk G) q3 = true) (x1 : Int32) (x2 : Int32) (res : Int32) (h : M_X11_firstBest (zpk G) S q3 x1 x2 = some res) : Met l yX11_firstBest wsX11_firstBest (zRm 2 44) (zPc D Y F G S sz [.ref (F 20), .int x1, .int x2, .ref (zad F G (100 + 4 * q3))]) (zQi D Y F (zAo F G sz) G (res, S)) 0 0 (zAo F G sz) := by
  unfold M_X11_firstBest at h
  refine zMet (cc := cX11_firstBest) (maxL := 6) (ret := (some .int)) (own := RX11) (by decide +kernel) rfl rfl (Nat.le_of_ble_eq_true rfl) ?_
  intro p e s m args below meth c C0 hin hw hS ls hl
  have hl : lv_has ls 6 [(0, .ref (F 20)), (1, .int x1), (2, .int x2), (3, .ref (zad F G (100 + 4 * q3)))] := hl
  generalize zAo F G sz = A at C0 hw hS ⊢
  obtain ⟨hx, hb, hml, hr, hown, hts, hK, hA, hlk, hN⟩ := id C0
  refine lv_aload_n hx hb dX11_firstBest_0 rfl (lv_at hl 0 rfl) ?_
  refine z_getU C0 in_X11_firstBest_X11 (C := RX11) (T := TX11) (N := 14) hw (k := 20) (ci := 11) (v := .ref (F 27)) rfl rfl rfl rfl 11 (by decide) rfl 1 rfl (Or.inl rfl) dX11_firstBest_1 ?_
  refine lv_iload_n hx hb dX11_firstBest_4 rfl (lv_at hl 1 rfl) ?_
  obtain ⟨b1, h⟩ := z_gd h
  refine z_aaldI C0 hw (zin_in b1) rfl dX11_firstBest_5 ?_
  refine z_topv (y := .ref (zad F G (28 + Int32.toNatClampNeg x1))) rfl ?_
  refine lv_iload_n hx hb dX11_firstBest_6 rfl (lv_at hl 2 rfl) ?_
  obtain ⟨b2, h⟩ := z_gd h
  refine z_iald C0 hw ((28 + Int32.toNatClampNeg x1)) (zbb_E (zin_lt b1)) rfl (zbb_R (zin_lt b1)) (zin_in b2) dX11_firstBest_7 ?_
  obtain ⟨v3, ev3, h⟩ := z_bd h
  refine z_top (Option.some.inj ev3) ?_
  refine lv_istore (lv' := [(4, .int v3), (0, .ref (F 20)), (1, .int x1), (2, .int x2), (3, .ref (zad F G (100 + 4 * q3)))]) hx hb dX11_firstBest_8 hl (by decide) rfl (fun ls hl => ?_)
  refine lv_aload_n hx hb dX11_firstBest_10 rfl (lv_at hl 1 rfl) ?_
  refine z_getU C0 in_X11_firstBest_X11 (C := RX11) (T := TX11) (N := 14) hw (k := 20) (ci := 11) (v := .ref (F 27)) rfl rfl rfl rfl 11 (by decide) rfl 1 rfl (Or.inl rfl) dX11_firstBest_11 ?_
  refine lv_iload_n hx hb dX11_firstBest_14 rfl (lv_at hl 2 rfl) ?_
  refine lv_iconst (v := 1) hx hb dX11_firstBest_15 (by decide) ?_
  refine lv_iadd hx hb dX11_firstBest_16 ?_
  obtain ⟨b4, h⟩ := z_gd h
  refine z_aaldI C0 hw (zin_in b4) rfl dX11_firstBest_17 ?_
  refine z_topv (y := .ref (zad F G (28 + Int32.toNatClampNeg ((x1 + 1))))) rfl ?_
  refine lv_iload_n hx hb dX11_firstBest_18 rfl (lv_at hl 3 rfl) ?_
  obtain ⟨b5, h⟩ := z_gd h
  refine z_iald C0 hw ((28 + Int32.toNatClampNeg ((x1 + 1)))) (zbb_E (zin_lt b4)) rfl (zbb_R (zin_lt b4)) (zin_in b5) dX11_firstBest_19 ?_
  refine lv_iload hx hb dX11_firstBest_20 (lv_at hl 0 rfl) ?_
  refine lv_icmp_ne (tgt := 27) hx hb dX11_firstBest_22 (by decide) (fun c6 => ?_) (fun c6 => ?_)
  · replace h := z_ifn c6 h
    refine lv_iconst (v := 0) hx hb dX11_firstBest_27 (by decide) ?_
    refine lv_istore (lv' := [(5, .int 0), (4, .int v3), (0, .ref (F 20)), (1, .int x1), (2, .int x2), (3, .ref (zad F G (100 + 4 * q3)))]) hx hb dX11_firstBest_28 hl (by decide) rfl (fun ls hl => ?_)
    exact t_X11_firstBest_B30 C0 S q3 hq3 res zF x1 x2 v3 0 h _ _ _ hw hS (lv_sub hl [2, 3, 4, 5, 1, 0] rfl)
  · replace h := z_ifp c6 h
    refine lv_iconst (v := (-1)) hx hb dX11_firstBest_25 (by decide) ?_
    exact z_reti C0 hw hS (congrArg (fun z => (z, S)) (Option.some.inj h)) dX11_firstBest_26
