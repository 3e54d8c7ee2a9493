set_option maxRecDepth 20000 in
theorem in_X11_copy_X7 : ∀ w ∈ u_ws RX7 TX7 3, w ∈ wsX11_copy := by decide +kernel
set_option maxRecDepth 20000 in
theorem in_X11_holds_X7 : ∀ w ∈ u_ws RX7 TX7 3, w ∈ wsX11_holds := by decide +kernel
set_option maxRecDepth 20000 in
theorem in_X11_refusalOfLife_X7 : ∀ w ∈ u_ws RX7 TX7 3, w ∈ wsX11_refusalOfLife := by decide +kernel
set_option maxRecDepth 20000 in
theorem in_X11_refusalOfTold_X7 : ∀ w ∈ u_ws RX7 TX7 3, w ∈ wsX11_refusalOfTold := by decide +kernel
set_option maxRecDepth 20000 in
theorem in_X11_refusalOfTwo_X7 : ∀ w ∈ u_ws RX7 TX7 3, w ∈ wsX11_refusalOfTwo := by decide +kernel
set_option maxRecDepth 20000 in
theorem in_X11_refuseLess_X11 : ∀ w ∈ u_ws RX11 TX11 14, w ∈ wsX11_refuseLess := by decide +kernel
set_option maxRecDepth 20000 in
theorem in_X11_shelfAt_X11 : ∀ w ∈ u_ws RX11 TX11 14, w ∈ wsX11_shelfAt := by decide +kernel
set_option maxRecDepth 20000 in
theorem in_X11_show_X11 : ∀ w ∈ u_ws RX11 TX11 14, w ∈ wsX11_show := by decide +kernel
set_option maxRecDepth 20000 in
theorem in_X11_show_X7 : ∀ w ∈ u_ws RX7 TX7 3, w ∈ wsX11_show := by decide +kernel
def M_X11_isOfKind (pk : Nat → Nat) (S : zSt) (q0 : Nat) (x1 : Int32) : Option (Int32) :=
  (if x1 = 0 then some 1 else (if x1 = 1 then zg (decide ((((zis_X8 pk q0)) &&& 1) = (zis_X8 pk q0))) (some ((zis_X8 pk q0))) else (if x1 = 2 then zg (decide ((((zis_X2 pk q0)) &&& 1) = (zis_X2 pk q0))) (some ((zis_X2 pk q0))) else (if x1 = 3 then zg (decide ((((zis_X10 pk q0)) &&& 1) = (zis_X10 pk q0))) (some ((zis_X10 pk q0))) else (if x1 = 4 then zg (decide ((((zis_X3 pk q0)) &&& 1) = (zis_X3 pk q0))) (some ((zis_X3 pk q0))) else (if x1 = 5 then zg (decide ((((zis_X0 pk q0)) &&& 1) = (zis_X0 pk q0))) (some ((zis_X0 pk q0))) else (if x1 = 6 then zg (decide ((((zis_X1 pk q0)) &&& 1) = (zis_X1 pk q0))) (some ((zis_X1 pk q0))) else some 0)))))))
set_option maxHeartbeats 4000000 in
set_option maxRecDepth 100000 in
theorem c_X11_isOfKind (l : Launch) (D : va_G) (Y : Nat → ClassId) (F : Nat → Nat) (G : zG) (S : zSt) (sz : Nat) (q0 : Nat) (hq0 : zOKb (zpk G) q0 = true) (x1 : Int32) (res : Int32) (h : M_X11_isOfKind (zpk G) S q0 x1 = some res) : Met l yX11_isOfKind wsX11_isOfKind (zRm 0 0) (zPc D Y F G S sz [.ref (zad F G (100 + 4 * q0)), .int x1]) (zQi D Y F (zAo F G sz) G (res, S)) 0 0 (zAo F G sz) := by
  unfold M_X11_isOfKind at h
  refine zMet (cc := cX11_isOfKind) (maxL := 2) (ret := (some .boolean)) (own := RX11) (by decide +kernel) rfl rfl (Nat.le_of_ble_eq_true rfl) ?_
  intro p e s m args below meth c C0 hin hw hS ls hl
  have hl : lv_has ls 2 [(0, .ref (zad F G (100 + 4 * q0))), (1, .int x1)] := hl
  generalize zAo F G sz = A at C0 hw hS ⊢
  obtain ⟨hx, hb, hml, hr, hown, hts, hK, hA, hlk, hN⟩ := id C0
  refine lv_iload_n hx hb dX11_isOfKind_0 rfl (lv_at hl 1 rfl) ?_
  by_cases c1 : x1 = 0
  · replace h := z_ifp c1 h
    refine z_top c1 ?_
    refine lv_tableIn (off := 43) (tgt := 44) hx hb dX11_isOfKind_1 (by decide) (by decide) rfl (by decide) ?_
    refine lv_iconst (v := 1) hx hb dX11_isOfKind_44 (by decide) ?_
    exact z_retz C0 hw hS rfl (congrArg (fun z => (z, S)) (Option.some.inj h)) dX11_isOfKind_45
  · replace h := z_ifn c1 h
    by_cases c2 : x1 = 1
    · replace h := z_ifp c2 h
      refine z_top c2 ?_
      refine lv_tableIn (off := 45) (tgt := 46) hx hb dX11_isOfKind_1 (by decide) (by decide) rfl (by decide) ?_
      refine lv_aload_n hx hb dX11_isOfKind_46 rfl (lv_at hl 0 rfl) ?_
      refine z_inst_X8 C0 hw hq0 (hts _ (List.mem_of_getElem? (i := 1) rfl)) dX11_isOfKind_47 ?_
      obtain ⟨b3, h⟩ := z_gd h
      exact z_retz C0 hw hS (congrArg Value.int (of_decide_eq_true b3)) (congrArg (fun z => (z, S)) (Option.some.inj h)) dX11_isOfKind_50
    · replace h := z_ifn c2 h
      by_cases c4 : x1 = 2
      · replace h := z_ifp c4 h
        refine z_top c4 ?_
        refine lv_tableIn (off := 50) (tgt := 51) hx hb dX11_isOfKind_1 (by decide) (by decide) rfl (by decide) ?_
        refine lv_aload_n hx hb dX11_isOfKind_51 rfl (lv_at hl 0 rfl) ?_
        refine z_inst_X2 C0 hw hq0 (hts _ (List.mem_of_getElem? (i := 2) rfl)) dX11_isOfKind_52 ?_
        obtain ⟨b5, h⟩ := z_gd h
        exact z_retz C0 hw hS (congrArg Value.int (of_decide_eq_true b5)) (congrArg (fun z => (z, S)) (Option.some.inj h)) dX11_isOfKind_55
      · replace h := z_ifn c4 h
        by_cases c6 : x1 = 3
        · replace h := z_ifp c6 h
          refine z_top c6 ?_
          refine lv_tableIn (off := 55) (tgt := 56) hx hb dX11_isOfKind_1 (by decide) (by decide) rfl (by decide) ?_
          refine lv_aload_n hx hb dX11_isOfKind_56 rfl (lv_at hl 0 rfl) ?_
          refine z_inst_X10 C0 hw hq0 (hts _ (List.mem_of_getElem? (i := 3) rfl)) dX11_isOfKind_57 ?_
          obtain ⟨b7, h⟩ := z_gd h
          exact z_retz C0 hw hS (congrArg Value.int (of_decide_eq_true b7)) (congrArg (fun z => (z, S)) (Option.some.inj h)) dX11_isOfKind_60
        · replace h := z_ifn c6 h
          by_cases c8 : x1 = 4
          · replace h := z_ifp c8 h
            refine z_top c8 ?_
            refine lv_tableIn (off := 60) (tgt := 61) hx hb dX11_isOfKind_1 (by decide) (by decide) rfl (by decide) ?_
            refine lv_aload_n hx hb dX11_isOfKind_61 rfl (lv_at hl 0 rfl) ?_
            refine z_inst_X3 C0 hw hq0 (hts _ (List.mem_of_getElem? (i := 4) rfl)) dX11_isOfKind_62 ?_
            obtain ⟨b9, h⟩ := z_gd h
            exact z_retz C0 hw hS (congrArg Value.int (of_decide_eq_true b9)) (congrArg (fun z => (z, S)) (Option.some.inj h)) dX11_isOfKind_65
          · replace h := z_ifn c8 h
            by_cases c10 : x1 = 5
            · replace h := z_ifp c10 h
              refine z_top c10 ?_
              refine lv_tableIn (off := 65) (tgt := 66) hx hb dX11_isOfKind_1 (by decide) (by decide) rfl (by decide) ?_
              refine lv_aload_n hx hb dX11_isOfKind_66 rfl (lv_at hl 0 rfl) ?_
              refine z_inst_X0 C0 hw hq0 (hts _ (List.mem_of_getElem? (i := 5) rfl)) dX11_isOfKind_67 ?_
              obtain ⟨b11, h⟩ := z_gd h
              exact z_retz C0 hw hS (congrArg Value.int (of_decide_eq_true b11)) (congrArg (fun z => (z, S)) (Option.some.inj h)) dX11_isOfKind_70
            · replace h := z_ifn c10 h
              by_cases c12 : x1 = 6
              · replace h := z_ifp c12 h
                refine z_top c12 ?_
                refine lv_tableIn (off := 70) (tgt := 71) hx hb dX11_isOfKind_1 (by decide) (by decide) rfl (by decide) ?_
                refine lv_aload_n hx hb dX11_isOfKind_71 rfl (lv_at hl 0 rfl) ?_
                refine z_inst_X1 C0 hw hq0 (hts _ (List.mem_of_getElem? (i := 6) rfl)) dX11_isOfKind_72 ?_
                obtain ⟨b13, h⟩ := z_gd h
                exact z_retz C0 hw hS (congrArg Value.int (of_decide_eq_true b13)) (congrArg (fun z => (z, S)) (Option.some.inj h)) dX11_isOfKind_75
              · replace h := z_ifn c12 h
                have nc1 : Int32.toInt x1 ≠ 0 := fun q => c1 (Int32.toInt_inj.mp (q.trans (by decide)))
                have nc2 : Int32.toInt x1 ≠ 1 := fun q => c2 (Int32.toInt_inj.mp (q.trans (by decide)))
                have nc4 : Int32.toInt x1 ≠ 2 := fun q => c4 (Int32.toInt_inj.mp (q.trans (by decide)))
                have nc6 : Int32.toInt x1 ≠ 3 := fun q => c6 (Int32.toInt_inj.mp (q.trans (by decide)))
                have nc8 : Int32.toInt x1 ≠ 4 := fun q => c8 (Int32.toInt_inj.mp (q.trans (by decide)))
                have nc10 : Int32.toInt x1 ≠ 5 := fun q => c10 (Int32.toInt_inj.mp (q.trans (by decide)))
                have nc12 : Int32.toInt x1 ≠ 6 := fun q => c12 (Int32.toInt_inj.mp (q.trans (by decide)))
                refine lv_tableOut (tgt := 76) hx hb dX11_isOfKind_1 (by omega) (by decide) ?_
                refine lv_iconst (v := 0) hx hb dX11_isOfKind_76 (by decide) ?_
                exact z_retz C0 hw hS rfl (congrArg (fun z => (z, S)) (Option.some.inj h)) dX11_isOfKind_77
def M_X11_lackOfRow (pk : Nat → Nat) (S : zSt) (o0 : Option Nat) : Option (Int32) :=
  (zm o0 (some (-1)) (fun j1 => Option.bind (M_X7_hasPerson pk S j1) (fun w2 => (if w2 = 0 then some (-3) else some (-2)))))
set_option maxHeartbeats 4000000 in
set_option maxRecDepth 100000 in
theorem c_X11_lackOfRow (l : Launch) (D : va_G) (Y : Nat → ClassId) (F : Nat → Nat) (G : zG) (S : zSt) (sz : Nat) (o0 : Option Nat) (ho0 : ∀ j, o0 = some j → j < 8) (res : Int32) (h : M_X11_lackOfRow (zpk G) S o0 = some res) : Met l yX11_lackOfRow wsX11_lackOfRow (zRm 1 20) (zPc D Y F G S sz [va_rf (Option.map (zsa F G) o0)]) (zQi D Y F (zAo F G sz) G (res, S)) 0 0 (zAo F G sz) := by
  unfold M_X11_lackOfRow at h
  rcases o0 with _ | j1
  · replace h := zm_n h
    refine zMet (cc := cX11_lackOfRow) (maxL := 1) (ret := (some .int)) (own := RX11) (by decide +kernel) rfl rfl (Nat.le_of_ble_eq_true rfl) ?_
    intro p e s m args below meth c C0 hin hw hS ls hl
    have hl : lv_has ls 1 [(0, .null)] := hl
    generalize zAo F G sz = A at C0 hw hS ⊢
    obtain ⟨hx, hb, hml, hr, hown, hts, hK, hA, hlk, hN⟩ := id C0
    refine lv_aload_nN hx hb dX11_lackOfRow_0 rfl (lv_at hl 0 rfl) ?_
    refine lv_ifnonnullN hx hb dX11_lackOfRow_1 ?_
    refine lv_iconst (v := (-1)) hx hb dX11_lackOfRow_4 (by decide) ?_
    exact z_reti C0 hw hS (congrArg (fun z => (z, S)) (Option.some.inj h)) dX11_lackOfRow_5
  · replace h := zm_s h
    have hj1 : j1 < 8 := ho0 j1 rfl
    refine zMet (cc := cX11_lackOfRow) (maxL := 1) (ret := (some .int)) (own := RX11) (by decide +kernel) rfl rfl (Nat.le_of_ble_eq_true rfl) ?_
    intro p e s m args below meth c C0 hin hw hS ls hl
    have hl : lv_has ls 1 [(0, .ref (zad F G (40 + 2 * j1)))] := hl
    generalize zAo F G sz = A at C0 hw hS ⊢
    obtain ⟨hx, hb, hml, hr, hown, hts, hK, hA, hlk, hN⟩ := id C0
    refine lv_aload_n hx hb dX11_lackOfRow_0 rfl (lv_at hl 0 rfl) ?_
    refine lv_ifnonnull (tgt := 6) hx hb dX11_lackOfRow_1 (by decide) ?_
    refine lv_aload_n hx hb dX11_lackOfRow_6 rfl (lv_at hl 0 rfl) ?_
    obtain ⟨w2, ew2, h⟩ := z_bd h
    refine z_goi C0 hw hS (res := (w2, S)) (rest := []) (arr := (Value.ref (zad F G (40 + 2 * j1)) :: []).toArray) ?_ (fun H locs hw hS => ?_)
    · exact va_runV (z_fix C0) (c_X7_hasPerson l D Y F G S _ j1 hj1 w2 ew2) (cwV 0 hts gX11_lackOfRow_X7_hasPerson rfl rfl rfl (by decide +kernel) ⟨Nat.le_of_ble_eq_true rfl, Nat.le_of_ble_eq_true rfl⟩) ⟨zPc_blind, z_rv C0 hw (k := (40 + 2 * j1)) (zsh_E hj1) rfl (zsh_B hj1) rfl, z_give C0 hw hS _⟩ rfl rfl hl.1 rfl (lv_room (Nat.le_of_ble_eq_true rfl)) dX11_lackOfRow_7 ⟨Nat.zero_le _, Nat.zero_le _⟩
    refine lv_if_eq (tgt := 18) hx hb dX11_lackOfRow_10 (by decide) (fun c3 => ?_) (fun c3 => ?_)
    · replace h := z_ifp c3 h
      refine lv_bipush (v := (-3)) hx hb dX11_lackOfRow_18 (by decide) ?_
      exact z_reti C0 hw hS (congrArg (fun z => (z, S)) (Option.some.inj h)) dX11_lackOfRow_20
    · replace h := z_ifn c3 h
      refine lv_bipush (v := (-2)) hx hb dX11_lackOfRow_13 (by decide) ?_
      refine lv_goto (tgt := 20) hx hb dX11_lackOfRow_15 (by decide) ?_
      exact z_reti C0 hw hS (congrArg (fun z => (z, S)) (Option.some.inj h)) dX11_lackOfRow_20
def M_X11_refusalOfTwo (pk : Nat → Nat) (S : zSt) (o0 : Option Nat) (o1 : Option Nat) : Option (Int32) :=
  (zm o0 ((zm o1 (some (-1)) (fun j2 => some (-1)))) (fun j1 => (zm o1 (some (-1)) (fun j3 => Option.bind (M_X7_hasPerson pk S j1) (fun w4 => (if w4 = 0 then Option.bind (M_X7_hasPerson pk S j3) (fun w6 => (if w6 = 0 then Option.bind (M_X7_hasRow pk S j1) (fun w8 => (if w8 = 0 then some (-3) else Option.bind (M_X7_hasRow pk S j3) (fun w10 => (if w10 = 0 then some (-3) else (if (zsc S (40 + 2 * j1) 1) = (zsc S (40 + 2 * j3) 1) then some 0 else some (-2)))))) else some (-2))) else some (-2)))))))
set_option maxHeartbeats 4000000 in
set_option maxRecDepth 100000 in
theorem c_X11_refusalOfTwo (l : Launch) (D : va_G) (Y : Nat → ClassId) (F : Nat → Nat) (G : zG) (S : zSt) (sz : Nat) (o0 : Option Nat) (o1 : Option Nat) (ho0 : ∀ j, o0 = some j → j < 8) (ho1 : ∀ j, o1 = some j → j < 8) (res : Int32) (h : M_X11_refusalOfTwo (zpk G) S o0 o1 = some res) : Met l yX11_refusalOfTwo wsX11_refusalOfTwo (zRm 1 20) (zPc D Y F G S sz [va_rf (Option.map (zsa F G) o0), va_rf (Option.map (zsa F G) o1)]) (zQi D Y F (zAo F G sz) G (res, S)) 0 0 (zAo F G sz) := by
  unfold M_X11_refusalOfTwo at h
  rcases o0 with _ | j1
  · replace h := zm_n h
    rcases o1 with _ | j2
    · replace h := zm_n h
      refine zMet (cc := cX11_refusalOfTwo) (maxL := 2) (ret := (some .int)) (own := RX11) (by decide +kernel) rfl rfl (Nat.le_of_ble_eq_true rfl) ?_
      intro p e s m args below meth c C0 hin hw hS ls hl
      have hl : lv_has ls 2 [(0, .null), (1, .null)] := hl
      generalize zAo F G sz = A at C0 hw hS ⊢
      obtain ⟨hx, hb, hml, hr, hown, hts, hK, hA, hlk, hN⟩ := id C0
      refine lv_aload_nN hx hb dX11_refusalOfTwo_0 rfl (lv_at hl 0 rfl) ?_
      refine lv_ifnullN (tgt := 8) hx hb dX11_refusalOfTwo_1 (by decide) ?_
      refine lv_iconst (v := (-1)) hx hb dX11_refusalOfTwo_8 (by decide) ?_
      exact z_reti C0 hw hS (congrArg (fun z => (z, S)) (Option.some.inj h)) dX11_refusalOfTwo_9
    · replace h := zm_s h
      have hj2 : j2 < 8 := ho1 j2 rfl
      refine zMet (cc := cX11_refusalOfTwo) (maxL := 2) (ret := (some .int)) (own := RX11) (by decide +kernel) rfl rfl (Nat.le_of_ble_eq_true rfl) ?_
      intro p e s m args below meth c C0 hin hw hS ls hl
      have hl : lv_has ls 2 [(0, .null), (1, .ref (zad F G (40 + 2 * j2)))] := hl
      generalize zAo F G sz = A at C0 hw hS ⊢
      obtain ⟨hx, hb, hml, hr, hown, hts, hK, hA, hlk, hN⟩ := id C0
      refine lv_aload_nN hx hb dX11_refusalOfTwo_0 rfl (lv_at hl 0 rfl) ?_
      refine lv_ifnullN (tgt := 8) hx hb dX11_refusalOfTwo_1 (by decide) ?_
      refine lv_iconst (v := (-1)) hx hb dX11_refusalOfTwo_8 (by decide) ?_
      exact z_reti C0 hw hS (congrArg (fun z => (z, S)) (Option.some.inj h)) dX11_refusalOfTwo_9
  · replace h := zm_s h
    have hj1 : j1 < 8 := ho0 j1 rfl
    rcases o1 with _ | j3
    · replace h := zm_n h
      refine zMet (cc := cX11_refusalOfTwo) (maxL := 2) (ret := (some .int)) (own := RX11) (by decide +kernel) rfl rfl (Nat.le_of_ble_eq_true rfl) ?_
      intro p e s m args below meth c C0 hin hw hS ls hl
      have hl : lv_has ls 2 [(0, .ref (zad F G (40 + 2 * j1))), (1, .null)] := hl
      generalize zAo F G sz = A at C0 hw hS ⊢
      obtain ⟨hx, hb, hml, hr, hown, hts, hK, hA, hlk, hN⟩ := id C0
      refine lv_aload_n hx hb dX11_refusalOfTwo_0 rfl (lv_at hl 0 rfl) ?_
      refine lv_ifnull hx hb dX11_refusalOfTwo_1 ?_
      refine lv_aload_nN hx hb dX11_refusalOfTwo_4 rfl (lv_at hl 1 rfl) ?_
      refine lv_ifnonnullN hx hb dX11_refusalOfTwo_5 ?_
      refine lv_iconst (v := (-1)) hx hb dX11_refusalOfTwo_8 (by decide) ?_
      exact z_reti C0 hw hS (congrArg (fun z => (z, S)) (Option.some.inj h)) dX11_refusalOfTwo_9
    · replace h := zm_s h
      have hj3 : j3 < 8 := ho1 j3 rfl
      refine zMet (cc := cX11_refusalOfTwo) (maxL := 2) (ret := (some .int)) (own := RX11) (by decide +kernel) rfl rfl (Nat.le_of_ble_eq_true rfl) ?_
      intro p e s m args below meth c C0 hin hw hS ls hl
      have hl : lv_has ls 2 [(0, .ref (zad F G (40 + 2 * j1))), (1, .ref (zad F G (40 + 2 * j3)))] := hl
      generalize zAo F G sz = A at C0 hw hS ⊢
      obtain ⟨hx, hb, hml, hr, hown, hts, hK, hA, hlk, hN⟩ := id C0
      refine lv_aload_n hx hb dX11_refusalOfTwo_0 rfl (lv_at hl 0 rfl) ?_
      refine lv_ifnull hx hb dX11_refusalOfTwo_1 ?_
      refine lv_aload_n hx hb dX11_refusalOfTwo_4 rfl (lv_at hl 1 rfl) ?_
      refine lv_ifnonnull (tgt := 10) hx hb dX11_refusalOfTwo_5 (by decide) ?_
      refine lv_aload_n hx hb dX11_refusalOfTwo_10 rfl (lv_at hl 0 rfl) ?_
      obtain ⟨w4, ew4, h⟩ := z_bd h
      refine z_goi C0 hw hS (res := (w4, S)) (rest := []) (arr := (Value.ref (zad F G (40 + 2 * j1)) :: []).toArray) ?_ (fun H locs hw hS => ?_)
      · exact va_runV (z_fix C0) (c_X7_hasPerson l D Y F G S _ j1 hj1 w4 ew4) (cwV 0 hts gX11_refusalOfTwo_X7_hasPerson rfl rfl rfl (by decide +kernel) ⟨Nat.le_of_ble_eq_true rfl, Nat.le_of_ble_eq_true rfl⟩) ⟨zPc_blind, z_rv C0 hw (k := (40 + 2 * j1)) (zsh_E hj1) rfl (zsh_B hj1) rfl, z_give C0 hw hS _⟩ rfl rfl hl.1 rfl (lv_room (Nat.le_of_ble_eq_true rfl)) dX11_refusalOfTwo_11 ⟨Nat.zero_le _, Nat.zero_le _⟩
      refine lv_if_ne (tgt := 24) hx hb dX11_refusalOfTwo_14 (by decide) (fun c5 => ?_) (fun c5 => ?_)
      · replace h := z_ifn c5 h
        refine lv_bipush (v := (-2)) hx hb dX11_refusalOfTwo_24 (by decide) ?_
        exact z_reti C0 hw hS (congrArg (fun z => (z, S)) (Option.some.inj h)) dX11_refusalOfTwo_26
      · replace h := z_ifp c5 h
        refine lv_aload_n hx hb dX11_refusalOfTwo_17 rfl (lv_at hl 1 rfl) ?_
        obtain ⟨w6, ew6, h⟩ := z_bd h
        refine z_goi C0 hw hS (res := (w6, S)) (rest := []) (arr := (Value.ref (zad F G (40 + 2 * j3)) :: []).toArray) ?_ (fun H locs hw hS => ?_)
        · exact va_runV (z_fix C0) (c_X7_hasPerson l D Y F G S _ j3 hj3 w6 ew6) (cwV 0 hts gX11_refusalOfTwo_X7_hasPerson rfl rfl rfl (by decide +kernel) ⟨Nat.le_of_ble_eq_true rfl, Nat.le_of_ble_eq_true rfl⟩) ⟨zPc_blind, z_rv C0 hw (k := (40 + 2 * j3)) (zsh_E hj3) rfl (zsh_B hj3) rfl, z_give C0 hw hS _⟩ rfl rfl hl.1 rfl (lv_room (Nat.le_of_ble_eq_true rfl)) dX11_refusalOfTwo_18 ⟨Nat.zero_le _, Nat.zero_le _⟩
        refine lv_if_eq (tgt := 27) hx hb dX11_refusalOfTwo_21 (by decide) (fun c7 => ?_) (fun c7 => ?_)
        · replace h := z_ifp c7 h
          refine lv_aload_n hx hb dX11_refusalOfTwo_27 rfl (lv_at hl 0 rfl) ?_
          obtain ⟨w8, ew8, h⟩ := z_bd h
          refine z_goi C0 hw hS (res := (w8, S)) (rest := []) (arr := (Value.ref (zad F G (40 + 2 * j1)) :: []).toArray) ?_ (fun H locs hw hS => ?_)
          · exact va_runV (z_fix C0) (c_X7_hasRow l D Y F G S _ j1 hj1 w8 ew8) (cwV 0 hts gX11_refusalOfTwo_X7_hasRow rfl rfl rfl (by decide +kernel) ⟨Nat.le_of_ble_eq_true rfl, Nat.le_of_ble_eq_true rfl⟩) ⟨zPc_blind, z_rv C0 hw (k := (40 + 2 * j1)) (zsh_E hj1) rfl (zsh_B hj1) rfl, z_give C0 hw hS _⟩ rfl rfl hl.1 rfl (lv_room (Nat.le_of_ble_eq_true rfl)) dX11_refusalOfTwo_28 ⟨Nat.zero_le _, Nat.zero_le _⟩
          refine lv_if_eq (tgt := 41) hx hb dX11_refusalOfTwo_31 (by decide) (fun c9 => ?_) (fun c9 => ?_)
          · replace h := z_ifp c9 h
            refine lv_bipush (v := (-3)) hx hb dX11_refusalOfTwo_41 (by decide) ?_
            exact z_reti C0 hw hS (congrArg (fun z => (z, S)) (Option.some.inj h)) dX11_refusalOfTwo_43
          · replace h := z_ifn c9 h
            refine lv_aload_n hx hb dX11_refusalOfTwo_34 rfl (lv_at hl 1 rfl) ?_
            obtain ⟨w10, ew10, h⟩ := z_bd h
            refine z_goi C0 hw hS (res := (w10, S)) (rest := []) (arr := (Value.ref (zad F G (40 + 2 * j3)) :: []).toArray) ?_ (fun H locs hw hS => ?_)
            · exact va_runV (z_fix C0) (c_X7_hasRow l D Y F G S _ j3 hj3 w10 ew10) (cwV 0 hts gX11_refusalOfTwo_X7_hasRow rfl rfl rfl (by decide +kernel) ⟨Nat.le_of_ble_eq_true rfl, Nat.le_of_ble_eq_true rfl⟩) ⟨zPc_blind, z_rv C0 hw (k := (40 + 2 * j3)) (zsh_E hj3) rfl (zsh_B hj3) rfl, z_give C0 hw hS _⟩ rfl rfl hl.1 rfl (lv_room (Nat.le_of_ble_eq_true rfl)) dX11_refusalOfTwo_35 ⟨Nat.zero_le _, Nat.zero_le _⟩
            refine lv_if_ne (tgt := 44) hx hb dX11_refusalOfTwo_38 (by decide) (fun c11 => ?_) (fun c11 => ?_)
            · replace h := z_ifn c11 h
              refine lv_aload_n hx hb dX11_refusalOfTwo_44 rfl (lv_at hl 0 rfl) ?_
              refine z_getU C0 in_X11_refusalOfTwo_X7 (C := RX7) (T := TX7) (N := 3) hw (k := (40 + 2 * j1)) (ci := 7) (v := .int ((zsc S (40 + 2 * j1) 1))) (zsh_E hj1) rfl (zsh_B hj1) rfl 1 (by decide) rfl 1 rfl (Or.inl rfl) dX11_refusalOfTwo_45 ?_
              refine lv_aload_n hx hb dX11_refusalOfTwo_48 rfl (lv_at hl 1 rfl) ?_
              refine z_getU C0 in_X11_refusalOfTwo_X7 (C := RX7) (T := TX7) (N := 3) hw (k := (40 + 2 * j3)) (ci := 7) (v := .int ((zsc S (40 + 2 * j3) 1))) (zsh_E hj3) rfl (zsh_B hj3) rfl 1 (by decide) rfl 1 rfl (Or.inl rfl) dX11_refusalOfTwo_49 ?_
              refine lv_icmp_ne (tgt := 59) hx hb dX11_refusalOfTwo_52 (by decide) (fun c12 => ?_) (fun c12 => ?_)
              · replace h := z_ifn c12 h
                refine lv_bipush (v := (-2)) hx hb dX11_refusalOfTwo_59 (by decide) ?_
                exact z_reti C0 hw hS (congrArg (fun z => (z, S)) (Option.some.inj h)) dX11_refusalOfTwo_61
              · replace h := z_ifp c12 h
                refine lv_iconst (v := 0) hx hb dX11_refusalOfTwo_55 (by decide) ?_
                refine lv_goto (tgt := 61) hx hb dX11_refusalOfTwo_56 (by decide) ?_
                exact z_reti C0 hw hS (congrArg (fun z => (z, S)) (Option.some.inj h)) dX11_refusalOfTwo_61
            · replace h := z_ifp c11 h
              refine lv_bipush (v := (-3)) hx hb dX11_refusalOfTwo_41 (by decide) ?_
              exact z_reti C0 hw hS (congrArg (fun z => (z, S)) (Option.some.inj h)) dX11_refusalOfTwo_43
        · replace h := z_ifn c7 h
          refine lv_bipush (v := (-2)) hx hb dX11_refusalOfTwo_24 (by decide) ?_
          exact z_reti C0 hw hS (congrArg (fun z => (z, S)) (Option.some.inj h)) dX11_refusalOfTwo_26
def M_X11_refusalOfTold_B11 (pk : Nat → Nat) (S : zSt) (o0 : Option Nat) : Option (Int32) :=
  (zm o0 (Option.bind (M_X11_lackOfRow pk S none) (fun w3 => some w3)) (fun q2 => zg (decide (q2 < 8)) (Option.bind (M_X11_lackOfRow pk S (some q2)) (fun w4 => some w4))))
set_option maxHeartbeats 4000000 in
set_option maxRecDepth 100000 in
theorem t_X11_refusalOfTold_B11 {p : Program} {l : Launch} {e : Env} {s : State} {m : MethodId} {args : Array Value} {below : List Frame} {meth : Method} {c : Code} {D : va_G} {Y : Nat → ClassId} {F : Nat → Nat} {A : Nat → Prop} {G : zG} (C0 : zCx p s m args meth c D Y F A RX11 cX11_refusalOfTold 3 (some .int) wsX11_refusalOfTold) (S : zSt) (res : Int32) : ∀ (o0 : Option Nat), M_X11_refusalOfTold_B11 (zpk G) S o0 = some res → ∀ (H : Heap) (locs : List Loc) (ls : Array Slot), zH D Y F A G S H → va_S A s.heap H locs → lv_has ls 3 [(0, va_rf (Option.map (zsa F G) o0))] → W p l e (zRm 2 40) s m args below meth c H locs 0 0 (MQ below (zQi D Y F A G (res, S)) args s 0 0 A) (F0 m 11 ls []) := by
  obtain ⟨hx, hb, hml, hr, hown, hts, hK, hA, hlk, hN⟩ := id C0
  intro o0 h H locs ls hw hS hl
  unfold M_X11_refusalOfTold_B11 at h
  rcases o0 with _ | q2
  · replace h := zm_n h
    have hl : lv_has ls 3 [(0, .null)] := hl
    refine lv_aload_nN hx hb dX11_refusalOfTold_11 rfl (lv_at hl 0 rfl) ?_
    obtain ⟨w3, ew3, h⟩ := z_bd h
    refine z_goi C0 hw hS (res := (w3, S)) (rest := []) (arr := ([.null] : List Value).toArray) ?_ (fun H locs hw hS => ?_)
    · exact va_runS (z_fix C0) (c_X11_lackOfRow l D Y F G S _ none (fun _ h => nomatch h) w3 ew3) (va_cwS 1 hts gX11_refusalOfTold_X11_lackOfRow rfl rfl rfl (by decide +kernel) ⟨Nat.le_of_ble_eq_true rfl, Nat.le_of_ble_eq_true rfl⟩) ⟨zPc_blind, z_give C0 hw hS _⟩ rfl rfl hl.1 rfl (lv_room (Nat.le_of_ble_eq_true rfl)) dX11_refusalOfTold_12 ⟨Nat.zero_le _, Nat.zero_le _⟩
    exact z_reti C0 hw hS (congrArg (fun z => (z, S)) (Option.some.inj h)) dX11_refusalOfTold_15
  · replace h := zm_s h
    obtain ⟨bq2, h⟩ := z_gd h
    have hq2 : q2 < 8 := of_decide_eq_true bq2
    have hl : lv_has ls 3 [(0, .ref (zad F G (40 + 2 * q2)))] := hl
    refine lv_aload_n hx hb dX11_refusalOfTold_11 rfl (lv_at hl 0 rfl) ?_
    obtain ⟨w4, ew4, h⟩ := z_bd h
    refine z_goi C0 hw hS (res := (w4, S)) (rest := []) (arr := ([.ref (zad F G (40 + 2 * q2))] : List Value).toArray) ?_ (fun H locs hw hS => ?_)
    · exact va_runS (z_fix C0) (c_X11_lackOfRow l D Y F G S _ (some q2) (fun _ h => Option.some.inj h ▸ hq2) w4 ew4) (va_cwS 1 hts gX11_refusalOfTold_X11_lackOfRow rfl rfl rfl (by decide +kernel) ⟨Nat.le_of_ble_eq_true rfl, Nat.le_of_ble_eq_true rfl⟩) ⟨zPc_blind, z_give C0 hw hS _⟩ rfl rfl hl.1 rfl (lv_room (Nat.le_of_ble_eq_true rfl)) dX11_refusalOfTold_12 ⟨Nat.zero_le _, Nat.zero_le _⟩
    exact z_reti C0 hw hS (congrArg (fun z => (z, S)) (Option.some.inj h)) dX11_refusalOfTold_15
def M_X11_refusalOfTold (pk : Nat → Nat) (S : zSt) (o0 : Option Nat) (x1 : Int32) (x2 : Int32) : Option (Int32) :=
  (zm o0 (M_X11_refusalOfTold_B11 pk S none) (fun j1 => Option.bind (M_X7_hasRow pk S j1) (fun w5 => (if w5 = 0 then M_X11_refusalOfTold_B11 pk S (some j1) else (if 0 ≤ x1 then (if x1 ≤ (zsc S (40 + 2 * j1) 2) then (if x1 < 1 then some (-6) else (if 8 < x1 then some (-6) else (if x2 < 0 then some (-6) else (if x2 ≤ 20 then some 0 else some (-6))))) else some (-5)) else some (-4))))))
set_option maxHeartbeats 4000000 in
set_option maxRecDepth 100000 in
theorem c_X11_refusalOfTold (l : Launch) (D : va_G) (Y : Nat → ClassId) (F : Nat → Nat) (G : zG) (S : zSt) (sz : Nat) (o0 : Option Nat) (ho0 : ∀ j, o0 = some j → j < 8) (x1 : Int32) (x2 : Int32) (res : Int32) (h : M_X11_refusalOfTold (zpk G) S o0 x1 x2 = some res) : Met l yX11_refusalOfTold wsX11_refusalOfTold (zRm 2 40) (zPc D Y F G S sz [va_rf (Option.map (zsa F G) o0), .int x1, .int x2]) (zQi D Y F (zAo F G sz) G (res, S)) 0 0 (zAo F G sz) := by
  unfold M_X11_refusalOfTold at h
  rcases o0 with _ | j1
  · replace h := zm_n h
    refine zMet (cc := cX11_refusalOfTold) (maxL := 3) (ret := (some .int)) (own := RX11) (by decide +kernel) rfl rfl (Nat.le_of_ble_eq_true rfl) ?_
    intro p e s m args below meth c C0 hin hw hS ls hl
    have hl : lv_has ls 3 [(0, .null), (1, .int x1), (2, .int x2)] := hl
    generalize zAo F G sz = A at C0 hw hS ⊢
    obtain ⟨hx, hb, hml, hr, hown, hts, hK, hA, hlk, hN⟩ := id C0
    refine lv_aload_nN hx hb dX11_refusalOfTold_0 rfl (lv_at hl 0 rfl) ?_
    refine lv_ifnullN (tgt := 11) hx hb dX11_refusalOfTold_1 (by decide) ?_
    exact t_X11_refusalOfTold_B11 C0 S res none h _ _ _ hw hS (lv_sub hl [0] rfl)
  · replace h := zm_s h
    have hj1 : j1 < 8 := ho0 j1 rfl
    refine zMet (cc := cX11_refusalOfTold) (maxL := 3) (ret := (some .int)) (own := RX11) (by decide +kernel) rfl rfl (Nat.le_of_ble_eq_true rfl) ?_
    intro p e s m args below meth c C0 hin hw hS ls hl
    have hl : lv_has ls 3 [(0, .ref (zad F G (40 + 2 * j1))), (1, .int x1), (2, .int x2)] := hl
    generalize zAo F G sz = A at C0 hw hS ⊢
    obtain ⟨hx, hb, hml, hr, hown, hts, hK, hA, hlk, hN⟩ := id C0
    refine lv_aload_n hx hb dX11_refusalOfTold_0 rfl (lv_at hl 0 rfl) ?_
    refine lv_ifnull hx hb dX11_refusalOfTold_1 ?_
    refine lv_aload_n hx hb dX11_refusalOfTold_4 rfl (lv_at hl 0 rfl) ?_
    obtain ⟨w5, ew5, h⟩ := z_bd h
    refine z_goi C0 hw hS (res := (w5, S)) (rest := []) (arr := (Value.ref (zad F G (40 + 2 * j1)) :: []).toArray) ?_ (fun H locs hw hS => ?_)
    · exact va_runV (z_fix C0) (c_X7_hasRow l D Y F G S _ j1 hj1 w5 ew5) (cwV 0 hts gX11_refusalOfTold_X7_hasRow rfl rfl rfl (by decide +kernel) ⟨Nat.le_of_ble_eq_true rfl, Nat.le_of_ble_eq_true rfl⟩) ⟨zPc_blind, z_rv C0 hw (k := (40 + 2 * j1)) (zsh_E hj1) rfl (zsh_B hj1) rfl, z_give C0 hw hS _⟩ rfl rfl hl.1 rfl (lv_room (Nat.le_of_ble_eq_true rfl)) dX11_refusalOfTold_5 ⟨Nat.zero_le _, Nat.zero_le _⟩
    refine lv_if_ne (tgt := 16) hx hb dX11_refusalOfTold_8 (by decide) (fun c6 => ?_) (fun c6 => ?_)
    · replace h := z_ifn c6 h
      refine lv_iload_n hx hb dX11_refusalOfTold_16 rfl (lv_at hl 1 rfl) ?_
      refine lv_if_ge (tgt := 23) hx hb dX11_refusalOfTold_17 (by decide) (fun c7 => ?_) (fun c7 => ?_)
      · replace h := z_ifp c7 h
        refine lv_iload_n hx hb dX11_refusalOfTold_23 rfl (lv_at hl 1 rfl) ?_
        refine lv_aload_n hx hb dX11_refusalOfTold_24 rfl (lv_at hl 0 rfl) ?_
        refine z_getU C0 in_X11_refusalOfTold_X7 (C := RX7) (T := TX7) (N := 3) hw (k := (40 + 2 * j1)) (ci := 7) (v := .int ((zsc S (40 + 2 * j1) 2))) (zsh_E hj1) rfl (zsh_B hj1) rfl 2 (by decide) rfl 1 rfl (Or.inl rfl) dX11_refusalOfTold_25 ?_
        refine lv_icmp_le (tgt := 34) hx hb dX11_refusalOfTold_28 (by decide) (fun c8 => ?_) (fun c8 => ?_)
        · replace h := z_ifp c8 h
          refine lv_iload_n hx hb dX11_refusalOfTold_34 rfl (lv_at hl 1 rfl) ?_
          refine lv_iconst (v := 1) hx hb dX11_refusalOfTold_35 (by decide) ?_
          refine lv_icmp_lt (tgt := 55) hx hb dX11_refusalOfTold_36 (by decide) (fun c9 => ?_) (fun c9 => ?_)
          · replace h := z_ifp c9 h
            refine lv_bipush (v := (-6)) hx hb dX11_refusalOfTold_55 (by decide) ?_
            refine lv_goto (tgt := 61) hx hb dX11_refusalOfTold_57 (by decide) ?_
            exact z_reti C0 hw hS (congrArg (fun z => (z, S)) (Option.some.inj h)) dX11_refusalOfTold_61
          · replace h := z_ifn c9 h
            refine lv_iload_n hx hb dX11_refusalOfTold_39 rfl (lv_at hl 1 rfl) ?_
            refine lv_bipush (v := 8) hx hb dX11_refusalOfTold_40 (by decide) ?_
            refine lv_icmp_gt (tgt := 55) hx hb dX11_refusalOfTold_42 (by decide) (fun c10 => ?_) (fun c10 => ?_)
            · replace h := z_ifp c10 h
              refine lv_bipush (v := (-6)) hx hb dX11_refusalOfTold_55 (by decide) ?_
              refine lv_goto (tgt := 61) hx hb dX11_refusalOfTold_57 (by decide) ?_
              exact z_reti C0 hw hS (congrArg (fun z => (z, S)) (Option.some.inj h)) dX11_refusalOfTold_61
            · replace h := z_ifn c10 h
              refine lv_iload_n hx hb dX11_refusalOfTold_45 rfl (lv_at hl 2 rfl) ?_
              refine lv_if_lt (tgt := 55) hx hb dX11_refusalOfTold_46 (by decide) (fun c11 => ?_) (fun c11 => ?_)
              · replace h := z_ifp c11 h
                refine lv_bipush (v := (-6)) hx hb dX11_refusalOfTold_55 (by decide) ?_
                refine lv_goto (tgt := 61) hx hb dX11_refusalOfTold_57 (by decide) ?_
                exact z_reti C0 hw hS (congrArg (fun z => (z, S)) (Option.some.inj h)) dX11_refusalOfTold_61
              · replace h := z_ifn c11 h
                refine lv_iload_n hx hb dX11_refusalOfTold_49 rfl (lv_at hl 2 rfl) ?_
                refine lv_bipush (v := 20) hx hb dX11_refusalOfTold_50 (by decide) ?_
                refine lv_icmp_le (tgt := 60) hx hb dX11_refusalOfTold_52 (by decide) (fun c12 => ?_) (fun c12 => ?_)
                · replace h := z_ifp c12 h
                  refine lv_iconst (v := 0) hx hb dX11_refusalOfTold_60 (by decide) ?_
                  exact z_reti C0 hw hS (congrArg (fun z => (z, S)) (Option.some.inj h)) dX11_refusalOfTold_61
                · replace h := z_ifn c12 h
                  refine lv_bipush (v := (-6)) hx hb dX11_refusalOfTold_55 (by decide) ?_
                  refine lv_goto (tgt := 61) hx hb dX11_refusalOfTold_57 (by decide) ?_
                  exact z_reti C0 hw hS (congrArg (fun z => (z, S)) (Option.some.inj h)) dX11_refusalOfTold_61
        · replace h := z_ifn c8 h
          refine lv_bipush (v := (-5)) hx hb dX11_refusalOfTold_31 (by decide) ?_
          exact z_reti C0 hw hS (congrArg (fun z => (z, S)) (Option.some.inj h)) dX11_refusalOfTold_33
      · replace h := z_ifn c7 h
        refine lv_bipush (v := (-4)) hx hb dX11_refusalOfTold_20 (by decide) ?_
        exact z_reti C0 hw hS (congrArg (fun z => (z, S)) (Option.some.inj h)) dX11_refusalOfTold_22
    · replace h := z_ifp c6 h
      exact t_X11_refusalOfTold_B11 C0 S res (some j1) h _ _ _ hw hS (lv_sub hl [0] rfl)
def M_X11_refusalOfLife_B11 (pk : Nat → Nat) (S : zSt) (o0 : Option Nat) : Option (Int32) :=
  (zm o0 (Option.bind (M_X11_lackOfRow pk S none) (fun w3 => some w3)) (fun q2 => zg (decide (q2 < 8)) (Option.bind (M_X11_lackOfRow pk S (some q2)) (fun w4 => some w4))))
set_option maxHeartbeats 4000000 in
set_option maxRecDepth 100000 in
theorem t_X11_refusalOfLife_B11 {p : Program} {l : Launch} {e : Env} {s : State} {m : MethodId} {args : Array Value} {below : List Frame} {meth : Method} {c : Code} {D : va_G} {Y : Nat → ClassId} {F : Nat → Nat} {A : Nat → Prop} {G : zG} (C0 : zCx p s m args meth c D Y F A RX11 cX11_refusalOfLife 3 (some .int) wsX11_refusalOfLife) (S : zSt) (res : Int32) : ∀ (o0 : Option Nat), M_X11_refusalOfLife_B11 (zpk G) S o0 = some res → ∀ (H : Heap) (locs : List Loc) (ls : Array Slot), zH D Y F A G S H → va_S A s.heap H locs → lv_has ls 3 [(0, va_rf (Option.map (zsa F G) o0))] → W p l e (zRm 2 40) s m args below meth c H locs 0 0 (MQ below (zQi D Y F A G (res, S)) args s 0 0 A) (F0 m 11 ls []) := by
  obtain ⟨hx, hb, hml, hr, hown, hts, hK, hA, hlk, hN⟩ := id C0
  intro o0 h H locs ls hw hS hl
  unfold M_X11_refusalOfLife_B11 at h
  rcases o0 with _ | q2
  · replace h := zm_n h
    have hl : lv_has ls 3 [(0, .null)] := hl
    refine lv_aload_nN hx hb dX11_refusalOfLife_11 rfl (lv_at hl 0 rfl) ?_
    obtain ⟨w3, ew3, h⟩ := z_bd h
    refine z_goi C0 hw hS (res := (w3, S)) (rest := []) (arr := ([.null] : List Value).toArray) ?_ (fun H locs hw hS => ?_)
    · exact va_runS (z_fix C0) (c_X11_lackOfRow l D Y F G S _ none (fun _ h => nomatch h) w3 ew3) (va_cwS 1 hts gX11_refusalOfLife_X11_lackOfRow rfl rfl rfl (by decide +kernel) ⟨Nat.le_of_ble_eq_true rfl, Nat.le_of_ble_eq_true rfl⟩) ⟨zPc_blind, z_give C0 hw hS _⟩ rfl rfl hl.1 rfl (lv_room (Nat.le_of_ble_eq_true rfl)) dX11_refusalOfLife_12 ⟨Nat.zero_le _, Nat.zero_le _⟩
    exact z_reti C0 hw hS (congrArg (fun z => (z, S)) (Option.some.inj h)) dX11_refusalOfLife_15
  · replace h := zm_s h
    obtain ⟨bq2, h⟩ := z_gd h
    have hq2 : q2 < 8 := of_decide_eq_true bq2
    have hl : lv_has ls 3 [(0, .ref (zad F G (40 + 2 * q2)))] := hl
    refine lv_aload_n hx hb dX11_refusalOfLife_11 rfl (lv_at hl 0 rfl) ?_
    obtain ⟨w4, ew4, h⟩ := z_bd h
    refine z_goi C0 hw hS (res := (w4, S)) (rest := []) (arr := ([.ref (zad F G (40 + 2 * q2))] : List Value).toArray) ?_ (fun H locs hw hS => ?_)
    · exact va_runS (z_fix C0) (c_X11_lackOfRow l D Y F G S _ (some q2) (fun _ h => Option.some.inj h ▸ hq2) w4 ew4) (va_cwS 1 hts gX11_refusalOfLife_X11_lackOfRow rfl rfl rfl (by decide +kernel) ⟨Nat.le_of_ble_eq_true rfl, Nat.le_of_ble_eq_true rfl⟩) ⟨zPc_blind, z_give C0 hw hS _⟩ rfl rfl hl.1 rfl (lv_room (Nat.le_of_ble_eq_true rfl)) dX11_refusalOfLife_12 ⟨Nat.zero_le _, Nat.zero_le _⟩
    exact z_reti C0 hw hS (congrArg (fun z => (z, S)) (Option.some.inj h)) dX11_refusalOfLife_15
def M_X11_refusalOfLife (pk : Nat → Nat) (S : zSt) (o0 : Option Nat) (x1 : Int32) (x2 : Int32) : Option (Int32) :=
  (zm o0 (M_X11_refusalOfLife_B11 pk S none) (fun j1 => Option.bind (M_X7_hasRow pk S j1) (fun w5 => (if w5 = 0 then M_X11_refusalOfLife_B11 pk S (some j1) else (if 0 ≤ x1 then (if (zsc S (40 + 2 * j1) 2) < x1 then some (-5) else (if x2 = 0 then some (-5) else (if x1 ≤ 40 then some 0 else some (-6)))) else some (-4))))))
set_option maxHeartbeats 4000000 in
set_option maxRecDepth 100000 in
theorem c_X11_refusalOfLife (l : Launch) (D : va_G) (Y : Nat → ClassId) (F : Nat → Nat) (G : zG) (S : zSt) (sz : Nat) (o0 : Option Nat) (ho0 : ∀ j, o0 = some j → j < 8) (x1 : Int32) (x2 : Int32) (res : Int32) (h : M_X11_refusalOfLife (zpk G) S o0 x1 x2 = some res) : Met l yX11_refusalOfLife wsX11_refusalOfLife (zRm 2 40) (zPc D Y F G S sz [va_rf (Option.map (zsa F G) o0), .int x1, .int x2]) (zQi D Y F (zAo F G sz) G (res, S)) 0 0 (zAo F G sz) := by
  unfold M_X11_refusalOfLife at h
  rcases o0 with _ | j1
  · replace h := zm_n h
    refine zMet (cc := cX11_refusalOfLife) (maxL := 3) (ret := (some .int)) (own := RX11) (by decide +kernel) rfl rfl (Nat.le_of_ble_eq_true rfl) ?_
    intro p e s m args below meth c C0 hin hw hS ls hl
    have hl : lv_has ls 3 [(0, .null), (1, .int x1), (2, .int x2)] := hl
    generalize zAo F G sz = A at C0 hw hS ⊢
    obtain ⟨hx, hb, hml, hr, hown, hts, hK, hA, hlk, hN⟩ := id C0
    refine lv_aload_nN hx hb dX11_refusalOfLife_0 rfl (lv_at hl 0 rfl) ?_
    refine lv_ifnullN (tgt := 11) hx hb dX11_refusalOfLife_1 (by decide) ?_
    exact t_X11_refusalOfLife_B11 C0 S res none h _ _ _ hw hS (lv_sub hl [0] rfl)
  · replace h := zm_s h
    have hj1 : j1 < 8 := ho0 j1 rfl
    refine zMet (cc := cX11_refusalOfLife) (maxL := 3) (ret := (some .int)) (own := RX11) (by decide +kernel) rfl rfl (Nat.le_of_ble_eq_true rfl) ?_
    intro p e s m args below meth c C0 hin hw hS ls hl
    have hl : lv_has ls 3 [(0, .ref (zad F G (40 + 2 * j1))), (1, .int x1), (2, .int x2)] := hl
    generalize zAo F G sz = A at C0 hw hS ⊢
    obtain ⟨hx, hb, hml, hr, hown, hts, hK, hA, hlk, hN⟩ := id C0
    refine lv_aload_n hx hb dX11_refusalOfLife_0 rfl (lv_at hl 0 rfl) ?_
    refine lv_ifnull hx hb dX11_refusalOfLife_1 ?_
    refine lv_aload_n hx hb dX11_refusalOfLife_4 rfl (lv_at hl 0 rfl) ?_
    obtain ⟨w5, ew5, h⟩ := z_bd h
    refine z_goi C0 hw hS (res := (w5, S)) (rest := []) (arr := (Value.ref (zad F G (40 + 2 * j1)) :: []).toArray) ?_ (fun H locs hw hS => ?_)
    · exact va_runV (z_fix C0) (c_X7_hasRow l D Y F G S _ j1 hj1 w5 ew5) (cwV 0 hts gX11_refusalOfLife_X7_hasRow rfl rfl rfl (by decide +kernel) ⟨Nat.le_of_ble_eq_true rfl, Nat.le_of_ble_eq_true rfl⟩) ⟨zPc_blind, z_rv C0 hw (k := (40 + 2 * j1)) (zsh_E hj1) rfl (zsh_B hj1) rfl, z_give C0 hw hS _⟩ rfl rfl hl.1 rfl (lv_room (Nat.le_of_ble_eq_true rfl)) dX11_refusalOfLife_5 ⟨Nat.zero_le _, Nat.zero_le _⟩
    refine lv_if_ne (tgt := 16) hx hb dX11_refusalOfLife_8 (by decide) (fun c6 => ?_) (fun c6 => ?_)
    · replace h := z_ifn c6 h
      refine lv_iload_n hx hb dX11_refusalOfLife_16 rfl (lv_at hl 1 rfl) ?_
      refine lv_if_ge (tgt := 23) hx hb dX11_refusalOfLife_17 (by decide) (fun c7 => ?_) (fun c7 => ?_)
      · replace h := z_ifp c7 h
        refine lv_iload_n hx hb dX11_refusalOfLife_23 rfl (lv_at hl 1 rfl) ?_
        refine lv_aload_n hx hb dX11_refusalOfLife_24 rfl (lv_at hl 0 rfl) ?_
        refine z_getU C0 in_X11_refusalOfLife_X7 (C := RX7) (T := TX7) (N := 3) hw (k := (40 + 2 * j1)) (ci := 7) (v := .int ((zsc S (40 + 2 * j1) 2))) (zsh_E hj1) rfl (zsh_B hj1) rfl 2 (by decide) rfl 1 rfl (Or.inl rfl) dX11_refusalOfLife_25 ?_
        refine lv_icmp_gt (tgt := 35) hx hb dX11_refusalOfLife_28 (by decide) (fun c8 => ?_) (fun c8 => ?_)
        · replace h := z_ifp c8 h
          refine lv_bipush (v := (-5)) hx hb dX11_refusalOfLife_35 (by decide) ?_
          exact z_reti C0 hw hS (congrArg (fun z => (z, S)) (Option.some.inj h)) dX11_refusalOfLife_37
        · replace h := z_ifn c8 h
          refine lv_iload_n hx hb dX11_refusalOfLife_31 rfl (lv_at hl 2 rfl) ?_
          refine lv_if_ne (tgt := 38) hx hb dX11_refusalOfLife_32 (by decide) (fun c9 => ?_) (fun c9 => ?_)
          · replace h := z_ifn c9 h
            refine lv_iload_n hx hb dX11_refusalOfLife_38 rfl (lv_at hl 1 rfl) ?_
            refine lv_bipush (v := 40) hx hb dX11_refusalOfLife_39 (by decide) ?_
            refine lv_icmp_le (tgt := 49) hx hb dX11_refusalOfLife_41 (by decide) (fun c10 => ?_) (fun c10 => ?_)
            · replace h := z_ifp c10 h
              refine lv_iconst (v := 0) hx hb dX11_refusalOfLife_49 (by decide) ?_
              exact z_reti C0 hw hS (congrArg (fun z => (z, S)) (Option.some.inj h)) dX11_refusalOfLife_50
            · replace h := z_ifn c10 h
              refine lv_bipush (v := (-6)) hx hb dX11_refusalOfLife_44 (by decide) ?_
              refine lv_goto (tgt := 50) hx hb dX11_refusalOfLife_46 (by decide) ?_
              exact z_reti C0 hw hS (congrArg (fun z => (z, S)) (Option.some.inj h)) dX11_refusalOfLife_50
          · replace h := z_ifp c9 h
            refine lv_bipush (v := (-5)) hx hb dX11_refusalOfLife_35 (by decide) ?_
            exact z_reti C0 hw hS (congrArg (fun z => (z, S)) (Option.some.inj h)) dX11_refusalOfLife_37
      · replace h := z_ifn c7 h
        refine lv_bipush (v := (-4)) hx hb dX11_refusalOfLife_20 (by decide) ?_
        exact z_reti C0 hw hS (congrArg (fun z => (z, S)) (Option.some.inj h)) dX11_refusalOfLife_22
    · replace h := z_ifp c6 h
      exact t_X11_refusalOfLife_B11 C0 S res (some j1) h _ _ _ hw hS (lv_sub hl [0] rfl)
def M_X11_shelfAt_B10 (pk : Nat → Nat) (S : zSt) : Option (Option Nat) :=
  some none
set_option maxHeartbeats 4000000 in
set_option maxRecDepth 100000 in
theorem t_X11_shelfAt_B10 {p : Program} {l : Launch} {e : Env} {s : State} {m : MethodId} {args : Array Value} {below : List Frame} {meth : Method} {c : Code} {D : va_G} {Y : Nat → ClassId} {F : Nat → Nat} {A : Nat → Prop} {G : zG} (C0 : zCx p s m args meth c D Y F A RX11 cX11_shelfAt 2 (some (.object "CarbonCopies$Shelf")) wsX11_shelfAt) (S : zSt) (res : Option Nat) : M_X11_shelfAt_B10 (zpk G) S = some res → ∀ (H : Heap) (locs : List Loc) (ls : Array Slot), zH D Y F A G S H → va_S A s.heap H locs → lv_has ls 2 [] → W p l e (zRm 0 0) s m args below meth c H locs 0 0 (MQ below (zQq D Y F A G S (res.map (zsa F G))) args s 0 0 A) (F0 m 10 ls []) := by
  obtain ⟨hx, hb, hml, hr, hown, hts, hK, hA, hlk, hN⟩ := id C0
  intro h H locs ls hw hS hl
  unfold M_X11_shelfAt_B10 at h
  refine lv_null hx hb dX11_shelfAt_10 ?_
  refine lv_goto (tgt := 20) hx hb dX11_shelfAt_11 (by decide) ?_
  exact z_retq C0 hw hS (congrArg (fun z => va_rf (Option.map (zsa F G) z)) (Option.some.inj h)) dX11_shelfAt_20
def M_X11_shelfAt (pk : Nat → Nat) (S : zSt) (x1 : Int32) : Option (Option Nat) :=
  (if x1 < 0 then M_X11_shelfAt_B10 pk S else (if x1 < 8 then zg (zin x1 8) (some (some ((Int32.toNatClampNeg x1)))) else M_X11_shelfAt_B10 pk S))
set_option maxHeartbeats 4000000 in
set_option maxRecDepth 100000 in
theorem c_X11_shelfAt (l : Launch) (D : va_G) (Y : Nat → ClassId) (F : Nat → Nat) (G : zG) (S : zSt) (sz : Nat) (x1 : Int32) (res : Option Nat) (h : M_X11_shelfAt (zpk G) S x1 = some res) : Met l yX11_shelfAt wsX11_shelfAt (zRm 0 0) (zPc D Y F G S sz [.ref (F 20), .int x1]) (zQq D Y F (zAo F G sz) G S (res.map (zsa F G))) 0 0 (zAo F G sz) := by
  unfold M_X11_shelfAt at h
  refine zMet (cc := cX11_shelfAt) (maxL := 2) (ret := (some (.object "CarbonCopies$Shelf"))) (own := RX11) (by decide +kernel) rfl rfl (Nat.le_of_ble_eq_true rfl) ?_
  intro p e s m args below meth c C0 hin hw hS ls hl
  have hl : lv_has ls 2 [(0, .ref (F 20)), (1, .int x1)] := hl
  generalize zAo F G sz = A at C0 hw hS ⊢
  obtain ⟨hx, hb, hml, hr, hown, hts, hK, hA, hlk, hN⟩ := id C0
  refine lv_iload_n hx hb dX11_shelfAt_0 rfl (lv_at hl 1 rfl) ?_
  refine lv_if_lt (tgt := 10) hx hb dX11_shelfAt_1 (by decide) (fun c1 => ?_) (fun c1 => ?_)
  · replace h := z_ifp c1 h
    exact t_X11_shelfAt_B10 C0 S res h _ _ _ hw hS (lv_sub hl [] rfl)
  · replace h := z_ifn c1 h
    refine lv_iload_n hx hb dX11_shelfAt_4 rfl (lv_at hl 1 rfl) ?_
    refine lv_bipush (v := 8) hx hb dX11_shelfAt_5 (by decide) ?_
    refine lv_icmp_lt (tgt := 14) hx hb dX11_shelfAt_7 (by decide) (fun c2 => ?_) (fun c2 => ?_)
    · replace h := z_ifp c2 h
      refine lv_aload_n hx hb dX11_shelfAt_14 rfl (lv_at hl 0 rfl) ?_
      refine z_getU C0 in_X11_shelfAt_X11 (C := RX11) (T := TX11) (N := 14) hw (k := 20) (ci := 11) (v := .ref (F 21)) rfl rfl rfl rfl 0 (by decide) rfl 1 rfl (Or.inl rfl) dX11_shelfAt_15 ?_
      refine lv_iload_n hx hb dX11_shelfAt_18 rfl (lv_at hl 1 rfl) ?_
      obtain ⟨b3, h⟩ := z_gd h
      refine z_aald C0 hw (k := 21) (t0 := 3) rfl rfl rfl (zin_in b3) rfl dX11_shelfAt_19 ?_
      refine z_topv (y := .ref (zad F G (40 + 2 * (Int32.toNatClampNeg x1)))) rfl ?_
      exact z_retq C0 hw hS (congrArg (fun z => va_rf (Option.map (zsa F G) z)) (Option.some.inj h)) dX11_shelfAt_20
    · replace h := z_ifn c2 h
      exact t_X11_shelfAt_B10 C0 S res h _ _ _ hw hS (lv_sub hl [] rfl)
def M_X11_refuseLess_B22 (pk : Nat → Nat) (S : zSt) (x1 : Int32) (x2 : Int32) : Option (Int32 × zSt) :=
  some ((x1 - x2), S)
set_option maxHeartbeats 4000000 in
set_option maxRecDepth 100000 in
theorem t_X11_refuseLess_B22 {p : Program} {l : Launch} {e : Env} {s : State} {m : MethodId} {args : Array Value} {below : List Frame} {meth : Method} {c : Code} {D : va_G} {Y : Nat → ClassId} {F : Nat → Nat} {A : Nat → Prop} {G : zG} (C0 : zCx p s m args meth c D Y F A RX11 cX11_refuseLess 3 (some .int) wsX11_refuseLess) (res : Int32 × zSt) : ∀ (S : zSt) (x1 : Int32) (x2 : Int32), M_X11_refuseLess_B22 (zpk G) S x1 x2 = some res → ∀ (H : Heap) (locs : List Loc) (ls : Array Slot), zH D Y F A G S H → va_S A s.heap H locs → lv_has ls 3 [(1, .int x1), (2, .int x2)] → W p l e (zRm 0 0) s m args below meth c H locs 0 0 (MQ below (zQi D Y F A G res) args s 0 0 A) (F0 m 22 ls []) := by
  obtain ⟨hx, hb, hml, hr, hown, hts, hK, hA, hlk, hN⟩ := id C0
  intro S x1 x2 h H locs ls hw hS hl
  unfold M_X11_refuseLess_B22 at h
  refine lv_iload_n hx hb dX11_refuseLess_22 rfl (lv_at hl 0 rfl) ?_
  refine lv_iload_n hx hb dX11_refuseLess_23 rfl (lv_at hl 1 rfl) ?_
  refine lv_isub hx hb dX11_refuseLess_24 ?_
  exact z_reti C0 hw hS (Option.some.inj h) dX11_refuseLess_25
def M_X11_refuseLess (pk : Nat → Nat) (S : zSt) (x1 : Int32) (x2 : Int32) : Option (Int32 × zSt) :=
  (if (-1) < x1 then M_X11_refuseLess_B22 pk S x1 x2 else (if x1 < (-7) then M_X11_refuseLess_B22 pk S x1 x2 else zg (zin ((-x1)) 8) (zg (zin ((-x1)) 8) (M_X11_refuseLess_B22 pk ((zAs S 22 (Int32.toNatClampNeg ((-x1))) (((zar S 22 (Int32.toNatClampNeg ((-x1)))) + 1)))) x1 x2))))
set_option maxHeartbeats 4000000 in
set_option maxRecDepth 100000 in
theorem c_X11_refuseLess (l : Launch) (D : va_G) (Y : Nat → ClassId) (F : Nat → Nat) (G : zG) (S : zSt) (sz : Nat) (x1 : Int32) (x2 : Int32) (res : Int32 × zSt) (h : M_X11_refuseLess (zpk G) S x1 x2 = some res) : Met l yX11_refuseLess wsX11_refuseLess (zRm 0 0) (zPc D Y F G S sz [.ref (F 20), .int x1, .int x2]) (zQi D Y F (zAo F G sz) G res) 0 0 (zAo F G sz) := by
  unfold M_X11_refuseLess at h
  refine zMet (cc := cX11_refuseLess) (maxL := 3) (ret := (some .int)) (own := RX11) (by decide +kernel) rfl rfl (Nat.le_of_ble_eq_true rfl) ?_
  intro p e s m args below meth c C0 hin hw hS ls hl
  have hl : lv_has ls 3 [(0, .ref (F 20)), (1, .int x1), (2, .int x2)] := hl
  generalize zAo F G sz = A at C0 hw hS ⊢
  obtain ⟨hx, hb, hml, hr, hown, hts, hK, hA, hlk, hN⟩ := id C0
  refine lv_iload_n hx hb dX11_refuseLess_0 rfl (lv_at hl 1 rfl) ?_
  refine lv_iconst (v := (-1)) hx hb dX11_refuseLess_1 (by decide) ?_
  refine lv_icmp_gt (tgt := 22) hx hb dX11_refuseLess_2 (by decide) (fun c1 => ?_) (fun c1 => ?_)
  · replace h := z_ifp c1 h
    exact t_X11_refuseLess_B22 C0 res S x1 x2 h _ _ _ hw hS (lv_sub hl [1, 2] rfl)
  · replace h := z_ifn c1 h
    refine lv_iload_n hx hb dX11_refuseLess_5 rfl (lv_at hl 1 rfl) ?_
    refine lv_bipush (v := (-7)) hx hb dX11_refuseLess_6 (by decide) ?_
    refine lv_icmp_lt (tgt := 22) hx hb dX11_refuseLess_8 (by decide) (fun c2 => ?_) (fun c2 => ?_)
    · replace h := z_ifp c2 h
      exact t_X11_refuseLess_B22 C0 res S x1 x2 h _ _ _ hw hS (lv_sub hl [1, 2] rfl)
    · replace h := z_ifn c2 h
      refine lv_aload_n hx hb dX11_refuseLess_11 rfl (lv_at hl 0 rfl) ?_
      refine z_getU C0 in_X11_refuseLess_X11 (C := RX11) (T := TX11) (N := 14) hw (k := 20) (ci := 11) (v := .ref (F 22)) rfl rfl rfl rfl 1 (by decide) rfl 1 rfl (Or.inl rfl) dX11_refuseLess_12 ?_
      refine lv_iload_n hx hb dX11_refuseLess_15 rfl (lv_at hl 1 rfl) ?_
      refine lv_ineg hx hb dX11_refuseLess_16 ?_
      refine lv_dup2_11 hx hb dX11_refuseLess_17 rfl rfl ?_
      obtain ⟨b3, h⟩ := z_gd h
      refine z_iald C0 hw 22 rfl rfl zri_22 (zin_in b3) dX11_refuseLess_18 ?_
      refine lv_iconst (v := 1) hx hb dX11_refuseLess_19 (by decide) ?_
      refine lv_iadd hx hb dX11_refuseLess_20 ?_
      obtain ⟨b4, h⟩ := z_gd h
      refine z_iasts C0 hw hS 22 rfl rfl zri_22 (zin_in b4) dX11_refuseLess_21 (fun H locs hw hS => ?_)
      exact t_X11_refuseLess_B22 C0 res ((zAs S 22 (Int32.toNatClampNeg ((-x1))) (((zar S 22 (Int32.toNatClampNeg ((-x1)))) + 1)))) x1 x2 h _ _ _ hw hS (lv_sub hl [1, 2] rfl)
def M_X11_refuse (pk : Nat → Nat) (S : zSt) (x1 : Int32) : Option (Int32 × zSt) :=
  Option.bind (M_X11_refuseLess pk S x1 0) (fun w1 => some (w1.1, w1.2))
set_option maxHeartbeats 4000000 in
set_option maxRecDepth 100000 in
theorem c_X11_refuse (l : Launch) (D : va_G) (Y : Nat → ClassId) (F : Nat → Nat) (G : zG) (S : zSt) (sz : Nat) (x1 : Int32) (res : Int32 × zSt) (h : M_X11_refuse (zpk G) S x1 = some res) : Met l yX11_refuse wsX11_refuse (zRm 1 22) (zPc D Y F G S sz [.ref (F 20), .int x1]) (zQi D Y F (zAo F G sz) G res) 0 0 (zAo F G sz) := by
  unfold M_X11_refuse at h
  refine zMet (cc := cX11_refuse) (maxL := 2) (ret := (some .int)) (own := RX11) (by decide +kernel) rfl rfl (Nat.le_of_ble_eq_true rfl) ?_
  intro p e s m args below meth c C0 hin hw hS ls hl
  have hl : lv_has ls 2 [(0, .ref (F 20)), (1, .int x1)] := hl
  generalize zAo F G sz = A at C0 hw hS ⊢
  obtain ⟨hx, hb, hml, hr, hown, hts, hK, hA, hlk, hN⟩ := id C0
  refine lv_aload_n hx hb dX11_refuse_0 rfl (lv_at hl 0 rfl) ?_
  refine lv_iload_n hx hb dX11_refuse_1 rfl (lv_at hl 1 rfl) ?_
  refine lv_iconst (v := 0) hx hb dX11_refuse_2 (by decide) ?_
  obtain ⟨w1, ew1, h⟩ := z_bd h
  refine z_goi C0 hw hS (res := w1) (rest := []) (arr := (Value.ref (F 20) :: [.int x1, .int 0]).toArray) ?_ (fun H locs hw hS => ?_)
  · exact va_runV (z_fix C0) (c_X11_refuseLess l D Y F G S _ x1 0 w1 ew1) (cwV 2 hts gX11_refuse_X11_refuseLess rfl rfl rfl (by decide +kernel) ⟨Nat.le_of_ble_eq_true rfl, Nat.le_of_ble_eq_true rfl⟩) ⟨zPc_blind, z_rv C0 hw (k := 20) rfl rfl rfl rfl, z_give C0 hw hS _⟩ rfl rfl hl.1 rfl (lv_room (Nat.le_of_ble_eq_true rfl)) dX11_refuse_3 ⟨Nat.zero_le _, Nat.zero_le _⟩
  exact z_reti C0 hw hS (Option.some.inj h) dX11_refuse_6
def M_X11_row_B38 (pk : Nat → Nat) (S : zSt) : Option (Int32 × zSt) :=
  Option.bind (M_X11_refuse pk S (-6)) (fun w6 => some (w6.1, w6.2))
set_option maxHeartbeats 4000000 in
set_option maxRecDepth 100000 in
theorem t_X11_row_B38 {p : Program} {l : Launch} {e : Env} {s : State} {m : MethodId} {args : Array Value} {below : List Frame} {meth : Method} {c : Code} {D : va_G} {Y : Nat → ClassId} {F : Nat → Nat} {A : Nat → Prop} {G : zG} (C0 : zCx p s m args meth c D Y F A RX11 cX11_row 5 (some .int) wsX11_row) (res : Int32 × zSt) : ∀ (S : zSt), M_X11_row_B38 (zpk G) S = some res → ∀ (H : Heap) (locs : List Loc) (ls : Array Slot), zH D Y F A G S H → va_S A s.heap H locs → lv_has ls 5 [(0, .ref (F 20))] → W p l e (zRm 2 46) s m args below meth c H locs 0 0 (MQ below (zQi D Y F A G res) args s 0 0 A) (F0 m 38 ls []) := by
  obtain ⟨hx, hb, hml, hr, hown, hts, hK, hA, hlk, hN⟩ := id C0
  intro S h H locs ls hw hS hl
  unfold M_X11_row_B38 at h
  refine lv_aload_n hx hb dX11_row_38 rfl (lv_at hl 0 rfl) ?_
  refine lv_bipush (v := (-6)) hx hb dX11_row_39 (by decide) ?_
  obtain ⟨w6, ew6, h⟩ := z_bd h
  refine z_goi C0 hw hS (res := w6) (rest := []) (arr := (Value.ref (F 20) :: [.int (-6)]).toArray) ?_ (fun H locs hw hS => ?_)
  · exact va_runV (z_fix C0) (c_X11_refuse l D Y F G S _ (-6) w6 ew6) (cwV 1 hts gX11_row_X11_refuse rfl rfl rfl (by decide +kernel) ⟨Nat.le_of_ble_eq_true rfl, Nat.le_of_ble_eq_true rfl⟩) ⟨zPc_blind, z_rv C0 hw (k := 20) rfl rfl rfl rfl, z_give C0 hw hS _⟩ rfl rfl hl.1 rfl (lv_room (Nat.le_of_ble_eq_true rfl)) dX11_row_41 ⟨Nat.zero_le _, Nat.zero_le _⟩
  exact z_reti C0 hw hS (Option.some.inj h) dX11_row_44
def M_X11_row (pk : Nat → Nat) (S : zSt) (x1 : Int32) (x2 : Int32) (x3 : Int32) : Option (Int32 × zSt) :=
  Option.bind (M_X11_shelfAt pk S x1) (fun w1 => (zm w1 (Option.bind (M_X11_refuse pk S (-1)) (fun w3 => some (w3.1, w3.2))) (fun q2 => zg (decide (q2 < 8)) ((if 0 ≤ x3 then (if x2 < 0 then M_X11_row_B38 pk S else (if x2 < 4 then (if x3 ≤ 160 then Option.bind (M_X7_takeRow pk S q2 x2 x3) (fun w9 => some (1, w9)) else Option.bind (M_X11_refuse pk S (-7)) (fun w10 => some (w10.1, w10.2))) else M_X11_row_B38 pk S)) else Option.bind (M_X11_refuse pk S (-4)) (fun w11 => some (w11.1, w11.2)))))))
set_option maxHeartbeats 4000000 in
set_option maxRecDepth 100000 in
theorem c_X11_row (l : Launch) (D : va_G) (Y : Nat → ClassId) (F : Nat → Nat) (G : zG) (S : zSt) (sz : Nat) (x1 : Int32) (x2 : Int32) (x3 : Int32) (res : Int32 × zSt) (h : M_X11_row (zpk G) S x1 x2 x3 = some res) : Met l yX11_row wsX11_row (zRm 2 46) (zPc D Y F G S sz [.ref (F 20), .int x1, .int x2, .int x3]) (zQi D Y F (zAo F G sz) G res) 0 0 (zAo F G sz) := by
  unfold M_X11_row at h
  refine zMet (cc := cX11_row) (maxL := 5) (ret := (some .int)) (own := RX11) (by decide +kernel) rfl rfl (Nat.le_of_ble_eq_true rfl) ?_
  intro p e s m args below meth c C0 hin hw hS ls hl
  have hl : lv_has ls 5 [(0, .ref (F 20)), (1, .int x1), (2, .int x2), (3, .int x3)] := hl
  generalize zAo F G sz = A at C0 hw hS ⊢
  obtain ⟨hx, hb, hml, hr, hown, hts, hK, hA, hlk, hN⟩ := id C0
  refine lv_aload_n hx hb dX11_row_0 rfl (lv_at hl 0 rfl) ?_
  refine lv_iload_n hx hb dX11_row_1 rfl (lv_at hl 1 rfl) ?_
  obtain ⟨w1, ew1, h⟩ := z_bd h
  refine z_goq C0 hw hS (r0 := w1.map (zsa F G)) (rest := []) (arr := (Value.ref (F 20) :: [.int x1]).toArray) ?_ (fun H locs hw hS => ?_)
  · exact va_runV (z_fix C0) (c_X11_shelfAt l D Y F G S _ x1 w1 ew1) (cwV 1 hts gX11_row_X11_shelfAt rfl rfl rfl (by decide +kernel) ⟨Nat.le_of_ble_eq_true rfl, Nat.le_of_ble_eq_true rfl⟩) ⟨zPc_blind, z_rv C0 hw (k := 20) rfl rfl rfl rfl, z_give C0 hw hS _⟩ rfl rfl hl.1 rfl (lv_room (Nat.le_of_ble_eq_true rfl)) dX11_row_2 ⟨Nat.zero_le _, Nat.zero_le _⟩
  rcases w1 with _ | q2
  · replace h := zm_n h
    refine z_topv (y := .null) rfl ?_
    refine lv_astoreN (lv' := [(4, .null), (0, .ref (F 20)), (1, .int x1), (2, .int x2), (3, .int x3)]) hx hb dX11_row_5 hl (by decide) rfl (fun ls hl => ?_)
    refine lv_aloadN hx hb dX11_row_7 (lv_at hl 0 rfl) ?_
    refine lv_ifnonnullN hx hb dX11_row_9 ?_
    refine lv_aload_n hx hb dX11_row_12 rfl (lv_at hl 1 rfl) ?_
    refine lv_iconst (v := (-1)) hx hb dX11_row_13 (by decide) ?_
    obtain ⟨w3, ew3, h⟩ := z_bd h
    refine z_goi C0 hw hS (res := w3) (rest := []) (arr := (Value.ref (F 20) :: [.int (-1)]).toArray) ?_ (fun H locs hw hS => ?_)
    · exact va_runV (z_fix C0) (c_X11_refuse l D Y F G S _ (-1) w3 ew3) (cwV 1 hts gX11_row_X11_refuse rfl rfl rfl (by decide +kernel) ⟨Nat.le_of_ble_eq_true rfl, Nat.le_of_ble_eq_true rfl⟩) ⟨zPc_blind, z_rv C0 hw (k := 20) rfl rfl rfl rfl, z_give C0 hw hS _⟩ rfl rfl hl.1 rfl (lv_room (Nat.le_of_ble_eq_true rfl)) dX11_row_14 ⟨Nat.zero_le _, Nat.zero_le _⟩
    exact z_reti C0 hw hS (Option.some.inj h) dX11_row_17
  · replace h := zm_s h
    obtain ⟨bq2, h⟩ := z_gd h
    have hq2 : q2 < 8 := of_decide_eq_true bq2
    refine z_topv (y := .ref (zad F G (40 + 2 * q2))) rfl ?_
    refine lv_astore (lv' := [(4, .ref (zad F G (40 + 2 * q2))), (0, .ref (F 20)), (1, .int x1), (2, .int x2), (3, .int x3)]) hx hb dX11_row_5 hl (by decide) rfl (fun ls hl => ?_)
    refine lv_aload hx hb dX11_row_7 (lv_at hl 0 rfl) ?_
    refine lv_ifnonnull (tgt := 18) hx hb dX11_row_9 (by decide) ?_
    refine lv_iload_n hx hb dX11_row_18 rfl (lv_at hl 4 rfl) ?_
    refine lv_if_ge (tgt := 29) hx hb dX11_row_19 (by decide) (fun c4 => ?_) (fun c4 => ?_)
    · replace h := z_ifp c4 h
      refine lv_iload_n hx hb dX11_row_29 rfl (lv_at hl 3 rfl) ?_
      refine lv_if_lt (tgt := 38) hx hb dX11_row_30 (by decide) (fun c5 => ?_) (fun c5 => ?_)
      · replace h := z_ifp c5 h
        exact t_X11_row_B38 C0 res S h _ _ _ hw hS (lv_sub hl [1] rfl)
      · replace h := z_ifn c5 h
        refine lv_iload_n hx hb dX11_row_33 rfl (lv_at hl 3 rfl) ?_
        refine lv_iconst (v := 4) hx hb dX11_row_34 (by decide) ?_
        refine lv_icmp_lt (tgt := 45) hx hb dX11_row_35 (by decide) (fun c7 => ?_) (fun c7 => ?_)
        · replace h := z_ifp c7 h
          refine lv_iload_n hx hb dX11_row_45 rfl (lv_at hl 4 rfl) ?_
          refine lv_sipush (v := 160) hx hb dX11_row_46 (by decide) ?_
          refine lv_icmp_le (tgt := 59) hx hb dX11_row_49 (by decide) (fun c8 => ?_) (fun c8 => ?_)
          · replace h := z_ifp c8 h
            refine lv_aload hx hb dX11_row_59 (lv_at hl 0 rfl) ?_
            refine lv_iload_n hx hb dX11_row_61 rfl (lv_at hl 3 rfl) ?_
            refine lv_iload_n hx hb dX11_row_62 rfl (lv_at hl 4 rfl) ?_
            obtain ⟨w9, ew9, h⟩ := z_bd h
            refine z_gov C0 hw hS (res := w9) (rest := []) (arr := (Value.ref (zad F G (40 + 2 * q2)) :: [.int x2, .int x3]).toArray) ?_ (fun H locs hw hS => ?_)
            · exact va_runV (z_fix C0) (c_X7_takeRow l D Y F G S _ q2 hq2 x2 x3 w9 ew9) (cwV 2 hts gX11_row_X7_takeRow rfl rfl rfl (by decide +kernel) ⟨Nat.le_of_ble_eq_true rfl, Nat.le_of_ble_eq_true rfl⟩) ⟨zPc_blind, z_rv C0 hw (k := (40 + 2 * q2)) (zsh_E hq2) rfl (zsh_B hq2) rfl, z_give C0 hw hS _⟩ rfl rfl hl.1 rfl (lv_room (Nat.le_of_ble_eq_true rfl)) dX11_row_63 ⟨Nat.zero_le _, Nat.zero_le _⟩
            refine lv_iconst (v := 1) hx hb dX11_row_66 (by decide) ?_
            exact z_reti C0 hw hS (Option.some.inj h) dX11_row_67
          · replace h := z_ifn c8 h
            refine lv_aload_n hx hb dX11_row_52 rfl (lv_at hl 1 rfl) ?_
            refine lv_bipush (v := (-7)) hx hb dX11_row_53 (by decide) ?_
            obtain ⟨w10, ew10, h⟩ := z_bd h
            refine z_goi C0 hw hS (res := w10) (rest := []) (arr := (Value.ref (F 20) :: [.int (-7)]).toArray) ?_ (fun H locs hw hS => ?_)
            · exact va_runV (z_fix C0) (c_X11_refuse l D Y F G S _ (-7) w10 ew10) (cwV 1 hts gX11_row_X11_refuse rfl rfl rfl (by decide +kernel) ⟨Nat.le_of_ble_eq_true rfl, Nat.le_of_ble_eq_true rfl⟩) ⟨zPc_blind, z_rv C0 hw (k := 20) rfl rfl rfl rfl, z_give C0 hw hS _⟩ rfl rfl hl.1 rfl (lv_room (Nat.le_of_ble_eq_true rfl)) dX11_row_55 ⟨Nat.zero_le _, Nat.zero_le _⟩
            exact z_reti C0 hw hS (Option.some.inj h) dX11_row_58
        · replace h := z_ifn c7 h
          exact t_X11_row_B38 C0 res S h _ _ _ hw hS (lv_sub hl [1] rfl)
    · replace h := z_ifn c4 h
      refine lv_aload_n hx hb dX11_row_22 rfl (lv_at hl 1 rfl) ?_
      refine lv_bipush (v := (-4)) hx hb dX11_row_23 (by decide) ?_
      obtain ⟨w11, ew11, h⟩ := z_bd h
      refine z_goi C0 hw hS (res := w11) (rest := []) (arr := (Value.ref (F 20) :: [.int (-4)]).toArray) ?_ (fun H locs hw hS => ?_)
      · exact va_runV (z_fix C0) (c_X11_refuse l D Y F G S _ (-4) w11 ew11) (cwV 1 hts gX11_row_X11_refuse rfl rfl rfl (by decide +kernel) ⟨Nat.le_of_ble_eq_true rfl, Nat.le_of_ble_eq_true rfl⟩) ⟨zPc_blind, z_rv C0 hw (k := 20) rfl rfl rfl rfl, z_give C0 hw hS _⟩ rfl rfl hl.1 rfl (lv_room (Nat.le_of_ble_eq_true rfl)) dX11_row_25 ⟨Nat.zero_le _, Nat.zero_le _⟩
      exact z_reti C0 hw hS (Option.some.inj h) dX11_row_28
def M_X11_set_B20 (pk : Nat → Nat) (S : zSt) (o5 : Option Nat) : Option (Int32 × zSt) :=
  (zm o5 (Option.bind (M_X11_lackOfRow pk S none) (fun w4 => Option.bind (M_X11_refuse pk S w4) (fun w5 => some (w5.1, w5.2)))) (fun q3 => zg (decide (q3 < 8)) (Option.bind (M_X11_lackOfRow pk S (some q3)) (fun w6 => Option.bind (M_X11_refuse pk S w6) (fun w7 => some (w7.1, w7.2))))))
set_option maxHeartbeats 4000000 in
set_option maxRecDepth 100000 in
theorem t_X11_set_B20 {p : Program} {l : Launch} {e : Env} {s : State} {m : MethodId} {args : Array Value} {below : List Frame} {meth : Method} {c : Code} {D : va_G} {Y : Nat → ClassId} {F : Nat → Nat} {A : Nat → Prop} {G : zG} (C0 : zCx p s m args meth c D Y F A RX11 cX11_set 6 (some .int) wsX11_set) (res : Int32 × zSt) : ∀ (S : zSt) (o5 : Option Nat), M_X11_set_B20 (zpk G) S o5 = some res → ∀ (H : Heap) (locs : List Loc) (ls : Array Slot), zH D Y F A G S H → va_S A s.heap H locs → lv_has ls 6 [(0, .ref (F 20)), (5, va_rf (Option.map (zsa F G) o5))] → W p l e (zRm 3 64) s m args below meth c H locs 0 0 (MQ below (zQi D Y F A G res) args s 0 0 A) (F0 m 20 ls []) := by
  obtain ⟨hx, hb, hml, hr, hown, hts, hK, hA, hlk, hN⟩ := id C0
  intro S o5 h H locs ls hw hS hl
  unfold M_X11_set_B20 at h
  rcases o5 with _ | q3
  · replace h := zm_n h
    have hl : lv_has ls 6 [(0, .ref (F 20)), (5, .null)] := hl
    refine lv_aload_n hx hb dX11_set_20 rfl (lv_at hl 0 rfl) ?_
    refine lv_aloadN hx hb dX11_set_21 (lv_at hl 1 rfl) ?_
    obtain ⟨w4, ew4, h⟩ := z_bd h
    refine z_goi C0 hw hS (res := (w4, S)) (rest := [.ref (F 20)]) (arr := ([.null] : List Value).toArray) ?_ (fun H locs hw hS => ?_)
    · exact va_runS (z_fix C0) (c_X11_lackOfRow l D Y F G S _ none (fun _ h => nomatch h) w4 ew4) (va_cwS 1 hts gX11_set_X11_lackOfRow rfl rfl rfl (by decide +kernel) ⟨Nat.le_of_ble_eq_true rfl, Nat.le_of_ble_eq_true rfl⟩) ⟨zPc_blind, z_give C0 hw hS _⟩ rfl rfl hl.1 rfl (lv_room (Nat.le_of_ble_eq_true rfl)) dX11_set_23 ⟨Nat.zero_le _, Nat.zero_le _⟩
    obtain ⟨w5, ew5, h⟩ := z_bd h
    refine z_goi C0 hw hS (res := w5) (rest := []) (arr := (Value.ref (F 20) :: [.int w4]).toArray) ?_ (fun H locs hw hS => ?_)
    · exact va_runV (z_fix C0) (c_X11_refuse l D Y F G S _ w4 w5 ew5) (cwV 1 hts gX11_set_X11_refuse rfl rfl rfl (by decide +kernel) ⟨Nat.le_of_ble_eq_true rfl, Nat.le_of_ble_eq_true rfl⟩) ⟨zPc_blind, z_rv C0 hw (k := 20) rfl rfl rfl rfl, z_give C0 hw hS _⟩ rfl rfl hl.1 rfl (lv_room (Nat.le_of_ble_eq_true rfl)) dX11_set_26 ⟨Nat.zero_le _, Nat.zero_le _⟩
    exact z_reti C0 hw hS (Option.some.inj h) dX11_set_29
  · replace h := zm_s h
    obtain ⟨bq3, h⟩ := z_gd h
    have hq3 : q3 < 8 := of_decide_eq_true bq3
    have hl : lv_has ls 6 [(0, .ref (F 20)), (5, .ref (zad F G (40 + 2 * q3)))] := hl
    refine lv_aload_n hx hb dX11_set_20 rfl (lv_at hl 0 rfl) ?_
    refine lv_aload hx hb dX11_set_21 (lv_at hl 1 rfl) ?_
    obtain ⟨w6, ew6, h⟩ := z_bd h
    refine z_goi C0 hw hS (res := (w6, S)) (rest := [.ref (F 20)]) (arr := ([.ref (zad F G (40 + 2 * q3))] : List Value).toArray) ?_ (fun H locs hw hS => ?_)
    · exact va_runS (z_fix C0) (c_X11_lackOfRow l D Y F G S _ (some q3) (fun _ h => Option.some.inj h ▸ hq3) w6 ew6) (va_cwS 1 hts gX11_set_X11_lackOfRow rfl rfl rfl (by decide +kernel) ⟨Nat.le_of_ble_eq_true rfl, Nat.le_of_ble_eq_true rfl⟩) ⟨zPc_blind, z_give C0 hw hS _⟩ rfl rfl hl.1 rfl (lv_room (Nat.le_of_ble_eq_true rfl)) dX11_set_23 ⟨Nat.zero_le _, Nat.zero_le _⟩
    obtain ⟨w7, ew7, h⟩ := z_bd h
    refine z_goi C0 hw hS (res := w7) (rest := []) (arr := (Value.ref (F 20) :: [.int w6]).toArray) ?_ (fun H locs hw hS => ?_)
    · exact va_runV (z_fix C0) (c_X11_refuse l D Y F G S _ w6 w7 ew7) (cwV 1 hts gX11_set_X11_refuse rfl rfl rfl (by decide +kernel) ⟨Nat.le_of_ble_eq_true rfl, Nat.le_of_ble_eq_true rfl⟩) ⟨zPc_blind, z_rv C0 hw (k := 20) rfl rfl rfl rfl, z_give C0 hw hS _⟩ rfl rfl hl.1 rfl (lv_room (Nat.le_of_ble_eq_true rfl)) dX11_set_26 ⟨Nat.zero_le _, Nat.zero_le _⟩
    exact z_reti C0 hw hS (Option.some.inj h) dX11_set_29
def M_X11_set (pk : Nat → Nat) (S : zSt) (x1 : Int32) (x2 : Int32) (x3 : Int64) : Option (Int32 × zSt) :=
  Option.bind (M_X11_shelfAt pk S x1) (fun w1 => (zm w1 (M_X11_set_B20 pk S none) (fun q2 => zg (decide (q2 < 8)) (Option.bind (M_X7_hasRow pk S q2) (fun w8 => (if w8 = 0 then M_X11_set_B20 pk S (some q2) else Option.bind (M_X7_hasElement pk S q2 x2) (fun w10 => (if w10 = 0 then Option.bind (M_X11_refuse pk S (-5)) (fun w13 => some (w13.1, w13.2)) else Option.bind (M_X7_put pk S q2 x2 x3) (fun w12 => some (1, w12))))))))))
set_option maxHeartbeats 4000000 in
set_option maxRecDepth 100000 in
theorem c_X11_set (l : Launch) (D : va_G) (Y : Nat → ClassId) (F : Nat → Nat) (G : zG) (S : zSt) (sz : Nat) (x1 : Int32) (x2 : Int32) (x3 : Int64) (res : Int32 × zSt) (h : M_X11_set (zpk G) S x1 x2 x3 = some res) : Met l yX11_set wsX11_set (zRm 3 64) (zPc D Y F G S sz [.ref (F 20), .int x1, .int x2, .long x3]) (zQi D Y F (zAo F G sz) G res) 0 0 (zAo F G sz) := by
  unfold M_X11_set at h
  refine zMet (cc := cX11_set) (maxL := 6) (ret := (some .int)) (own := RX11) (by decide +kernel) rfl rfl (Nat.le_of_ble_eq_true rfl) ?_
  intro p e s m args below meth c C0 hin hw hS ls hl
  have hl : lv_has ls 6 [(0, .ref (F 20)), (1, .int x1), (2, .int x2), (3, .long x3)] := hl
  generalize zAo F G sz = A at C0 hw hS ⊢
  obtain ⟨hx, hb, hml, hr, hown, hts, hK, hA, hlk, hN⟩ := id C0
  refine lv_aload_n hx hb dX11_set_0 rfl (lv_at hl 0 rfl) ?_
  refine lv_iload_n hx hb dX11_set_1 rfl (lv_at hl 1 rfl) ?_
  obtain ⟨w1, ew1, h⟩ := z_bd h
  refine z_goq C0 hw hS (r0 := w1.map (zsa F G)) (rest := []) (arr := (Value.ref (F 20) :: [.int x1]).toArray) ?_ (fun H locs hw hS => ?_)
  · exact va_runV (z_fix C0) (c_X11_shelfAt l D Y F G S _ x1 w1 ew1) (cwV 1 hts gX11_set_X11_shelfAt rfl rfl rfl (by decide +kernel) ⟨Nat.le_of_ble_eq_true rfl, Nat.le_of_ble_eq_true rfl⟩) ⟨zPc_blind, z_rv C0 hw (k := 20) rfl rfl rfl rfl, z_give C0 hw hS _⟩ rfl rfl hl.1 rfl (lv_room (Nat.le_of_ble_eq_true rfl)) dX11_set_2 ⟨Nat.zero_le _, Nat.zero_le _⟩
  rcases w1 with _ | q2
  · replace h := zm_n h
    refine z_topv (y := .null) rfl ?_
    refine lv_astoreN (lv' := [(5, .null), (0, .ref (F 20)), (1, .int x1), (2, .int x2), (3, .long x3)]) hx hb dX11_set_5 hl (by decide) rfl (fun ls hl => ?_)
    refine lv_aloadN hx hb dX11_set_7 (lv_at hl 0 rfl) ?_
    refine lv_ifnullN (tgt := 20) hx hb dX11_set_9 (by decide) ?_
    exact t_X11_set_B20 C0 res S none h _ _ _ hw hS (lv_sub hl [1, 0] rfl)
  · replace h := zm_s h
    obtain ⟨bq2, h⟩ := z_gd h
    have hq2 : q2 < 8 := of_decide_eq_true bq2
    refine z_topv (y := .ref (zad F G (40 + 2 * q2))) rfl ?_
    refine lv_astore (lv' := [(5, .ref (zad F G (40 + 2 * q2))), (0, .ref (F 20)), (1, .int x1), (2, .int x2), (3, .long x3)]) hx hb dX11_set_5 hl (by decide) rfl (fun ls hl => ?_)
    refine lv_aload hx hb dX11_set_7 (lv_at hl 0 rfl) ?_
    refine lv_ifnull hx hb dX11_set_9 ?_
    refine lv_aload hx hb dX11_set_12 (lv_at hl 0 rfl) ?_
    obtain ⟨w8, ew8, h⟩ := z_bd h
    refine z_goi C0 hw hS (res := (w8, S)) (rest := []) (arr := (Value.ref (zad F G (40 + 2 * q2)) :: []).toArray) ?_ (fun H locs hw hS => ?_)
    · exact va_runV (z_fix C0) (c_X7_hasRow l D Y F G S _ q2 hq2 w8 ew8) (cwV 0 hts gX11_set_X7_hasRow rfl rfl rfl (by decide +kernel) ⟨Nat.le_of_ble_eq_true rfl, Nat.le_of_ble_eq_true rfl⟩) ⟨zPc_blind, z_rv C0 hw (k := (40 + 2 * q2)) (zsh_E hq2) rfl (zsh_B hq2) rfl, z_give C0 hw hS _⟩ rfl rfl hl.1 rfl (lv_room (Nat.le_of_ble_eq_true rfl)) dX11_set_14 ⟨Nat.zero_le _, Nat.zero_le _⟩
    refine lv_if_ne (tgt := 30) hx hb dX11_set_17 (by decide) (fun c9 => ?_) (fun c9 => ?_)
    · replace h := z_ifn c9 h
      refine lv_aload hx hb dX11_set_30 (lv_at hl 0 rfl) ?_
      refine lv_iload_n hx hb dX11_set_32 rfl (lv_at hl 3 rfl) ?_
      obtain ⟨w10, ew10, h⟩ := z_bd h
      refine z_goi C0 hw hS (res := (w10, S)) (rest := []) (arr := (Value.ref (zad F G (40 + 2 * q2)) :: [.int x2]).toArray) ?_ (fun H locs hw hS => ?_)
      · exact va_runV (z_fix C0) (c_X7_hasElement l D Y F G S _ q2 hq2 x2 w10 ew10) (cwV 1 hts gX11_set_X7_hasElement rfl rfl rfl (by decide +kernel) ⟨Nat.le_of_ble_eq_true rfl, Nat.le_of_ble_eq_true rfl⟩) ⟨zPc_blind, z_rv C0 hw (k := (40 + 2 * q2)) (zsh_E hq2) rfl (zsh_B hq2) rfl, z_give C0 hw hS _⟩ rfl rfl hl.1 rfl (lv_room (Nat.le_of_ble_eq_true rfl)) dX11_set_33 ⟨Nat.zero_le _, Nat.zero_le _⟩
      refine lv_if_ne (tgt := 46) hx hb dX11_set_36 (by decide) (fun c11 => ?_) (fun c11 => ?_)
      · replace h := z_ifn c11 h
        refine lv_aload hx hb dX11_set_46 (lv_at hl 0 rfl) ?_
        refine lv_iload_n hx hb dX11_set_48 rfl (lv_at hl 3 rfl) ?_
        refine lv_lload_n hx hb dX11_set_49 rfl (lv_at hl 4 rfl) ?_
        obtain ⟨w12, ew12, h⟩ := z_bd h
        refine z_gov C0 hw hS (res := w12) (rest := []) (arr := (Value.ref (zad F G (40 + 2 * q2)) :: [.int x2, .long x3]).toArray) ?_ (fun H locs hw hS => ?_)
        · exact va_runV (z_fix C0) (c_X7_put l D Y F G S _ q2 hq2 x2 x3 w12 ew12) (cwV 2 hts gX11_set_X7_put rfl rfl rfl (by decide +kernel) ⟨Nat.le_of_ble_eq_true rfl, Nat.le_of_ble_eq_true rfl⟩) ⟨zPc_blind, z_rv C0 hw (k := (40 + 2 * q2)) (zsh_E hq2) rfl (zsh_B hq2) rfl, z_give C0 hw hS _⟩ rfl rfl hl.1 rfl (lv_room (Nat.le_of_ble_eq_true rfl)) dX11_set_50 ⟨Nat.zero_le _, Nat.zero_le _⟩
        refine lv_iconst (v := 1) hx hb dX11_set_53 (by decide) ?_
        exact z_reti C0 hw hS (Option.some.inj h) dX11_set_54
      · replace h := z_ifp c11 h
        refine lv_aload_n hx hb dX11_set_39 rfl (lv_at hl 1 rfl) ?_
        refine lv_bipush (v := (-5)) hx hb dX11_set_40 (by decide) ?_
        obtain ⟨w13, ew13, h⟩ := z_bd h
        refine z_goi C0 hw hS (res := w13) (rest := []) (arr := (Value.ref (F 20) :: [.int (-5)]).toArray) ?_ (fun H locs hw hS => ?_)
        · exact va_runV (z_fix C0) (c_X11_refuse l D Y F G S _ (-5) w13 ew13) (cwV 1 hts gX11_set_X11_refuse rfl rfl rfl (by decide +kernel) ⟨Nat.le_of_ble_eq_true rfl, Nat.le_of_ble_eq_true rfl⟩) ⟨zPc_blind, z_rv C0 hw (k := 20) rfl rfl rfl rfl, z_give C0 hw hS _⟩ rfl rfl hl.1 rfl (lv_room (Nat.le_of_ble_eq_true rfl)) dX11_set_42 ⟨Nat.zero_le _, Nat.zero_le _⟩
        exact z_reti C0 hw hS (Option.some.inj h) dX11_set_45
    · replace h := z_ifp c9 h
      exact t_X11_set_B20 C0 res S (some q2) h _ _ _ hw hS (lv_sub hl [1, 0] rfl)
def M_X11_copy_B38 (pk : Nat → Nat) (S : zSt) (x8 : Int32) : Option (Int32 × zSt) :=
  Option.bind (M_X11_refuse pk S x8) (fun w7 => some (w7.1, w7.2))
set_option maxHeartbeats 4000000 in
set_option maxRecDepth 100000 in
theorem t_X11_copy_B38 {p : Program} {l : Launch} {e : Env} {s : State} {m : MethodId} {args : Array Value} {below : List Frame} {meth : Method} {c : Code} {D : va_G} {Y : Nat → ClassId} {F : Nat → Nat} {A : Nat → Prop} {G : zG} (C0 : zCx p s m args meth c D Y F A RX11 cX11_copy 9 (some .int) wsX11_copy) (res : Int32 × zSt) : ∀ (S : zSt) (x8 : Int32), M_X11_copy_B38 (zpk G) S x8 = some res → ∀ (H : Heap) (locs : List Loc) (ls : Array Slot), zH D Y F A G S H → va_S A s.heap H locs → lv_has ls 9 [(0, .ref (F 20)), (8, .int x8)] → W p l e (zRm 2 60) s m args below meth c H locs 0 0 (MQ below (zQi D Y F A G res) args s 0 0 A) (F0 m 38 ls []) := by
  obtain ⟨hx, hb, hml, hr, hown, hts, hK, hA, hlk, hN⟩ := id C0
  intro S x8 h H locs ls hw hS hl
  unfold M_X11_copy_B38 at h
  refine lv_aload_n hx hb dX11_copy_38 rfl (lv_at hl 0 rfl) ?_
  refine lv_iload hx hb dX11_copy_39 (lv_at hl 1 rfl) ?_
  obtain ⟨w7, ew7, h⟩ := z_bd h
  refine z_goi C0 hw hS (res := w7) (rest := []) (arr := (Value.ref (F 20) :: [.int x8]).toArray) ?_ (fun H locs hw hS => ?_)
  · exact va_runV (z_fix C0) (c_X11_refuse l D Y F G S _ x8 w7 ew7) (cwV 1 hts gX11_copy_X11_refuse rfl rfl rfl (by decide +kernel) ⟨Nat.le_of_ble_eq_true rfl, Nat.le_of_ble_eq_true rfl⟩) ⟨zPc_blind, z_rv C0 hw (k := 20) rfl rfl rfl rfl, z_give C0 hw hS _⟩ rfl rfl hl.1 rfl (lv_room (Nat.le_of_ble_eq_true rfl)) dX11_copy_41 ⟨Nat.zero_le _, Nat.zero_le _⟩
  exact z_reti C0 hw hS (Option.some.inj h) dX11_copy_44
def M_X11_copy_B80 (pk : Nat → Nat) (S : zSt) : Option (Int32 × zSt) :=
  Option.bind (M_X11_refuse pk S (-5)) (fun w19 => some (w19.1, w19.2))
set_option maxHeartbeats 4000000 in
set_option maxRecDepth 100000 in
theorem t_X11_copy_B80 {p : Program} {l : Launch} {e : Env} {s : State} {m : MethodId} {args : Array Value} {below : List Frame} {meth : Method} {c : Code} {D : va_G} {Y : Nat → ClassId} {F : Nat → Nat} {A : Nat → Prop} {G : zG} (C0 : zCx p s m args meth c D Y F A RX11 cX11_copy 9 (some .int) wsX11_copy) (res : Int32 × zSt) : ∀ (S : zSt), M_X11_copy_B80 (zpk G) S = some res → ∀ (H : Heap) (locs : List Loc) (ls : Array Slot), zH D Y F A G S H → va_S A s.heap H locs → lv_has ls 9 [(0, .ref (F 20))] → W p l e (zRm 2 60) s m args below meth c H locs 0 0 (MQ below (zQi D Y F A G res) args s 0 0 A) (F0 m 80 ls []) := by
  obtain ⟨hx, hb, hml, hr, hown, hts, hK, hA, hlk, hN⟩ := id C0
  intro S h H locs ls hw hS hl
  unfold M_X11_copy_B80 at h
  refine lv_aload_n hx hb dX11_copy_80 rfl (lv_at hl 0 rfl) ?_
  refine lv_bipush (v := (-5)) hx hb dX11_copy_81 (by decide) ?_
  obtain ⟨w19, ew19, h⟩ := z_bd h
  refine z_goi C0 hw hS (res := w19) (rest := []) (arr := (Value.ref (F 20) :: [.int (-5)]).toArray) ?_ (fun H locs hw hS => ?_)
  · exact va_runV (z_fix C0) (c_X11_refuse l D Y F G S _ (-5) w19 ew19) (cwV 1 hts gX11_copy_X11_refuse rfl rfl rfl (by decide +kernel) ⟨Nat.le_of_ble_eq_true rfl, Nat.le_of_ble_eq_true rfl⟩) ⟨zPc_blind, z_rv C0 hw (k := 20) rfl rfl rfl rfl, z_give C0 hw hS _⟩ rfl rfl hl.1 rfl (lv_room (Nat.le_of_ble_eq_true rfl)) dX11_copy_83 ⟨Nat.zero_le _, Nat.zero_le _⟩
  exact z_reti C0 hw hS (Option.some.inj h) dX11_copy_86
def M_X11_copy (pk : Nat → Nat) (S : zSt) (x1 : Int32) (x2 : Int32) (x3 : Int32) (x4 : Int32) (x5 : Int32) : Option (Int32 × zSt) :=
  Option.bind (M_X11_shelfAt pk S x1) (fun w1 => (zm w1 (Option.bind (M_X11_shelfAt pk S x2) (fun w3 => (zm w3 (Option.bind (M_X11_refusalOfTwo pk S none none) (fun w5 => (if w5 = 0 then M_X11_copy_B38 pk S w5 else M_X11_copy_B38 pk S w5))) (fun q4 => zg (decide (q4 < 8)) (Option.bind (M_X11_refusalOfTwo pk S none (some q4)) (fun w8 => (if w8 = 0 then M_X11_copy_B38 pk S w8 else M_X11_copy_B38 pk S w8))))))) (fun q2 => zg (decide (q2 < 8)) (Option.bind (M_X11_shelfAt pk S x2) (fun w10 => (zm w10 (Option.bind (M_X11_refusalOfTwo pk S (some q2) none) (fun w12 => (if w12 = 0 then M_X11_copy_B38 pk S w12 else M_X11_copy_B38 pk S w12))) (fun q11 => zg (decide (q11 < 8)) (Option.bind (M_X11_refusalOfTwo pk S (some q2) (some q11)) (fun w14 => (if w14 = 0 then (if 0 ≤ x5 then Option.bind (M_X7_hasPart pk S q2 x3 x5) (fun w17 => (if w17 = 0 then M_X11_copy_B80 pk S else Option.bind (M_X7_hasPart pk S q11 x4 x5) (fun w20 => (if w20 = 0 then M_X11_copy_B80 pk S else zg (zcp x3 x4 x5 160 160) (some (1, (zL S ((40 + 2 * q11 + 1)) (va_cpy (zlo S ((40 + 2 * q2 + 1))) (zlo S ((40 + 2 * q11 + 1))) (Int32.toNatClampNeg x3) (Int32.toNatClampNeg x4) (Int32.toNatClampNeg x5))))))))) else Option.bind (M_X11_refuse pk S (-4)) (fun w23 => some (w23.1, w23.2))) else M_X11_copy_B38 pk S w14))))))))))
set_option maxHeartbeats 4000000 in
set_option maxRecDepth 100000 in
theorem c_X11_copy (l : Launch) (D : va_G) (Y : Nat → ClassId) (F : Nat → Nat) (G : zG) (S : zSt) (sz : Nat) (x1 : Int32) (x2 : Int32) (x3 : Int32) (x4 : Int32) (x5 : Int32) (res : Int32 × zSt) (h : M_X11_copy (zpk G) S x1 x2 x3 x4 x5 = some res) : Met l yX11_copy wsX11_copy (zRm 2 60) (zPc D Y F G S sz [.ref (F 20), .int x1, .int x2, .int x3, .int x4, .int x5]) (zQi D Y F (zAo F G sz) G res) 0 0 (zAo F G sz) := by
  unfold M_X11_copy at h
  refine zMet (cc := cX11_copy) (maxL := 9) (ret := (some .int)) (own := RX11) (by decide +kernel) rfl rfl (Nat.le_of_ble_eq_true rfl) ?_
  intro p e s m args below meth c C0 hin hw hS ls hl
  have hl : lv_has ls 9 [(0, .ref (F 20)), (1, .int x1), (2, .int x2), (3, .int x3), (4, .int x4), (5, .int x5)] := hl
  generalize zAo F G sz = A at C0 hw hS ⊢
  obtain ⟨hx, hb, hml, hr, hown, hts, hK, hA, hlk, hN⟩ := id C0
  refine lv_aload_n hx hb dX11_copy_0 rfl (lv_at hl 0 rfl) ?_
  refine lv_iload_n hx hb dX11_copy_1 rfl (lv_at hl 1 rfl) ?_
  obtain ⟨w1, ew1, h⟩ := z_bd h
  refine z_goq C0 hw hS (r0 := w1.map (zsa F G)) (rest := []) (arr := (Value.ref (F 20) :: [.int x1]).toArray) ?_ (fun H locs hw hS => ?_)
  · exact va_runV (z_fix C0) (c_X11_shelfAt l D Y F G S _ x1 w1 ew1) (cwV 1 hts gX11_copy_X11_shelfAt rfl rfl rfl (by decide +kernel) ⟨Nat.le_of_ble_eq_true rfl, Nat.le_of_ble_eq_true rfl⟩) ⟨zPc_blind, z_rv C0 hw (k := 20) rfl rfl rfl rfl, z_give C0 hw hS _⟩ rfl rfl hl.1 rfl (lv_room (Nat.le_of_ble_eq_true rfl)) dX11_copy_2 ⟨Nat.zero_le _, Nat.zero_le _⟩
  rcases w1 with _ | q2
  · replace h := zm_n h
    refine z_topv (y := .null) rfl ?_
    refine lv_astoreN (lv' := [(6, .null), (0, .ref (F 20)), (1, .int x1), (2, .int x2), (3, .int x3), (4, .int x4), (5, .int x5)]) hx hb dX11_copy_5 hl (by decide) rfl (fun ls hl => ?_)
    refine lv_aload_n hx hb dX11_copy_7 rfl (lv_at hl 1 rfl) ?_
    refine lv_iload_n hx hb dX11_copy_8 rfl (lv_at hl 3 rfl) ?_
    obtain ⟨w3, ew3, h⟩ := z_bd h
    refine z_goq C0 hw hS (r0 := w3.map (zsa F G)) (rest := []) (arr := (Value.ref (F 20) :: [.int x2]).toArray) ?_ (fun H locs hw hS => ?_)
    · exact va_runV (z_fix C0) (c_X11_shelfAt l D Y F G S _ x2 w3 ew3) (cwV 1 hts gX11_copy_X11_shelfAt rfl rfl rfl (by decide +kernel) ⟨Nat.le_of_ble_eq_true rfl, Nat.le_of_ble_eq_true rfl⟩) ⟨zPc_blind, z_rv C0 hw (k := 20) rfl rfl rfl rfl, z_give C0 hw hS _⟩ rfl rfl hl.1 rfl (lv_room (Nat.le_of_ble_eq_true rfl)) dX11_copy_9 ⟨Nat.zero_le _, Nat.zero_le _⟩
    rcases w3 with _ | q4
    · replace h := zm_n h
      refine z_topv (y := .null) rfl ?_
      refine lv_astoreN (lv' := [(7, .null), (6, .null), (0, .ref (F 20)), (1, .int x1), (2, .int x2), (3, .int x3), (4, .int x4), (5, .int x5)]) hx hb dX11_copy_12 hl (by decide) rfl (fun ls hl => ?_)
      refine lv_aloadN hx hb dX11_copy_14 (lv_at hl 1 rfl) ?_
      refine lv_aloadN hx hb dX11_copy_16 (lv_at hl 0 rfl) ?_
      obtain ⟨w5, ew5, h⟩ := z_bd h
      refine z_goi C0 hw hS (res := (w5, S)) (rest := []) (arr := ([.null, .null] : List Value).toArray) ?_ (fun H locs hw hS => ?_)
      · exact va_runS (z_fix C0) (c_X11_refusalOfTwo l D Y F G S _ none none (fun _ h => nomatch h) (fun _ h => nomatch h) w5 ew5) (va_cwS 2 hts gX11_copy_X11_refusalOfTwo rfl rfl rfl (by decide +kernel) ⟨Nat.le_of_ble_eq_true rfl, Nat.le_of_ble_eq_true rfl⟩) ⟨zPc_blind, z_give C0 hw hS _⟩ rfl rfl hl.1 rfl (lv_room (Nat.le_of_ble_eq_true rfl)) dX11_copy_18 ⟨Nat.zero_le _, Nat.zero_le _⟩
      refine lv_istore (lv' := [(8, .int w5), (7, .null), (6, .null), (0, .ref (F 20)), (1, .int x1), (2, .int x2), (3, .int x3), (4, .int x4), (5, .int x5)]) hx hb dX11_copy_21 hl (by decide) rfl (fun ls hl => ?_)
      refine lv_iload hx hb dX11_copy_23 (lv_at hl 0 rfl) ?_
      refine lv_if_ne (tgt := 38) hx hb dX11_copy_25 (by decide) (fun c6 => ?_) (fun c6 => ?_)
      · replace h := z_ifn c6 h
        exact t_X11_copy_B38 C0 res S w5 h _ _ _ hw hS (lv_sub hl [3, 0] rfl)
      · replace h := z_ifp c6 h
        refine lv_aloadN hx hb dX11_copy_28 (lv_at hl 2 rfl) ?_
        refine lv_ifnullN (tgt := 38) hx hb dX11_copy_30 (by decide) ?_
        exact t_X11_copy_B38 C0 res S w5 h _ _ _ hw hS (lv_sub hl [3, 0] rfl)
    · replace h := zm_s h
      obtain ⟨bq4, h⟩ := z_gd h
      have hq4 : q4 < 8 := of_decide_eq_true bq4
      refine z_topv (y := .ref (zad F G (40 + 2 * q4))) rfl ?_
      refine lv_astore (lv' := [(7, .ref (zad F G (40 + 2 * q4))), (6, .null), (0, .ref (F 20)), (1, .int x1), (2, .int x2), (3, .int x3), (4, .int x4), (5, .int x5)]) hx hb dX11_copy_12 hl (by decide) rfl (fun ls hl => ?_)
      refine lv_aloadN hx hb dX11_copy_14 (lv_at hl 1 rfl) ?_
      refine lv_aload hx hb dX11_copy_16 (lv_at hl 0 rfl) ?_
      obtain ⟨w8, ew8, h⟩ := z_bd h
      refine z_goi C0 hw hS (res := (w8, S)) (rest := []) (arr := ([.null, .ref (zad F G (40 + 2 * q4))] : List Value).toArray) ?_ (fun H locs hw hS => ?_)
      · exact va_runS (z_fix C0) (c_X11_refusalOfTwo l D Y F G S _ none (some q4) (fun _ h => nomatch h) (fun _ h => Option.some.inj h ▸ hq4) w8 ew8) (va_cwS 2 hts gX11_copy_X11_refusalOfTwo rfl rfl rfl (by decide +kernel) ⟨Nat.le_of_ble_eq_true rfl, Nat.le_of_ble_eq_true rfl⟩) ⟨zPc_blind, z_give C0 hw hS _⟩ rfl rfl hl.1 rfl (lv_room (Nat.le_of_ble_eq_true rfl)) dX11_copy_18 ⟨Nat.zero_le _, Nat.zero_le _⟩
      refine lv_istore (lv' := [(8, .int w8), (7, .ref (zad F G (40 + 2 * q4))), (6, .null), (0, .ref (F 20)), (1, .int x1), (2, .int x2), (3, .int x3), (4, .int x4), (5, .int x5)]) hx hb dX11_copy_21 hl (by decide) rfl (fun ls hl => ?_)
      refine lv_iload hx hb dX11_copy_23 (lv_at hl 0 rfl) ?_
      refine lv_if_ne (tgt := 38) hx hb dX11_copy_25 (by decide) (fun c9 => ?_) (fun c9 => ?_)
      · replace h := z_ifn c9 h
        exact t_X11_copy_B38 C0 res S w8 h _ _ _ hw hS (lv_sub hl [3, 0] rfl)
      · replace h := z_ifp c9 h
        refine lv_aloadN hx hb dX11_copy_28 (lv_at hl 2 rfl) ?_
        refine lv_ifnullN (tgt := 38) hx hb dX11_copy_30 (by decide) ?_
        exact t_X11_copy_B38 C0 res S w8 h _ _ _ hw hS (lv_sub hl [3, 0] rfl)
  · replace h := zm_s h
    obtain ⟨bq2, h⟩ := z_gd h
    have hq2 : q2 < 8 := of_decide_eq_true bq2
    refine z_topv (y := .ref (zad F G (40 + 2 * q2))) rfl ?_
    refine lv_astore (lv' := [(6, .ref (zad F G (40 + 2 * q2))), (0, .ref (F 20)), (1, .int x1), (2, .int x2), (3, .int x3), (4, .int x4), (5, .int x5)]) hx hb dX11_copy_5 hl (by decide) rfl (fun ls hl => ?_)
    refine lv_aload_n hx hb dX11_copy_7 rfl (lv_at hl 1 rfl) ?_
    refine lv_iload_n hx hb dX11_copy_8 rfl (lv_at hl 3 rfl) ?_
    obtain ⟨w10, ew10, h⟩ := z_bd h
    refine z_goq C0 hw hS (r0 := w10.map (zsa F G)) (rest := []) (arr := (Value.ref (F 20) :: [.int x2]).toArray) ?_ (fun H locs hw hS => ?_)
    · exact va_runV (z_fix C0) (c_X11_shelfAt l D Y F G S _ x2 w10 ew10) (cwV 1 hts gX11_copy_X11_shelfAt rfl rfl rfl (by decide +kernel) ⟨Nat.le_of_ble_eq_true rfl, Nat.le_of_ble_eq_true rfl⟩) ⟨zPc_blind, z_rv C0 hw (k := 20) rfl rfl rfl rfl, z_give C0 hw hS _⟩ rfl rfl hl.1 rfl (lv_room (Nat.le_of_ble_eq_true rfl)) dX11_copy_9 ⟨Nat.zero_le _, Nat.zero_le _⟩
    rcases w10 with _ | q11
    · replace h := zm_n h
      refine z_topv (y := .null) rfl ?_
      refine lv_astoreN (lv' := [(7, .null), (6, .ref (zad F G (40 + 2 * q2))), (0, .ref (F 20)), (1, .int x1), (2, .int x2), (3, .int x3), (4, .int x4), (5, .int x5)]) hx hb dX11_copy_12 hl (by decide) rfl (fun ls hl => ?_)
      refine lv_aload hx hb dX11_copy_14 (lv_at hl 1 rfl) ?_
      refine lv_aloadN hx hb dX11_copy_16 (lv_at hl 0 rfl) ?_
      obtain ⟨w12, ew12, h⟩ := z_bd h
      refine z_goi C0 hw hS (res := (w12, S)) (rest := []) (arr := ([.ref (zad F G (40 + 2 * q2)), .null] : List Value).toArray) ?_ (fun H locs hw hS => ?_)
      · exact va_runS (z_fix C0) (c_X11_refusalOfTwo l D Y F G S _ (some q2) none (fun _ h => Option.some.inj h ▸ hq2) (fun _ h => nomatch h) w12 ew12) (va_cwS 2 hts gX11_copy_X11_refusalOfTwo rfl rfl rfl (by decide +kernel) ⟨Nat.le_of_ble_eq_true rfl, Nat.le_of_ble_eq_true rfl⟩) ⟨zPc_blind, z_give C0 hw hS _⟩ rfl rfl hl.1 rfl (lv_room (Nat.le_of_ble_eq_true rfl)) dX11_copy_18 ⟨Nat.zero_le _, Nat.zero_le _⟩
      refine lv_istore (lv' := [(8, .int w12), (7, .null), (6, .ref (zad F G (40 + 2 * q2))), (0, .ref (F 20)), (1, .int x1), (2, .int x2), (3, .int x3), (4, .int x4), (5, .int x5)]) hx hb dX11_copy_21 hl (by decide) rfl (fun ls hl => ?_)
      refine lv_iload hx hb dX11_copy_23 (lv_at hl 0 rfl) ?_
      refine lv_if_ne (tgt := 38) hx hb dX11_copy_25 (by decide) (fun c13 => ?_) (fun c13 => ?_)
      · replace h := z_ifn c13 h
        exact t_X11_copy_B38 C0 res S w12 h _ _ _ hw hS (lv_sub hl [3, 0] rfl)
      · replace h := z_ifp c13 h
        refine lv_aload hx hb dX11_copy_28 (lv_at hl 2 rfl) ?_
        refine lv_ifnull hx hb dX11_copy_30 ?_
        refine lv_aloadN hx hb dX11_copy_33 (lv_at hl 1 rfl) ?_
        refine lv_ifnonnullN hx hb dX11_copy_35 ?_
        exact t_X11_copy_B38 C0 res S w12 h _ _ _ hw hS (lv_sub hl [3, 0] rfl)
    · replace h := zm_s h
      obtain ⟨bq11, h⟩ := z_gd h
      have hq11 : q11 < 8 := of_decide_eq_true bq11
      refine z_topv (y := .ref (zad F G (40 + 2 * q11))) rfl ?_
      refine lv_astore (lv' := [(7, .ref (zad F G (40 + 2 * q11))), (6, .ref (zad F G (40 + 2 * q2))), (0, .ref (F 20)), (1, .int x1), (2, .int x2), (3, .int x3), (4, .int x4), (5, .int x5)]) hx hb dX11_copy_12 hl (by decide) rfl (fun ls hl => ?_)
      refine lv_aload hx hb dX11_copy_14 (lv_at hl 1 rfl) ?_
      refine lv_aload hx hb dX11_copy_16 (lv_at hl 0 rfl) ?_
      obtain ⟨w14, ew14, h⟩ := z_bd h
      refine z_goi C0 hw hS (res := (w14, S)) (rest := []) (arr := ([.ref (zad F G (40 + 2 * q2)), .ref (zad F G (40 + 2 * q11))] : List Value).toArray) ?_ (fun H locs hw hS => ?_)
      · exact va_runS (z_fix C0) (c_X11_refusalOfTwo l D Y F G S _ (some q2) (some q11) (fun _ h => Option.some.inj h ▸ hq2) (fun _ h => Option.some.inj h ▸ hq11) w14 ew14) (va_cwS 2 hts gX11_copy_X11_refusalOfTwo rfl rfl rfl (by decide +kernel) ⟨Nat.le_of_ble_eq_true rfl, Nat.le_of_ble_eq_true rfl⟩) ⟨zPc_blind, z_give C0 hw hS _⟩ rfl rfl hl.1 rfl (lv_room (Nat.le_of_ble_eq_true rfl)) dX11_copy_18 ⟨Nat.zero_le _, Nat.zero_le _⟩
      refine lv_istore (lv' := [(8, .int w14), (7, .ref (zad F G (40 + 2 * q11))), (6, .ref (zad F G (40 + 2 * q2))), (0, .ref (F 20)), (1, .int x1), (2, .int x2), (3, .int x3), (4, .int x4), (5, .int x5)]) hx hb dX11_copy_21 hl (by decide) rfl (fun ls hl => ?_)
      refine lv_iload hx hb dX11_copy_23 (lv_at hl 0 rfl) ?_
      refine lv_if_ne (tgt := 38) hx hb dX11_copy_25 (by decide) (fun c15 => ?_) (fun c15 => ?_)
      · replace h := z_ifn c15 h
        exact t_X11_copy_B38 C0 res S w14 h _ _ _ hw hS (lv_sub hl [3, 0] rfl)
      · replace h := z_ifp c15 h
        refine lv_aload hx hb dX11_copy_28 (lv_at hl 2 rfl) ?_
        refine lv_ifnull hx hb dX11_copy_30 ?_
        refine lv_aload hx hb dX11_copy_33 (lv_at hl 1 rfl) ?_
        refine lv_ifnonnull (tgt := 45) hx hb dX11_copy_35 (by decide) ?_
        refine lv_iload hx hb dX11_copy_45 (lv_at hl 8 rfl) ?_
        refine lv_if_ge (tgt := 57) hx hb dX11_copy_47 (by decide) (fun c16 => ?_) (fun c16 => ?_)
        · replace h := z_ifp c16 h
          refine lv_aload hx hb dX11_copy_57 (lv_at hl 2 rfl) ?_
          refine lv_iload_n hx hb dX11_copy_59 rfl (lv_at hl 6 rfl) ?_
          refine lv_iload hx hb dX11_copy_60 (lv_at hl 8 rfl) ?_
          obtain ⟨w17, ew17, h⟩ := z_bd h
          refine z_goi C0 hw hS (res := (w17, S)) (rest := []) (arr := (Value.ref (zad F G (40 + 2 * q2)) :: [.int x3, .int x5]).toArray) ?_ (fun H locs hw hS => ?_)
          · exact va_runV (z_fix C0) (c_X7_hasPart l D Y F G S _ q2 hq2 x3 x5 w17 ew17) (cwV 2 hts gX11_copy_X7_hasPart rfl rfl rfl (by decide +kernel) ⟨Nat.le_of_ble_eq_true rfl, Nat.le_of_ble_eq_true rfl⟩) ⟨zPc_blind, z_rv C0 hw (k := (40 + 2 * q2)) (zsh_E hq2) rfl (zsh_B hq2) rfl, z_give C0 hw hS _⟩ rfl rfl hl.1 rfl (lv_room (Nat.le_of_ble_eq_true rfl)) dX11_copy_62 ⟨Nat.zero_le _, Nat.zero_le _⟩
          refine lv_if_eq (tgt := 80) hx hb dX11_copy_65 (by decide) (fun c18 => ?_) (fun c18 => ?_)
          · replace h := z_ifp c18 h
            exact t_X11_copy_B80 C0 res S h _ _ _ hw hS (lv_sub hl [3] rfl)
          · replace h := z_ifn c18 h
            refine lv_aload hx hb dX11_copy_68 (lv_at hl 1 rfl) ?_
            refine lv_iload hx hb dX11_copy_70 (lv_at hl 7 rfl) ?_
            refine lv_iload hx hb dX11_copy_72 (lv_at hl 8 rfl) ?_
            obtain ⟨w20, ew20, h⟩ := z_bd h
            refine z_goi C0 hw hS (res := (w20, S)) (rest := []) (arr := (Value.ref (zad F G (40 + 2 * q11)) :: [.int x4, .int x5]).toArray) ?_ (fun H locs hw hS => ?_)
            · exact va_runV (z_fix C0) (c_X7_hasPart l D Y F G S _ q11 hq11 x4 x5 w20 ew20) (cwV 2 hts gX11_copy_X7_hasPart rfl rfl rfl (by decide +kernel) ⟨Nat.le_of_ble_eq_true rfl, Nat.le_of_ble_eq_true rfl⟩) ⟨zPc_blind, z_rv C0 hw (k := (40 + 2 * q11)) (zsh_E hq11) rfl (zsh_B hq11) rfl, z_give C0 hw hS _⟩ rfl rfl hl.1 rfl (lv_room (Nat.le_of_ble_eq_true rfl)) dX11_copy_74 ⟨Nat.zero_le _, Nat.zero_le _⟩
            refine lv_if_ne (tgt := 87) hx hb dX11_copy_77 (by decide) (fun c21 => ?_) (fun c21 => ?_)
            · replace h := z_ifn c21 h
              refine lv_aload hx hb dX11_copy_87 (lv_at hl 2 rfl) ?_
              refine z_getU C0 in_X11_copy_X7 (C := RX7) (T := TX7) (N := 3) hw (k := (40 + 2 * q2)) (ci := 7) (v := .ref (zad F G (40 + 2 * q2 + 1))) (zsh_E hq2) rfl (zsh_B hq2) rfl 0 (by decide) rfl 1 rfl (Or.inl rfl) dX11_copy_89 ?_
              refine lv_iload_n hx hb dX11_copy_92 rfl (lv_at hl 6 rfl) ?_
              refine lv_aload hx hb dX11_copy_93 (lv_at hl 1 rfl) ?_
              refine z_getU C0 in_X11_copy_X7 (C := RX7) (T := TX7) (N := 3) hw (k := (40 + 2 * q11)) (ci := 7) (v := .ref (zad F G (40 + 2 * q11 + 1))) (zsh_E hq11) rfl (zsh_B hq11) rfl 0 (by decide) rfl 1 rfl (Or.inl rfl) dX11_copy_95 ?_
              refine lv_iload hx hb dX11_copy_98 (lv_at hl 7 rfl) ?_
              refine lv_iload hx hb dX11_copy_100 (lv_at hl 8 rfl) ?_
              obtain ⟨b22, h⟩ := z_gd h
              refine z_copyl C0 hw hS hl.1 2 3 4 5 rfl rfl rfl rfl ((40 + 2 * q2 + 1)) ((40 + 2 * q11 + 1)) (zsh_E1 hq2) (zsh_R hq2) (zsh_E1 hq11) (zsh_R hq11) rfl rfl b22 (Nat.le_of_ble_eq_true rfl) (by decide +kernel) dX11_copy_102 (fun H locs hw hS => ?_)
              refine lv_iconst (v := 1) hx hb dX11_copy_105 (by decide) ?_
              exact z_reti C0 hw hS (Option.some.inj h) dX11_copy_106
            · replace h := z_ifp c21 h
              exact t_X11_copy_B80 C0 res S h _ _ _ hw hS (lv_sub hl [3] rfl)
        · replace h := z_ifn c16 h
          refine lv_aload_n hx hb dX11_copy_50 rfl (lv_at hl 3 rfl) ?_
          refine lv_bipush (v := (-4)) hx hb dX11_copy_51 (by decide) ?_
          obtain ⟨w23, ew23, h⟩ := z_bd h
          refine z_goi C0 hw hS (res := w23) (rest := []) (arr := (Value.ref (F 20) :: [.int (-4)]).toArray) ?_ (fun H locs hw hS => ?_)
          · exact va_runV (z_fix C0) (c_X11_refuse l D Y F G S _ (-4) w23 ew23) (cwV 1 hts gX11_copy_X11_refuse rfl rfl rfl (by decide +kernel) ⟨Nat.le_of_ble_eq_true rfl, Nat.le_of_ble_eq_true rfl⟩) ⟨zPc_blind, z_rv C0 hw (k := 20) rfl rfl rfl rfl, z_give C0 hw hS _⟩ rfl rfl hl.1 rfl (lv_room (Nat.le_of_ble_eq_true rfl)) dX11_copy_53 ⟨Nat.zero_le _, Nat.zero_le _⟩
          exact z_reti C0 hw hS (Option.some.inj h) dX11_copy_56
def M_X11_element (pk : Nat → Nat) (S : zSt) (x1 : Int32) (x2 : Int32) : Option (Int64) :=
  Option.bind (M_X11_shelfAt pk S x1) (fun w1 => (zm w1 (some ((0 : Int64))) (fun q2 => zg (decide (q2 < 8)) (Option.bind (M_X7_elementAt pk S q2 x2) (fun w3 => some w3)))))
set_option maxHeartbeats 4000000 in
set_option maxRecDepth 100000 in
theorem c_X11_element (l : Launch) (D : va_G) (Y : Nat → ClassId) (F : Nat → Nat) (G : zG) (S : zSt) (sz : Nat) (x1 : Int32) (x2 : Int32) (res : Int64) (h : M_X11_element (zpk G) S x1 x2 = some res) : Met l yX11_element wsX11_element (zRm 3 62) (zPc D Y F G S sz [.ref (F 20), .int x1, .int x2]) (zQl D Y F (zAo F G sz) G (res, S)) 0 0 (zAo F G sz) := by
  unfold M_X11_element at h
  refine zMet (cc := cX11_element) (maxL := 4) (ret := (some .long)) (own := RX11) (by decide +kernel) rfl rfl (Nat.le_of_ble_eq_true rfl) ?_
  intro p e s m args below meth c C0 hin hw hS ls hl
  have hl : lv_has ls 4 [(0, .ref (F 20)), (1, .int x1), (2, .int x2)] := hl
  generalize zAo F G sz = A at C0 hw hS ⊢
  obtain ⟨hx, hb, hml, hr, hown, hts, hK, hA, hlk, hN⟩ := id C0
  refine lv_aload_n hx hb dX11_element_0 rfl (lv_at hl 0 rfl) ?_
  refine lv_iload_n hx hb dX11_element_1 rfl (lv_at hl 1 rfl) ?_
  obtain ⟨w1, ew1, h⟩ := z_bd h
  refine z_goq C0 hw hS (r0 := w1.map (zsa F G)) (rest := []) (arr := (Value.ref (F 20) :: [.int x1]).toArray) ?_ (fun H locs hw hS => ?_)
  · exact va_runV (z_fix C0) (c_X11_shelfAt l D Y F G S _ x1 w1 ew1) (cwV 1 hts gX11_element_X11_shelfAt rfl rfl rfl (by decide +kernel) ⟨Nat.le_of_ble_eq_true rfl, Nat.le_of_ble_eq_true rfl⟩) ⟨zPc_blind, z_rv C0 hw (k := 20) rfl rfl rfl rfl, z_give C0 hw hS _⟩ rfl rfl hl.1 rfl (lv_room (Nat.le_of_ble_eq_true rfl)) dX11_element_2 ⟨Nat.zero_le _, Nat.zero_le _⟩
  rcases w1 with _ | q2
  · replace h := zm_n h
    refine z_topv (y := .null) rfl ?_
    refine lv_astore_nN (lv' := [(3, .null), (0, .ref (F 20)), (1, .int x1), (2, .int x2)]) hx hb dX11_element_5 rfl hl (by decide) rfl (fun ls hl => ?_)
    refine lv_aload_nN hx hb dX11_element_6 rfl (lv_at hl 0 rfl) ?_
    refine lv_ifnonnullN hx hb dX11_element_7 ?_
    refine lv_lconst (v := 0) hx hb dX11_element_10 rfl ?_
    refine lv_goto (tgt := 19) hx hb dX11_element_11 (by decide) ?_
    exact z_retl C0 hw hS (congrArg (fun z => (z, S)) (Option.some.inj h)) dX11_element_19
  · replace h := zm_s h
    obtain ⟨bq2, h⟩ := z_gd h
    have hq2 : q2 < 8 := of_decide_eq_true bq2
    refine z_topv (y := .ref (zad F G (40 + 2 * q2))) rfl ?_
    refine lv_astore_n (lv' := [(3, .ref (zad F G (40 + 2 * q2))), (0, .ref (F 20)), (1, .int x1), (2, .int x2)]) hx hb dX11_element_5 rfl hl (by decide) rfl (fun ls hl => ?_)
    refine lv_aload_n hx hb dX11_element_6 rfl (lv_at hl 0 rfl) ?_
    refine lv_ifnonnull (tgt := 14) hx hb dX11_element_7 (by decide) ?_
    refine lv_aload_n hx hb dX11_element_14 rfl (lv_at hl 0 rfl) ?_
    refine lv_iload_n hx hb dX11_element_15 rfl (lv_at hl 3 rfl) ?_
    obtain ⟨w3, ew3, h⟩ := z_bd h
    refine z_gol C0 hw hS (res := (w3, S)) (rest := []) (arr := (Value.ref (zad F G (40 + 2 * q2)) :: [.int x2]).toArray) ?_ (fun H locs hw hS => ?_)
    · exact va_runV (z_fix C0) (c_X7_elementAt l D Y F G S _ q2 hq2 x2 w3 ew3) (cwV 1 hts gX11_element_X7_elementAt rfl rfl rfl (by decide +kernel) ⟨Nat.le_of_ble_eq_true rfl, Nat.le_of_ble_eq_true rfl⟩) ⟨zPc_blind, z_rv C0 hw (k := (40 + 2 * q2)) (zsh_E hq2) rfl (zsh_B hq2) rfl, z_give C0 hw hS _⟩ rfl rfl hl.1 rfl (lv_room (Nat.le_of_ble_eq_true rfl)) dX11_element_16 ⟨Nat.zero_le _, Nat.zero_le _⟩
    exact z_retl C0 hw hS (congrArg (fun z => (z, S)) (Option.some.inj h)) dX11_element_19
def M_X11_show_B26 (pk : Nat → Nat) (S : zSt) : Option (Int32 × zSt) :=
  Option.bind (M_X11_refuse pk S (-1)) (fun w3 => some (w3.1, w3.2))
set_option maxHeartbeats 4000000 in
set_option maxRecDepth 100000 in
theorem t_X11_show_B26 {p : Program} {l : Launch} {e : Env} {s : State} {m : MethodId} {args : Array Value} {below : List Frame} {meth : Method} {c : Code} {D : va_G} {Y : Nat → ClassId} {F : Nat → Nat} {A : Nat → Prop} {G : zG} (C0 : zCx p s m args meth c D Y F A RX11 cX11_show 4 (some .int) wsX11_show) (res : Int32 × zSt) : ∀ (S : zSt), M_X11_show_B26 (zpk G) S = some res → ∀ (H : Heap) (locs : List Loc) (ls : Array Slot), zH D Y F A G S H → va_S A s.heap H locs → lv_has ls 4 [(0, .ref (F 20))] → W p l e (zRm 2 43) s m args below meth c H locs 0 0 (MQ below (zQi D Y F A G res) args s 0 0 A) (F0 m 26 ls []) := by
  obtain ⟨hx, hb, hml, hr, hown, hts, hK, hA, hlk, hN⟩ := id C0
  intro S h H locs ls hw hS hl
  unfold M_X11_show_B26 at h
  refine lv_aload_n hx hb dX11_show_26 rfl (lv_at hl 0 rfl) ?_
  refine lv_iconst (v := (-1)) hx hb dX11_show_27 (by decide) ?_
  obtain ⟨w3, ew3, h⟩ := z_bd h
  refine z_goi C0 hw hS (res := w3) (rest := []) (arr := (Value.ref (F 20) :: [.int (-1)]).toArray) ?_ (fun H locs hw hS => ?_)
  · exact va_runV (z_fix C0) (c_X11_refuse l D Y F G S _ (-1) w3 ew3) (cwV 1 hts gX11_show_X11_refuse rfl rfl rfl (by decide +kernel) ⟨Nat.le_of_ble_eq_true rfl, Nat.le_of_ble_eq_true rfl⟩) ⟨zPc_blind, z_rv C0 hw (k := 20) rfl rfl rfl rfl, z_give C0 hw hS _⟩ rfl rfl hl.1 rfl (lv_room (Nat.le_of_ble_eq_true rfl)) dX11_show_28 ⟨Nat.zero_le _, Nat.zero_le _⟩
  exact z_reti C0 hw hS (Option.some.inj h) dX11_show_31
def M_X11_show_B32 (pk : Nat → Nat) (S : zSt) (x2 : Int32) (o3 : Option Nat) : Option (Int32 × zSt) :=
  (zm o3 (none) (fun q5 => zg (decide (q5 < 8)) ((if x2 = (-1) then some (0, (zP S ((40 + 2 * q5)) 1 x2)) else some (1, (zP S ((40 + 2 * q5)) 1 x2))))))
set_option maxHeartbeats 4000000 in
set_option maxRecDepth 100000 in
theorem t_X11_show_B32 {p : Program} {l : Launch} {e : Env} {s : State} {m : MethodId} {args : Array Value} {below : List Frame} {meth : Method} {c : Code} {D : va_G} {Y : Nat → ClassId} {F : Nat → Nat} {A : Nat → Prop} {G : zG} (C0 : zCx p s m args meth c D Y F A RX11 cX11_show 4 (some .int) wsX11_show) (res : Int32 × zSt) : ∀ (S : zSt) (x2 : Int32) (o3 : Option Nat), M_X11_show_B32 (zpk G) S x2 o3 = some res → ∀ (H : Heap) (locs : List Loc) (ls : Array Slot), zH D Y F A G S H → va_S A s.heap H locs → lv_has ls 4 [(2, .int x2), (3, va_rf (Option.map (zsa F G) o3))] → W p l e (zRm 2 43) s m args below meth c H locs 0 0 (MQ below (zQi D Y F A G res) args s 0 0 A) (F0 m 32 ls []) := by
  obtain ⟨hx, hb, hml, hr, hown, hts, hK, hA, hlk, hN⟩ := id C0
  intro S x2 o3 h H locs ls hw hS hl
  unfold M_X11_show_B32 at h
  rcases o3 with _ | q5
  · replace h := zm_n h
    have hl : lv_has ls 4 [(2, .int x2), (3, .null)] := hl
    cases h
  · replace h := zm_s h
    obtain ⟨bq5, h⟩ := z_gd h
    have hq5 : q5 < 8 := of_decide_eq_true bq5
    have hl : lv_has ls 4 [(2, .int x2), (3, .ref (zad F G (40 + 2 * q5)))] := hl
    refine lv_aload_n hx hb dX11_show_32 rfl (lv_at hl 1 rfl) ?_
    refine lv_iload_n hx hb dX11_show_33 rfl (lv_at hl 0 rfl) ?_
    refine z_putU C0 in_X11_show_X7 tyX7 tyX7_ok nmX7 (C := RX7) (T := TX7) (N := 3) hw hS (k := (40 + 2 * q5)) (ci := 7) (v := x2) (zsh_E hq5) rfl (zsh_B hq5) rfl 1 (by decide) 2 rfl rfl rfl rfl (Nat.le_of_ble_eq_true rfl) (zsh_P hq5 (by decide)) dX11_show_34 (fun H locs hw hS => ?_)
    refine lv_iload_n hx hb dX11_show_37 rfl (lv_at hl 0 rfl) ?_
    refine lv_iconst (v := (-1)) hx hb dX11_show_38 (by decide) ?_
    refine lv_icmp_ne (tgt := 46) hx hb dX11_show_39 (by decide) (fun c6 => ?_) (fun c6 => ?_)
    · replace h := z_ifn c6 h
      refine lv_iconst (v := 1) hx hb dX11_show_46 (by decide) ?_
      exact z_reti C0 hw hS (Option.some.inj h) dX11_show_47
    · replace h := z_ifp c6 h
      refine lv_iconst (v := 0) hx hb dX11_show_42 (by decide) ?_
      refine lv_goto (tgt := 47) hx hb dX11_show_43 (by decide) ?_
      exact z_reti C0 hw hS (Option.some.inj h) dX11_show_47
def M_X11_show (pk : Nat → Nat) (S : zSt) (x1 : Int32) (x2 : Int32) : Option (Int32 × zSt) :=
  Option.bind (M_X11_shelfAt pk S x1) (fun w1 => (zm w1 (M_X11_show_B26 pk S) (fun q2 => zg (decide (q2 < 8)) ((if x2 = (-1) then M_X11_show_B32 pk S x2 (some q2) else Option.bind (M_X4_personAt pk S 0 x2) (fun w7 => (zm w7 (M_X11_show_B26 pk S) (fun q8 => zg (zOKb pk q8) (M_X11_show_B32 pk S x2 (some q2))))))))))
set_option maxHeartbeats 4000000 in
set_option maxRecDepth 100000 in
theorem c_X11_show (l : Launch) (D : va_G) (Y : Nat → ClassId) (F : Nat → Nat) (G : zG) (S : zSt) (sz : Nat) (x1 : Int32) (x2 : Int32) (res : Int32 × zSt) (h : M_X11_show (zpk G) S x1 x2 = some res) : Met l yX11_show wsX11_show (zRm 2 43) (zPc D Y F G S sz [.ref (F 20), .int x1, .int x2]) (zQi D Y F (zAo F G sz) G res) 0 0 (zAo F G sz) := by
  unfold M_X11_show at h
  refine zMet (cc := cX11_show) (maxL := 4) (ret := (some .int)) (own := RX11) (by decide +kernel) rfl rfl (Nat.le_of_ble_eq_true rfl) ?_
  intro p e s m args below meth c C0 hin hw hS ls hl
  have hl : lv_has ls 4 [(0, .ref (F 20)), (1, .int x1), (2, .int x2)] := hl
  generalize zAo F G sz = A at C0 hw hS ⊢
  obtain ⟨hx, hb, hml, hr, hown, hts, hK, hA, hlk, hN⟩ := id C0
  refine lv_aload_n hx hb dX11_show_0 rfl (lv_at hl 0 rfl) ?_
  refine lv_iload_n hx hb dX11_show_1 rfl (lv_at hl 1 rfl) ?_
  obtain ⟨w1, ew1, h⟩ := z_bd h
  refine z_goq C0 hw hS (r0 := w1.map (zsa F G)) (rest := []) (arr := (Value.ref (F 20) :: [.int x1]).toArray) ?_ (fun H locs hw hS => ?_)
  · exact va_runV (z_fix C0) (c_X11_shelfAt l D Y F G S _ x1 w1 ew1) (cwV 1 hts gX11_show_X11_shelfAt rfl rfl rfl (by decide +kernel) ⟨Nat.le_of_ble_eq_true rfl, Nat.le_of_ble_eq_true rfl⟩) ⟨zPc_blind, z_rv C0 hw (k := 20) rfl rfl rfl rfl, z_give C0 hw hS _⟩ rfl rfl hl.1 rfl (lv_room (Nat.le_of_ble_eq_true rfl)) dX11_show_2 ⟨Nat.zero_le _, Nat.zero_le _⟩
  rcases w1 with _ | q2
  · replace h := zm_n h
    refine z_topv (y := .null) rfl ?_
    refine lv_astore_nN (lv' := [(3, .null), (0, .ref (F 20)), (1, .int x1), (2, .int x2)]) hx hb dX11_show_5 rfl hl (by decide) rfl (fun ls hl => ?_)
    refine lv_aload_nN hx hb dX11_show_6 rfl (lv_at hl 0 rfl) ?_
    refine lv_ifnullN (tgt := 26) hx hb dX11_show_7 (by decide) ?_
    exact t_X11_show_B26 C0 res S h _ _ _ hw hS (lv_sub hl [1] rfl)
  · replace h := zm_s h
    obtain ⟨bq2, h⟩ := z_gd h
    have hq2 : q2 < 8 := of_decide_eq_true bq2
    refine z_topv (y := .ref (zad F G (40 + 2 * q2))) rfl ?_
    refine lv_astore_n (lv' := [(3, .ref (zad F G (40 + 2 * q2))), (0, .ref (F 20)), (1, .int x1), (2, .int x2)]) hx hb dX11_show_5 rfl hl (by decide) rfl (fun ls hl => ?_)
    refine lv_aload_n hx hb dX11_show_6 rfl (lv_at hl 0 rfl) ?_
    refine lv_ifnull hx hb dX11_show_7 ?_
    refine lv_iload_n hx hb dX11_show_10 rfl (lv_at hl 3 rfl) ?_
    refine lv_iconst (v := (-1)) hx hb dX11_show_11 (by decide) ?_
    refine lv_icmp_eq (tgt := 32) hx hb dX11_show_12 (by decide) (fun c4 => ?_) (fun c4 => ?_)
    · replace h := z_ifp c4 h
      exact t_X11_show_B32 C0 res S x2 (some q2) h _ _ _ hw hS (lv_sub hl [3, 0] rfl)
    · replace h := z_ifn c4 h
      refine lv_aload_n hx hb dX11_show_15 rfl (lv_at hl 1 rfl) ?_
      refine z_getU C0 in_X11_show_X11 (C := RX11) (T := TX11) (N := 14) hw (k := 20) (ci := 11) (v := .ref (F 60)) rfl rfl rfl rfl 3 (by decide) rfl 1 rfl (Or.inl rfl) dX11_show_16 ?_
      refine lv_iload_n hx hb dX11_show_19 rfl (lv_at hl 3 rfl) ?_
      obtain ⟨w7, ew7, h⟩ := z_bd h
      refine z_goq C0 hw hS (r0 := w7.map (zpa F G)) (rest := []) (arr := (Value.ref (F 60) :: [.int x2]).toArray) ?_ (fun H locs hw hS => ?_)
      · exact va_runV (z_fix C0) (c_X4_personAt l D Y F G S _ 0 (by decide) x2 w7 ew7) (cwV 1 hts gX11_show_X4_personAt rfl rfl rfl (by decide +kernel) ⟨Nat.le_of_ble_eq_true rfl, Nat.le_of_ble_eq_true rfl⟩) ⟨zPc_blind, z_rv C0 hw (k := 60) rfl rfl rfl rfl, z_give C0 hw hS _⟩ rfl rfl hl.1 rfl (lv_room (Nat.le_of_ble_eq_true rfl)) dX11_show_20 ⟨Nat.zero_le _, Nat.zero_le _⟩
      rcases w7 with _ | q8
      · replace h := zm_n h
        refine z_topv (y := .null) rfl ?_
        refine lv_ifnonnullN hx hb dX11_show_23 ?_
        exact t_X11_show_B26 C0 res S h _ _ _ hw hS (lv_sub hl [1] rfl)
      · replace h := zm_s h
        obtain ⟨bq8, h⟩ := z_gd h
        have hq8 := bq8
        refine z_topv (y := .ref (zad F G (100 + 4 * q8))) rfl ?_
        refine lv_ifnonnull (tgt := 32) hx hb dX11_show_23 (by decide) ?_
        exact t_X11_show_B32 C0 res S x2 (some q2) h _ _ _ hw hS (lv_sub hl [3, 0] rfl)
def M_X11_holds (pk : Nat → Nat) (S : zSt) (x1 : Int32) : Option (Int32) :=
  Option.bind (M_X11_shelfAt pk S x1) (fun w1 => (zm w1 (some (-1)) (fun q2 => zg (decide (q2 < 8)) (some ((zsc S (40 + 2 * q2) 1))))))
set_option maxHeartbeats 4000000 in
set_option maxRecDepth 100000 in
theorem c_X11_holds (l : Launch) (D : va_G) (Y : Nat → ClassId) (F : Nat → Nat) (G : zG) (S : zSt) (sz : Nat) (x1 : Int32) (res : Int32) (h : M_X11_holds (zpk G) S x1 = some res) : Met l yX11_holds wsX11_holds (zRm 1 21) (zPc D Y F G S sz [.ref (F 20), .int x1]) (zQi D Y F (zAo F G sz) G (res, S)) 0 0 (zAo F G sz) := by
  unfold M_X11_holds at h
  refine zMet (cc := cX11_holds) (maxL := 3) (ret := (some .int)) (own := RX11) (by decide +kernel) rfl rfl (Nat.le_of_ble_eq_true rfl) ?_
  intro p e s m args below meth c C0 hin hw hS ls hl
  have hl : lv_has ls 3 [(0, .ref (F 20)), (1, .int x1)] := hl
  generalize zAo F G sz = A at C0 hw hS ⊢
  obtain ⟨hx, hb, hml, hr, hown, hts, hK, hA, hlk, hN⟩ := id C0
  refine lv_aload_n hx hb dX11_holds_0 rfl (lv_at hl 0 rfl) ?_
  refine lv_iload_n hx hb dX11_holds_1 rfl (lv_at hl 1 rfl) ?_
  obtain ⟨w1, ew1, h⟩ := z_bd h
  refine z_goq C0 hw hS (r0 := w1.map (zsa F G)) (rest := []) (arr := (Value.ref (F 20) :: [.int x1]).toArray) ?_ (fun H locs hw hS => ?_)
  · exact va_runV (z_fix C0) (c_X11_shelfAt l D Y F G S _ x1 w1 ew1) (cwV 1 hts gX11_holds_X11_shelfAt rfl rfl rfl (by decide +kernel) ⟨Nat.le_of_ble_eq_true rfl, Nat.le_of_ble_eq_true rfl⟩) ⟨zPc_blind, z_rv C0 hw (k := 20) rfl rfl rfl rfl, z_give C0 hw hS _⟩ rfl rfl hl.1 rfl (lv_room (Nat.le_of_ble_eq_true rfl)) dX11_holds_2 ⟨Nat.zero_le _, Nat.zero_le _⟩
  rcases w1 with _ | q2
  · replace h := zm_n h
    refine z_topv (y := .null) rfl ?_
    refine lv_astore_nN (lv' := [(2, .null), (0, .ref (F 20)), (1, .int x1)]) hx hb dX11_holds_5 rfl hl (by decide) rfl (fun ls hl => ?_)
    refine lv_aload_nN hx hb dX11_holds_6 rfl (lv_at hl 0 rfl) ?_
    refine lv_ifnonnullN hx hb dX11_holds_7 ?_
    refine lv_iconst (v := (-1)) hx hb dX11_holds_10 (by decide) ?_
    refine lv_goto (tgt := 18) hx hb dX11_holds_11 (by decide) ?_
    exact z_reti C0 hw hS (congrArg (fun z => (z, S)) (Option.some.inj h)) dX11_holds_18
  · replace h := zm_s h
    obtain ⟨bq2, h⟩ := z_gd h
    have hq2 : q2 < 8 := of_decide_eq_true bq2
    refine z_topv (y := .ref (zad F G (40 + 2 * q2))) rfl ?_
    refine lv_astore_n (lv' := [(2, .ref (zad F G (40 + 2 * q2))), (0, .ref (F 20)), (1, .int x1)]) hx hb dX11_holds_5 rfl hl (by decide) rfl (fun ls hl => ?_)
    refine lv_aload_n hx hb dX11_holds_6 rfl (lv_at hl 0 rfl) ?_
    refine lv_ifnonnull (tgt := 14) hx hb dX11_holds_7 (by decide) ?_
    refine lv_aload_n hx hb dX11_holds_14 rfl (lv_at hl 0 rfl) ?_
    refine z_getU C0 in_X11_holds_X7 (C := RX7) (T := TX7) (N := 3) hw (k := (40 + 2 * q2)) (ci := 7) (v := .int ((zsc S (40 + 2 * q2) 1))) (zsh_E hq2) rfl (zsh_B hq2) rfl 1 (by decide) rfl 1 rfl (Or.inl rfl) dX11_holds_15 ?_
    exact z_reti C0 hw hS (congrArg (fun z => (z, S)) (Option.some.inj h)) dX11_holds_18
