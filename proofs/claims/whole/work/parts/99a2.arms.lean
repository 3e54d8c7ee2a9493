set_option maxHeartbeats 4000000 in
set_option maxRecDepth 100000 in
theorem lwa_11 {p : Program} {l : Launch} {e : Env} {s : State} {m : MethodId} {below : List Frame} {meth : Method} {c : Code} {D : va_G} {Y : Nat → ClassId} {F : Nat → Nat} {A : Nat → Prop} {b L : Nat} {xs : Nat → Int32} {Q : State → Prop} (C0 : zCx p s m #[Value.ref b] meth c D Y F A RL cL_law 4 ret wsL_law) (hX : va_X b L xs s s.heap) (hbl : b < s.heap.size) (hbA : ¬ A b) {i : Nat} (hi : i + 6 ≤ L) (hL : L ≤ 3072) {cells slots : Nat} (hc1 : cells + 692 ≤ 600000) (hs1 : slots + 11937 ≤ 7302250) {G : zG} {S : zSt} {d : zD} (I : Inv (zpk G) S d) {H : Heap} {locs : List Loc} (hw : zH D Y F A G S H) (hS : va_S A s.heap H locs) {ls : Array Slot} (hl : lv_has ls 4 [(0, .ref b), (1, .ref (F 20)), (2, .ref (F 0)), (3, .int (nI i))]) (kk : ∀ (G1 : zG) (S1 : zSt) (d1 : zD) (H1 : Heap) (locs1 : List Loc), Inv (zpk G1) S1 d1 → zH D Y F A G1 S1 H1 → va_S A s.heap H1 locs1 → W p l e room_1 s m #[Value.ref b] below meth c H1 locs1 (cells + 692) (slots + 11937) Q (F0 m 1653 ls [])) : W p l e room_1 s m #[Value.ref b] below meth c H locs cells slots Q (F0 m 660 ls []) := by
  obtain ⟨hx, hb, hml, hr, hown, hts, hK, hA, hlk, hN⟩ := id C0
  have hrc := lw_rc
  have hrs := lw_rs
  refine lv_aload_n hx hb dL_law_660 rfl (lv_at hl 1 rfl) ?_
  refine lv_aload_n hx hb dL_law_661 rfl (lv_at hl 0 rfl) ?_
  refine lv_iload_n hx hb dL_law_662 rfl (lv_at hl 3 rfl) ?_
  refine lv_iconst (v := 1) hx hb dL_law_663 (by decide) ?_
  refine lv_iadd hx hb dL_law_664 ?_
  refine va_sld hx hb hX hbl hbA hS (show vp_in (nI i + 1) L from lw_in hi hL (k := 1) (by decide)) dL_law_665 ?_
  refine lv_aload_n hx hb dL_law_666 rfl (lv_at hl 0 rfl) ?_
  refine lv_iload_n hx hb dL_law_667 rfl (lv_at hl 3 rfl) ?_
  refine lv_iconst (v := 2) hx hb dL_law_668 (by decide) ?_
  refine lv_iadd hx hb dL_law_669 ?_
  refine va_sld hx hb hX hbl hbA hS (show vp_in (nI i + 2) L from lw_in hi hL (k := 2) (by decide)) dL_law_670 ?_
  refine lv_aload_n hx hb dL_law_671 rfl (lv_at hl 0 rfl) ?_
  refine lv_iload_n hx hb dL_law_672 rfl (lv_at hl 3 rfl) ?_
  refine lv_iconst (v := 3) hx hb dL_law_673 (by decide) ?_
  refine lv_iadd hx hb dL_law_674 ?_
  refine va_sld hx hb hX hbl hbA hS (show vp_in (nI i + 3) L from lw_in hi hL (k := 3) (by decide)) dL_law_675 ?_
  obtain ⟨r, S1, S2, e1, e2, d2, I2⟩ := s_strength I (xs (Int32.toNatClampNeg (nI i + 1))) (xs (Int32.toNatClampNeg (nI i + 2))) (xs (Int32.toNatClampNeg (nI i + 3)))
  refine z_goi C0 hw hS (res := (r, S1)) (rest := []) (arr := (Value.ref (F 20) :: [.int (xs (Int32.toNatClampNeg (nI i + 1))), .int (xs (Int32.toNatClampNeg (nI i + 2))), .int (xs (Int32.toNatClampNeg (nI i + 3)))]).toArray) ?_ (fun H locs hw hS => ?_)
  · exact va_runV (z_fix C0) (c_X11_strength l D Y F G S _ (xs (Int32.toNatClampNeg (nI i + 1))) (xs (Int32.toNatClampNeg (nI i + 2))) (xs (Int32.toNatClampNeg (nI i + 3))) (r, S1) e1) (cwV 3 hts gL_law_X11_strength rfl rfl rfl (by decide +kernel) ⟨Nat.le_of_ble_eq_true rfl, Nat.le_of_ble_eq_true rfl⟩) ⟨zPc_blind, z_rv C0 hw (k := 20) rfl rfl rfl rfl, z_give C0 hw hS _⟩ rfl rfl hl.1 rfl (lv_room (Nat.le_of_ble_eq_true rfl)) dL_law_676 ⟨by rw [hrc]; omega, by rw [hrs]; omega⟩
  refine lv_aload_n hx hb dL_law_679 rfl (lv_at hl 2 rfl) ?_
  refine lv_aload_n hx hb dL_law_680 rfl (lv_at hl 0 rfl) ?_
  refine lv_iload_n hx hb dL_law_681 rfl (lv_at hl 3 rfl) ?_
  refine lv_iconst (v := 1) hx hb dL_law_682 (by decide) ?_
  refine lv_iadd hx hb dL_law_683 ?_
  refine va_sld hx hb hX hbl hbA hS (show vp_in (nI i + 1) L from lw_in hi hL (k := 1) (by decide)) dL_law_684 ?_
  refine lv_aload_n hx hb dL_law_685 rfl (lv_at hl 0 rfl) ?_
  refine lv_iload_n hx hb dL_law_686 rfl (lv_at hl 3 rfl) ?_
  refine lv_iconst (v := 2) hx hb dL_law_687 (by decide) ?_
  refine lv_iadd hx hb dL_law_688 ?_
  refine va_sld hx hb hX hbl hbA hS (show vp_in (nI i + 2) L from lw_in hi hL (k := 2) (by decide)) dL_law_689 ?_
  refine lv_aload_n hx hb dL_law_690 rfl (lv_at hl 0 rfl) ?_
  refine lv_iload_n hx hb dL_law_691 rfl (lv_at hl 3 rfl) ?_
  refine lv_iconst (v := 3) hx hb dL_law_692 (by decide) ?_
  refine lv_iadd hx hb dL_law_693 ?_
  refine va_sld hx hb hX hbl hbA hS (show vp_in (nI i + 3) L from lw_in hi hL (k := 3) (by decide)) dL_law_694 ?_
  refine z_goi C0 hw hS (res := (r, S2)) (rest := [.int r]) (arr := (Value.ref (F 0) :: [.int (xs (Int32.toNatClampNeg (nI i + 1))), .int (xs (Int32.toNatClampNeg (nI i + 2))), .int (xs (Int32.toNatClampNeg (nI i + 3)))]).toArray) ?_ (fun H locs hw hS => ?_)
  · exact va_runV (z_fix C0) (c_X12_strength l D Y F G S1 _ (xs (Int32.toNatClampNeg (nI i + 1))) (xs (Int32.toNatClampNeg (nI i + 2))) (xs (Int32.toNatClampNeg (nI i + 3))) (r, S2) e2) (cwV 3 hts gL_law_X12_strength rfl rfl rfl (by decide +kernel) ⟨Nat.le_of_ble_eq_true rfl, Nat.le_of_ble_eq_true rfl⟩) ⟨zPc_blind, z_rv C0 hw (k := 0) rfl rfl rfl rfl, z_give C0 hw hS _⟩ rfl rfl hl.1 rfl (lv_room (Nat.le_of_ble_eq_true rfl)) dL_law_695 ⟨by rw [hrc]; omega, by rw [hrs]; omega⟩
  refine lv_icmp_eq (tgt := 1653) hx hb dL_law_698 (by decide) (fun _ => ?_) (fun q => absurd rfl q)
  refine W.widen (k := cells + 692) (n := slots + 11937) (by omega) (by omega) ?_
  exact kk G _ _ _ _ I2 hw hS
set_option maxHeartbeats 4000000 in
set_option maxRecDepth 100000 in
theorem lwa_12 {p : Program} {l : Launch} {e : Env} {s : State} {m : MethodId} {below : List Frame} {meth : Method} {c : Code} {D : va_G} {Y : Nat → ClassId} {F : Nat → Nat} {A : Nat → Prop} {b L : Nat} {xs : Nat → Int32} {Q : State → Prop} (C0 : zCx p s m #[Value.ref b] meth c D Y F A RL cL_law 4 ret wsL_law) (hX : va_X b L xs s s.heap) (hbl : b < s.heap.size) (hbA : ¬ A b) {i : Nat} (hi : i + 6 ≤ L) (hL : L ≤ 3072) {cells slots : Nat} (hc1 : cells + 692 ≤ 600000) (hs1 : slots + 11937 ≤ 7302250) {G : zG} {S : zSt} {d : zD} (I : Inv (zpk G) S d) {H : Heap} {locs : List Loc} (hw : zH D Y F A G S H) (hS : va_S A s.heap H locs) {ls : Array Slot} (hl : lv_has ls 4 [(0, .ref b), (1, .ref (F 20)), (2, .ref (F 0)), (3, .int (nI i))]) (kk : ∀ (G1 : zG) (S1 : zSt) (d1 : zD) (H1 : Heap) (locs1 : List Loc), Inv (zpk G1) S1 d1 → zH D Y F A G1 S1 H1 → va_S A s.heap H1 locs1 → W p l e room_1 s m #[Value.ref b] below meth c H1 locs1 (cells + 692) (slots + 11937) Q (F0 m 1653 ls [])) : W p l e room_1 s m #[Value.ref b] below meth c H locs cells slots Q (F0 m 703 ls []) := by
  obtain ⟨hx, hb, hml, hr, hown, hts, hK, hA, hlk, hN⟩ := id C0
  have hrc := lw_rc
  have hrs := lw_rs
  refine lv_aload_n hx hb dL_law_703 rfl (lv_at hl 1 rfl) ?_
  refine lv_aload_n hx hb dL_law_704 rfl (lv_at hl 0 rfl) ?_
  refine lv_iload_n hx hb dL_law_705 rfl (lv_at hl 3 rfl) ?_
  refine lv_iconst (v := 1) hx hb dL_law_706 (by decide) ?_
  refine lv_iadd hx hb dL_law_707 ?_
  refine va_sld hx hb hX hbl hbA hS (show vp_in (nI i + 1) L from lw_in hi hL (k := 1) (by decide)) dL_law_708 ?_
  refine lv_aload_n hx hb dL_law_709 rfl (lv_at hl 0 rfl) ?_
  refine lv_iload_n hx hb dL_law_710 rfl (lv_at hl 3 rfl) ?_
  refine lv_iconst (v := 2) hx hb dL_law_711 (by decide) ?_
  refine lv_iadd hx hb dL_law_712 ?_
  refine va_sld hx hb hX hbl hbA hS (show vp_in (nI i + 2) L from lw_in hi hL (k := 2) (by decide)) dL_law_713 ?_
  obtain ⟨r, S1, S2, e1, e2, d2, I2⟩ := s_drift I (xs (Int32.toNatClampNeg (nI i + 1))) (xs (Int32.toNatClampNeg (nI i + 2)))
  refine z_goi C0 hw hS (res := (r, S1)) (rest := []) (arr := (Value.ref (F 20) :: [.int (xs (Int32.toNatClampNeg (nI i + 1))), .int (xs (Int32.toNatClampNeg (nI i + 2)))]).toArray) ?_ (fun H locs hw hS => ?_)
  · exact va_runV (z_fix C0) (c_X11_drift l D Y F G S _ (xs (Int32.toNatClampNeg (nI i + 1))) (xs (Int32.toNatClampNeg (nI i + 2))) (r, S1) e1) (cwV 2 hts gL_law_X11_drift rfl rfl rfl (by decide +kernel) ⟨Nat.le_of_ble_eq_true rfl, Nat.le_of_ble_eq_true rfl⟩) ⟨zPc_blind, z_rv C0 hw (k := 20) rfl rfl rfl rfl, z_give C0 hw hS _⟩ rfl rfl hl.1 rfl (lv_room (Nat.le_of_ble_eq_true rfl)) dL_law_714 ⟨by rw [hrc]; omega, by rw [hrs]; omega⟩
  refine lv_aload_n hx hb dL_law_717 rfl (lv_at hl 2 rfl) ?_
  refine lv_aload_n hx hb dL_law_718 rfl (lv_at hl 0 rfl) ?_
  refine lv_iload_n hx hb dL_law_719 rfl (lv_at hl 3 rfl) ?_
  refine lv_iconst (v := 1) hx hb dL_law_720 (by decide) ?_
  refine lv_iadd hx hb dL_law_721 ?_
  refine va_sld hx hb hX hbl hbA hS (show vp_in (nI i + 1) L from lw_in hi hL (k := 1) (by decide)) dL_law_722 ?_
  refine lv_aload_n hx hb dL_law_723 rfl (lv_at hl 0 rfl) ?_
  refine lv_iload_n hx hb dL_law_724 rfl (lv_at hl 3 rfl) ?_
  refine lv_iconst (v := 2) hx hb dL_law_725 (by decide) ?_
  refine lv_iadd hx hb dL_law_726 ?_
  refine va_sld hx hb hX hbl hbA hS (show vp_in (nI i + 2) L from lw_in hi hL (k := 2) (by decide)) dL_law_727 ?_
  refine z_goi C0 hw hS (res := (r, S2)) (rest := [.int r]) (arr := (Value.ref (F 0) :: [.int (xs (Int32.toNatClampNeg (nI i + 1))), .int (xs (Int32.toNatClampNeg (nI i + 2)))]).toArray) ?_ (fun H locs hw hS => ?_)
  · exact va_runV (z_fix C0) (c_X12_drift l D Y F G S1 _ (xs (Int32.toNatClampNeg (nI i + 1))) (xs (Int32.toNatClampNeg (nI i + 2))) (r, S2) e2) (cwV 2 hts gL_law_X12_drift rfl rfl rfl (by decide +kernel) ⟨Nat.le_of_ble_eq_true rfl, Nat.le_of_ble_eq_true rfl⟩) ⟨zPc_blind, z_rv C0 hw (k := 0) rfl rfl rfl rfl, z_give C0 hw hS _⟩ rfl rfl hl.1 rfl (lv_room (Nat.le_of_ble_eq_true rfl)) dL_law_728 ⟨by rw [hrc]; omega, by rw [hrs]; omega⟩
  refine lv_icmp_eq (tgt := 1653) hx hb dL_law_731 (by decide) (fun _ => ?_) (fun q => absurd rfl q)
  refine W.widen (k := cells + 692) (n := slots + 11937) (by omega) (by omega) ?_
  exact kk G _ _ _ _ I2 hw hS
set_option maxHeartbeats 4000000 in
set_option maxRecDepth 100000 in
theorem lwa_13 {p : Program} {l : Launch} {e : Env} {s : State} {m : MethodId} {below : List Frame} {meth : Method} {c : Code} {D : va_G} {Y : Nat → ClassId} {F : Nat → Nat} {A : Nat → Prop} {b L : Nat} {xs : Nat → Int32} {Q : State → Prop} (C0 : zCx p s m #[Value.ref b] meth c D Y F A RL cL_law 4 ret wsL_law) (hX : va_X b L xs s s.heap) (hbl : b < s.heap.size) (hbA : ¬ A b) {i : Nat} (hi : i + 6 ≤ L) (hL : L ≤ 3072) {cells slots : Nat} (hc1 : cells + 692 ≤ 600000) (hs1 : slots + 11937 ≤ 7302250) {G : zG} {S : zSt} {d : zD} (I : Inv (zpk G) S d) {H : Heap} {locs : List Loc} (hw : zH D Y F A G S H) (hS : va_S A s.heap H locs) {ls : Array Slot} (hl : lv_has ls 4 [(0, .ref b), (1, .ref (F 20)), (2, .ref (F 0)), (3, .int (nI i))]) (kk : ∀ (G1 : zG) (S1 : zSt) (d1 : zD) (H1 : Heap) (locs1 : List Loc), Inv (zpk G1) S1 d1 → zH D Y F A G1 S1 H1 → va_S A s.heap H1 locs1 → W p l e room_1 s m #[Value.ref b] below meth c H1 locs1 (cells + 692) (slots + 11937) Q (F0 m 1653 ls [])) : W p l e room_1 s m #[Value.ref b] below meth c H locs cells slots Q (F0 m 736 ls []) := by
  obtain ⟨hx, hb, hml, hr, hown, hts, hK, hA, hlk, hN⟩ := id C0
  have hrc := lw_rc
  have hrs := lw_rs
  refine lv_aload_n hx hb dL_law_736 rfl (lv_at hl 1 rfl) ?_
  refine lv_aload_n hx hb dL_law_737 rfl (lv_at hl 0 rfl) ?_
  refine lv_iload_n hx hb dL_law_738 rfl (lv_at hl 3 rfl) ?_
  refine lv_iconst (v := 1) hx hb dL_law_739 (by decide) ?_
  refine lv_iadd hx hb dL_law_740 ?_
  refine va_sld hx hb hX hbl hbA hS (show vp_in (nI i + 1) L from lw_in hi hL (k := 1) (by decide)) dL_law_741 ?_
  refine lv_aload_n hx hb dL_law_742 rfl (lv_at hl 0 rfl) ?_
  refine lv_iload_n hx hb dL_law_743 rfl (lv_at hl 3 rfl) ?_
  refine lv_iconst (v := 2) hx hb dL_law_744 (by decide) ?_
  refine lv_iadd hx hb dL_law_745 ?_
  refine va_sld hx hb hX hbl hbA hS (show vp_in (nI i + 2) L from lw_in hi hL (k := 2) (by decide)) dL_law_746 ?_
  obtain ⟨r, S1, S2, e1, e2, d2, I2⟩ := s_loss I (xs (Int32.toNatClampNeg (nI i + 1))) (xs (Int32.toNatClampNeg (nI i + 2)))
  refine z_goi C0 hw hS (res := (r, S1)) (rest := []) (arr := (Value.ref (F 20) :: [.int (xs (Int32.toNatClampNeg (nI i + 1))), .int (xs (Int32.toNatClampNeg (nI i + 2)))]).toArray) ?_ (fun H locs hw hS => ?_)
  · exact va_runV (z_fix C0) (c_X11_loss l D Y F G S _ (xs (Int32.toNatClampNeg (nI i + 1))) (xs (Int32.toNatClampNeg (nI i + 2))) (r, S1) e1) (cwV 2 hts gL_law_X11_loss rfl rfl rfl (by decide +kernel) ⟨Nat.le_of_ble_eq_true rfl, Nat.le_of_ble_eq_true rfl⟩) ⟨zPc_blind, z_rv C0 hw (k := 20) rfl rfl rfl rfl, z_give C0 hw hS _⟩ rfl rfl hl.1 rfl (lv_room (Nat.le_of_ble_eq_true rfl)) dL_law_747 ⟨by rw [hrc]; omega, by rw [hrs]; omega⟩
  refine lv_aload_n hx hb dL_law_750 rfl (lv_at hl 2 rfl) ?_
  refine lv_aload_n hx hb dL_law_751 rfl (lv_at hl 0 rfl) ?_
  refine lv_iload_n hx hb dL_law_752 rfl (lv_at hl 3 rfl) ?_
  refine lv_iconst (v := 1) hx hb dL_law_753 (by decide) ?_
  refine lv_iadd hx hb dL_law_754 ?_
  refine va_sld hx hb hX hbl hbA hS (show vp_in (nI i + 1) L from lw_in hi hL (k := 1) (by decide)) dL_law_755 ?_
  refine lv_aload_n hx hb dL_law_756 rfl (lv_at hl 0 rfl) ?_
  refine lv_iload_n hx hb dL_law_757 rfl (lv_at hl 3 rfl) ?_
  refine lv_iconst (v := 2) hx hb dL_law_758 (by decide) ?_
  refine lv_iadd hx hb dL_law_759 ?_
  refine va_sld hx hb hX hbl hbA hS (show vp_in (nI i + 2) L from lw_in hi hL (k := 2) (by decide)) dL_law_760 ?_
  refine z_goi C0 hw hS (res := (r, S2)) (rest := [.int r]) (arr := (Value.ref (F 0) :: [.int (xs (Int32.toNatClampNeg (nI i + 1))), .int (xs (Int32.toNatClampNeg (nI i + 2)))]).toArray) ?_ (fun H locs hw hS => ?_)
  · exact va_runV (z_fix C0) (c_X12_loss l D Y F G S1 _ (xs (Int32.toNatClampNeg (nI i + 1))) (xs (Int32.toNatClampNeg (nI i + 2))) (r, S2) e2) (cwV 2 hts gL_law_X12_loss rfl rfl rfl (by decide +kernel) ⟨Nat.le_of_ble_eq_true rfl, Nat.le_of_ble_eq_true rfl⟩) ⟨zPc_blind, z_rv C0 hw (k := 0) rfl rfl rfl rfl, z_give C0 hw hS _⟩ rfl rfl hl.1 rfl (lv_room (Nat.le_of_ble_eq_true rfl)) dL_law_761 ⟨by rw [hrc]; omega, by rw [hrs]; omega⟩
  refine lv_icmp_eq (tgt := 1653) hx hb dL_law_764 (by decide) (fun _ => ?_) (fun q => absurd rfl q)
  refine W.widen (k := cells + 692) (n := slots + 11937) (by omega) (by omega) ?_
  exact kk G _ _ _ _ I2 hw hS
set_option maxHeartbeats 4000000 in
set_option maxRecDepth 100000 in
theorem lwa_14 {p : Program} {l : Launch} {e : Env} {s : State} {m : MethodId} {below : List Frame} {meth : Method} {c : Code} {D : va_G} {Y : Nat → ClassId} {F : Nat → Nat} {A : Nat → Prop} {b L : Nat} {xs : Nat → Int32} {Q : State → Prop} (C0 : zCx p s m #[Value.ref b] meth c D Y F A RL cL_law 4 ret wsL_law) (hX : va_X b L xs s s.heap) (hbl : b < s.heap.size) (hbA : ¬ A b) {i : Nat} (hi : i + 6 ≤ L) (hL : L ≤ 3072) {cells slots : Nat} (hc1 : cells + 692 ≤ 600000) (hs1 : slots + 11937 ≤ 7302250) {G : zG} {S : zSt} {d : zD} (I : Inv (zpk G) S d) {H : Heap} {locs : List Loc} (hw : zH D Y F A G S H) (hS : va_S A s.heap H locs) {ls : Array Slot} (hl : lv_has ls 4 [(0, .ref b), (1, .ref (F 20)), (2, .ref (F 0)), (3, .int (nI i))]) (kk : ∀ (G1 : zG) (S1 : zSt) (d1 : zD) (H1 : Heap) (locs1 : List Loc), Inv (zpk G1) S1 d1 → zH D Y F A G1 S1 H1 → va_S A s.heap H1 locs1 → W p l e room_1 s m #[Value.ref b] below meth c H1 locs1 (cells + 692) (slots + 11937) Q (F0 m 1653 ls [])) : W p l e room_1 s m #[Value.ref b] below meth c H locs cells slots Q (F0 m 769 ls []) := by
  obtain ⟨hx, hb, hml, hr, hown, hts, hK, hA, hlk, hN⟩ := id C0
  have hrc := lw_rc
  have hrs := lw_rs
  refine lv_aload_n hx hb dL_law_769 rfl (lv_at hl 1 rfl) ?_
  refine lv_aload_n hx hb dL_law_770 rfl (lv_at hl 0 rfl) ?_
  refine lv_iload_n hx hb dL_law_771 rfl (lv_at hl 3 rfl) ?_
  refine lv_iconst (v := 1) hx hb dL_law_772 (by decide) ?_
  refine lv_iadd hx hb dL_law_773 ?_
  refine va_sld hx hb hX hbl hbA hS (show vp_in (nI i + 1) L from lw_in hi hL (k := 1) (by decide)) dL_law_774 ?_
  obtain ⟨r, pk1, S1, S2, e1, e2, d2, I2⟩ := s_land I (xs (Int32.toNatClampNeg (nI i + 1)))
  refine z_goiG (mc := 692) (ms := 11937) C0 hw hS (res := (r, pk1, S1)) (rest := []) (arr := (Value.ref (F 20) :: [.int (xs (Int32.toNatClampNeg (nI i + 1)))]).toArray) ?_ (fun G1 H locs eG hw hS => ?_)
  · exact va_runV (z_fix C0) (c_X11_land l D Y F G S _ (xs (Int32.toNatClampNeg (nI i + 1))) (r, pk1, S1) e1) (cwV 1 hts gL_law_X11_land rfl rfl rfl (by decide +kernel) ⟨Nat.le_of_ble_eq_true rfl, Nat.le_of_ble_eq_true rfl⟩) ⟨zPc_blind, z_rv C0 hw (k := 20) rfl rfl rfl rfl, z_give C0 hw hS _⟩ rfl rfl hl.1 rfl (lv_room (Nat.le_of_ble_eq_true rfl)) dL_law_775 ⟨by rw [hrc]; omega, by rw [hrs]; omega⟩
  have eG : zpk G1 = pk1 := eG
  subst eG
  refine lv_aload_n hx hb dL_law_778 rfl (lv_at hl 2 rfl) ?_
  refine lv_aload_n hx hb dL_law_779 rfl (lv_at hl 0 rfl) ?_
  refine lv_iload_n hx hb dL_law_780 rfl (lv_at hl 3 rfl) ?_
  refine lv_iconst (v := 1) hx hb dL_law_781 (by decide) ?_
  refine lv_iadd hx hb dL_law_782 ?_
  refine va_sld hx hb hX hbl hbA hS (show vp_in (nI i + 1) L from lw_in hi hL (k := 1) (by decide)) dL_law_783 ?_
  refine z_goi C0 hw hS (res := (r, S2)) (rest := [.int r]) (arr := (Value.ref (F 0) :: [.int (xs (Int32.toNatClampNeg (nI i + 1)))]).toArray) ?_ (fun H locs hw hS => ?_)
  · exact va_runV (z_fix C0) (c_X12_land l D Y F G1 S1 _ (xs (Int32.toNatClampNeg (nI i + 1))) (r, S2) e2) (cwV 1 hts gL_law_X12_land rfl rfl rfl (by decide +kernel) ⟨Nat.le_of_ble_eq_true rfl, Nat.le_of_ble_eq_true rfl⟩) ⟨zPc_blind, z_rv C0 hw (k := 0) rfl rfl rfl rfl, z_give C0 hw hS _⟩ rfl rfl hl.1 rfl (lv_room (Nat.le_of_ble_eq_true rfl)) dL_law_784 ⟨by rw [hrc]; omega, by rw [hrs]; omega⟩
  refine lv_icmp_eq (tgt := 1653) hx hb dL_law_787 (by decide) (fun _ => ?_) (fun q => absurd rfl q)
  refine W.widen (k := cells + 692) (n := slots + 11937) (by omega) (by omega) ?_
  exact kk G1 _ _ _ _ I2 hw hS
set_option maxHeartbeats 4000000 in
set_option maxRecDepth 100000 in
theorem lwa_15 {p : Program} {l : Launch} {e : Env} {s : State} {m : MethodId} {below : List Frame} {meth : Method} {c : Code} {D : va_G} {Y : Nat → ClassId} {F : Nat → Nat} {A : Nat → Prop} {b L : Nat} {xs : Nat → Int32} {Q : State → Prop} (C0 : zCx p s m #[Value.ref b] meth c D Y F A RL cL_law 4 ret wsL_law) (hX : va_X b L xs s s.heap) (hbl : b < s.heap.size) (hbA : ¬ A b) {i : Nat} (hi : i + 6 ≤ L) (hL : L ≤ 3072) {cells slots : Nat} (hc1 : cells + 692 ≤ 600000) (hs1 : slots + 11937 ≤ 7302250) {G : zG} {S : zSt} {d : zD} (I : Inv (zpk G) S d) {H : Heap} {locs : List Loc} (hw : zH D Y F A G S H) (hS : va_S A s.heap H locs) {ls : Array Slot} (hl : lv_has ls 4 [(0, .ref b), (1, .ref (F 20)), (2, .ref (F 0)), (3, .int (nI i))]) (kk : ∀ (G1 : zG) (S1 : zSt) (d1 : zD) (H1 : Heap) (locs1 : List Loc), Inv (zpk G1) S1 d1 → zH D Y F A G1 S1 H1 → va_S A s.heap H1 locs1 → W p l e room_1 s m #[Value.ref b] below meth c H1 locs1 (cells + 692) (slots + 11937) Q (F0 m 1653 ls [])) : W p l e room_1 s m #[Value.ref b] below meth c H locs cells slots Q (F0 m 792 ls []) := by
  obtain ⟨hx, hb, hml, hr, hown, hts, hK, hA, hlk, hN⟩ := id C0
  have hrc := lw_rc
  have hrs := lw_rs
  refine lv_aload_n hx hb dL_law_792 rfl (lv_at hl 1 rfl) ?_
  obtain ⟨r, e1, e2⟩ := s_fault I
  refine z_goi C0 hw hS (res := (r, S)) (rest := []) (arr := (Value.ref (F 20) :: []).toArray) ?_ (fun H locs hw hS => ?_)
  · exact va_runV (z_fix C0) (c_X11_fault l D Y F G S _ r e1) (cwV 0 hts gL_law_X11_fault rfl rfl rfl (by decide +kernel) ⟨Nat.le_of_ble_eq_true rfl, Nat.le_of_ble_eq_true rfl⟩) ⟨zPc_blind, z_rv C0 hw (k := 20) rfl rfl rfl rfl, z_give C0 hw hS _⟩ rfl rfl hl.1 rfl (lv_room (Nat.le_of_ble_eq_true rfl)) dL_law_793 ⟨by rw [hrc]; omega, by rw [hrs]; omega⟩
  refine lv_aload_n hx hb dL_law_796 rfl (lv_at hl 2 rfl) ?_
  refine z_goi C0 hw hS (res := (r, S)) (rest := [.int r]) (arr := (Value.ref (F 0) :: []).toArray) ?_ (fun H locs hw hS => ?_)
  · exact va_runV (z_fix C0) (c_X12_fault l D Y F G S _ r e2) (cwV 0 hts gL_law_X12_fault rfl rfl rfl (by decide +kernel) ⟨Nat.le_of_ble_eq_true rfl, Nat.le_of_ble_eq_true rfl⟩) ⟨zPc_blind, z_rv C0 hw (k := 0) rfl rfl rfl rfl, z_give C0 hw hS _⟩ rfl rfl hl.1 rfl (lv_room (Nat.le_of_ble_eq_true rfl)) dL_law_797 ⟨by rw [hrc]; omega, by rw [hrs]; omega⟩
  refine lv_icmp_eq (tgt := 1653) hx hb dL_law_800 (by decide) (fun _ => ?_) (fun q => absurd rfl q)
  refine W.widen (k := cells + 692) (n := slots + 11937) (by omega) (by omega) ?_
  exact kk G _ _ _ _ I hw hS
set_option maxHeartbeats 4000000 in
set_option maxRecDepth 100000 in
theorem lwa_16 {p : Program} {l : Launch} {e : Env} {s : State} {m : MethodId} {below : List Frame} {meth : Method} {c : Code} {D : va_G} {Y : Nat → ClassId} {F : Nat → Nat} {A : Nat → Prop} {b L : Nat} {xs : Nat → Int32} {Q : State → Prop} (C0 : zCx p s m #[Value.ref b] meth c D Y F A RL cL_law 4 ret wsL_law) (hX : va_X b L xs s s.heap) (hbl : b < s.heap.size) (hbA : ¬ A b) {i : Nat} (hi : i + 6 ≤ L) (hL : L ≤ 3072) {cells slots : Nat} (hc1 : cells + 692 ≤ 600000) (hs1 : slots + 11937 ≤ 7302250) {G : zG} {S : zSt} {d : zD} (I : Inv (zpk G) S d) {H : Heap} {locs : List Loc} (hw : zH D Y F A G S H) (hS : va_S A s.heap H locs) {ls : Array Slot} (hl : lv_has ls 4 [(0, .ref b), (1, .ref (F 20)), (2, .ref (F 0)), (3, .int (nI i))]) (kk : ∀ (G1 : zG) (S1 : zSt) (d1 : zD) (H1 : Heap) (locs1 : List Loc), Inv (zpk G1) S1 d1 → zH D Y F A G1 S1 H1 → va_S A s.heap H1 locs1 → W p l e room_1 s m #[Value.ref b] below meth c H1 locs1 (cells + 692) (slots + 11937) Q (F0 m 1653 ls [])) : W p l e room_1 s m #[Value.ref b] below meth c H locs cells slots Q (F0 m 805 ls []) := by
  obtain ⟨hx, hb, hml, hr, hown, hts, hK, hA, hlk, hN⟩ := id C0
  have hrc := lw_rc
  have hrs := lw_rs
  refine lv_aload_n hx hb dL_law_805 rfl (lv_at hl 1 rfl) ?_
  refine lv_aload_n hx hb dL_law_806 rfl (lv_at hl 0 rfl) ?_
  refine lv_iload_n hx hb dL_law_807 rfl (lv_at hl 3 rfl) ?_
  refine lv_iconst (v := 1) hx hb dL_law_808 (by decide) ?_
  refine lv_iadd hx hb dL_law_809 ?_
  refine va_sld hx hb hX hbl hbA hS (show vp_in (nI i + 1) L from lw_in hi hL (k := 1) (by decide)) dL_law_810 ?_
  refine lv_aload_n hx hb dL_law_811 rfl (lv_at hl 0 rfl) ?_
  refine lv_iload_n hx hb dL_law_812 rfl (lv_at hl 3 rfl) ?_
  refine lv_iconst (v := 2) hx hb dL_law_813 (by decide) ?_
  refine lv_iadd hx hb dL_law_814 ?_
  refine va_sld hx hb hX hbl hbA hS (show vp_in (nI i + 2) L from lw_in hi hL (k := 2) (by decide)) dL_law_815 ?_
  obtain ⟨r, S1, S2, e1, e2, d2, I2⟩ := s_have I (xs (Int32.toNatClampNeg (nI i + 1))) (xs (Int32.toNatClampNeg (nI i + 2)))
  refine z_goi C0 hw hS (res := (r, S1)) (rest := []) (arr := (Value.ref (F 20) :: [.int (xs (Int32.toNatClampNeg (nI i + 1))), .int (xs (Int32.toNatClampNeg (nI i + 2)))]).toArray) ?_ (fun H locs hw hS => ?_)
  · exact va_runV (z_fix C0) (c_X11_have l D Y F G S _ (xs (Int32.toNatClampNeg (nI i + 1))) (xs (Int32.toNatClampNeg (nI i + 2))) (r, S1) e1) (cwV 2 hts gL_law_X11_have rfl rfl rfl (by decide +kernel) ⟨Nat.le_of_ble_eq_true rfl, Nat.le_of_ble_eq_true rfl⟩) ⟨zPc_blind, z_rv C0 hw (k := 20) rfl rfl rfl rfl, z_give C0 hw hS _⟩ rfl rfl hl.1 rfl (lv_room (Nat.le_of_ble_eq_true rfl)) dL_law_816 ⟨by rw [hrc]; omega, by rw [hrs]; omega⟩
  refine lv_aload_n hx hb dL_law_819 rfl (lv_at hl 2 rfl) ?_
  refine lv_aload_n hx hb dL_law_820 rfl (lv_at hl 0 rfl) ?_
  refine lv_iload_n hx hb dL_law_821 rfl (lv_at hl 3 rfl) ?_
  refine lv_iconst (v := 1) hx hb dL_law_822 (by decide) ?_
  refine lv_iadd hx hb dL_law_823 ?_
  refine va_sld hx hb hX hbl hbA hS (show vp_in (nI i + 1) L from lw_in hi hL (k := 1) (by decide)) dL_law_824 ?_
  refine lv_aload_n hx hb dL_law_825 rfl (lv_at hl 0 rfl) ?_
  refine lv_iload_n hx hb dL_law_826 rfl (lv_at hl 3 rfl) ?_
  refine lv_iconst (v := 2) hx hb dL_law_827 (by decide) ?_
  refine lv_iadd hx hb dL_law_828 ?_
  refine va_sld hx hb hX hbl hbA hS (show vp_in (nI i + 2) L from lw_in hi hL (k := 2) (by decide)) dL_law_829 ?_
  refine z_goi C0 hw hS (res := (r, S2)) (rest := [.int r]) (arr := (Value.ref (F 0) :: [.int (xs (Int32.toNatClampNeg (nI i + 1))), .int (xs (Int32.toNatClampNeg (nI i + 2)))]).toArray) ?_ (fun H locs hw hS => ?_)
  · exact va_runV (z_fix C0) (c_X12_have l D Y F G S1 _ (xs (Int32.toNatClampNeg (nI i + 1))) (xs (Int32.toNatClampNeg (nI i + 2))) (r, S2) e2) (cwV 2 hts gL_law_X12_have rfl rfl rfl (by decide +kernel) ⟨Nat.le_of_ble_eq_true rfl, Nat.le_of_ble_eq_true rfl⟩) ⟨zPc_blind, z_rv C0 hw (k := 0) rfl rfl rfl rfl, z_give C0 hw hS _⟩ rfl rfl hl.1 rfl (lv_room (Nat.le_of_ble_eq_true rfl)) dL_law_830 ⟨by rw [hrc]; omega, by rw [hrs]; omega⟩
  refine lv_icmp_eq (tgt := 1653) hx hb dL_law_833 (by decide) (fun _ => ?_) (fun q => absurd rfl q)
  refine W.widen (k := cells + 692) (n := slots + 11937) (by omega) (by omega) ?_
  exact kk G _ _ _ _ I2 hw hS
set_option maxHeartbeats 4000000 in
set_option maxRecDepth 100000 in
theorem lwa_17 {p : Program} {l : Launch} {e : Env} {s : State} {m : MethodId} {below : List Frame} {meth : Method} {c : Code} {D : va_G} {Y : Nat → ClassId} {F : Nat → Nat} {A : Nat → Prop} {b L : Nat} {xs : Nat → Int32} {Q : State → Prop} (C0 : zCx p s m #[Value.ref b] meth c D Y F A RL cL_law 4 ret wsL_law) (hX : va_X b L xs s s.heap) (hbl : b < s.heap.size) (hbA : ¬ A b) {i : Nat} (hi : i + 6 ≤ L) (hL : L ≤ 3072) {cells slots : Nat} (hc1 : cells + 692 ≤ 600000) (hs1 : slots + 11937 ≤ 7302250) {G : zG} {S : zSt} {d : zD} (I : Inv (zpk G) S d) {H : Heap} {locs : List Loc} (hw : zH D Y F A G S H) (hS : va_S A s.heap H locs) {ls : Array Slot} (hl : lv_has ls 4 [(0, .ref b), (1, .ref (F 20)), (2, .ref (F 0)), (3, .int (nI i))]) (kk : ∀ (G1 : zG) (S1 : zSt) (d1 : zD) (H1 : Heap) (locs1 : List Loc), Inv (zpk G1) S1 d1 → zH D Y F A G1 S1 H1 → va_S A s.heap H1 locs1 → W p l e room_1 s m #[Value.ref b] below meth c H1 locs1 (cells + 692) (slots + 11937) Q (F0 m 1653 ls [])) : W p l e room_1 s m #[Value.ref b] below meth c H locs cells slots Q (F0 m 838 ls []) := by
  obtain ⟨hx, hb, hml, hr, hown, hts, hK, hA, hlk, hN⟩ := id C0
  have hrc := lw_rc
  have hrs := lw_rs
  refine lv_aload_n hx hb dL_law_838 rfl (lv_at hl 1 rfl) ?_
  refine lv_aload_n hx hb dL_law_839 rfl (lv_at hl 0 rfl) ?_
  refine lv_iload_n hx hb dL_law_840 rfl (lv_at hl 3 rfl) ?_
  refine lv_iconst (v := 1) hx hb dL_law_841 (by decide) ?_
  refine lv_iadd hx hb dL_law_842 ?_
  refine va_sld hx hb hX hbl hbA hS (show vp_in (nI i + 1) L from lw_in hi hL (k := 1) (by decide)) dL_law_843 ?_
  obtain ⟨r, S1, S2, e1, e2, d2, I2⟩ := s_all I (xs (Int32.toNatClampNeg (nI i + 1)))
  refine z_goi C0 hw hS (res := (r, S1)) (rest := []) (arr := (Value.ref (F 20) :: [.int (xs (Int32.toNatClampNeg (nI i + 1)))]).toArray) ?_ (fun H locs hw hS => ?_)
  · exact va_runV (z_fix C0) (c_X11_all l D Y F G S _ (xs (Int32.toNatClampNeg (nI i + 1))) (r, S1) e1) (cwV 1 hts gL_law_X11_all rfl rfl rfl (by decide +kernel) ⟨Nat.le_of_ble_eq_true rfl, Nat.le_of_ble_eq_true rfl⟩) ⟨zPc_blind, z_rv C0 hw (k := 20) rfl rfl rfl rfl, z_give C0 hw hS _⟩ rfl rfl hl.1 rfl (lv_room (Nat.le_of_ble_eq_true rfl)) dL_law_844 ⟨by rw [hrc]; omega, by rw [hrs]; omega⟩
  refine lv_aload_n hx hb dL_law_847 rfl (lv_at hl 2 rfl) ?_
  refine lv_aload_n hx hb dL_law_848 rfl (lv_at hl 0 rfl) ?_
  refine lv_iload_n hx hb dL_law_849 rfl (lv_at hl 3 rfl) ?_
  refine lv_iconst (v := 1) hx hb dL_law_850 (by decide) ?_
  refine lv_iadd hx hb dL_law_851 ?_
  refine va_sld hx hb hX hbl hbA hS (show vp_in (nI i + 1) L from lw_in hi hL (k := 1) (by decide)) dL_law_852 ?_
  refine z_goi C0 hw hS (res := (r, S2)) (rest := [.int r]) (arr := (Value.ref (F 0) :: [.int (xs (Int32.toNatClampNeg (nI i + 1)))]).toArray) ?_ (fun H locs hw hS => ?_)
  · exact va_runV (z_fix C0) (c_X12_all l D Y F G S1 _ (xs (Int32.toNatClampNeg (nI i + 1))) (r, S2) e2) (cwV 1 hts gL_law_X12_all rfl rfl rfl (by decide +kernel) ⟨Nat.le_of_ble_eq_true rfl, Nat.le_of_ble_eq_true rfl⟩) ⟨zPc_blind, z_rv C0 hw (k := 0) rfl rfl rfl rfl, z_give C0 hw hS _⟩ rfl rfl hl.1 rfl (lv_room (Nat.le_of_ble_eq_true rfl)) dL_law_853 ⟨by rw [hrc]; omega, by rw [hrs]; omega⟩
  refine lv_icmp_eq (tgt := 1653) hx hb dL_law_856 (by decide) (fun _ => ?_) (fun q => absurd rfl q)
  refine W.widen (k := cells + 692) (n := slots + 11937) (by omega) (by omega) ?_
  exact kk G _ _ _ _ I2 hw hS
set_option maxHeartbeats 4000000 in
set_option maxRecDepth 100000 in
theorem lwa_18 {p : Program} {l : Launch} {e : Env} {s : State} {m : MethodId} {below : List Frame} {meth : Method} {c : Code} {D : va_G} {Y : Nat → ClassId} {F : Nat → Nat} {A : Nat → Prop} {b L : Nat} {xs : Nat → Int32} {Q : State → Prop} (C0 : zCx p s m #[Value.ref b] meth c D Y F A RL cL_law 4 ret wsL_law) (hX : va_X b L xs s s.heap) (hbl : b < s.heap.size) (hbA : ¬ A b) {i : Nat} (hi : i + 6 ≤ L) (hL : L ≤ 3072) {cells slots : Nat} (hc1 : cells + 692 ≤ 600000) (hs1 : slots + 11937 ≤ 7302250) {G : zG} {S : zSt} {d : zD} (I : Inv (zpk G) S d) {H : Heap} {locs : List Loc} (hw : zH D Y F A G S H) (hS : va_S A s.heap H locs) {ls : Array Slot} (hl : lv_has ls 4 [(0, .ref b), (1, .ref (F 20)), (2, .ref (F 0)), (3, .int (nI i))]) (kk : ∀ (G1 : zG) (S1 : zSt) (d1 : zD) (H1 : Heap) (locs1 : List Loc), Inv (zpk G1) S1 d1 → zH D Y F A G1 S1 H1 → va_S A s.heap H1 locs1 → W p l e room_1 s m #[Value.ref b] below meth c H1 locs1 (cells + 692) (slots + 11937) Q (F0 m 1653 ls [])) : W p l e room_1 s m #[Value.ref b] below meth c H locs cells slots Q (F0 m 861 ls []) := by
  obtain ⟨hx, hb, hml, hr, hown, hts, hK, hA, hlk, hN⟩ := id C0
  have hrc := lw_rc
  have hrs := lw_rs
  refine lv_aload_n hx hb dL_law_861 rfl (lv_at hl 1 rfl) ?_
  refine lv_aload_n hx hb dL_law_862 rfl (lv_at hl 0 rfl) ?_
  refine lv_iload_n hx hb dL_law_863 rfl (lv_at hl 3 rfl) ?_
  refine lv_iconst (v := 1) hx hb dL_law_864 (by decide) ?_
  refine lv_iadd hx hb dL_law_865 ?_
  refine va_sld hx hb hX hbl hbA hS (show vp_in (nI i + 1) L from lw_in hi hL (k := 1) (by decide)) dL_law_866 ?_
  refine lv_aload_n hx hb dL_law_867 rfl (lv_at hl 0 rfl) ?_
  refine lv_iload_n hx hb dL_law_868 rfl (lv_at hl 3 rfl) ?_
  refine lv_iconst (v := 2) hx hb dL_law_869 (by decide) ?_
  refine lv_iadd hx hb dL_law_870 ?_
  refine va_sld hx hb hX hbl hbA hS (show vp_in (nI i + 2) L from lw_in hi hL (k := 2) (by decide)) dL_law_871 ?_
  refine lv_aload_n hx hb dL_law_872 rfl (lv_at hl 0 rfl) ?_
  refine lv_iload_n hx hb dL_law_873 rfl (lv_at hl 3 rfl) ?_
  refine lv_iconst (v := 3) hx hb dL_law_874 (by decide) ?_
  refine lv_iadd hx hb dL_law_875 ?_
  refine va_sld hx hb hX hbl hbA hS (show vp_in (nI i + 3) L from lw_in hi hL (k := 3) (by decide)) dL_law_876 ?_
  refine lv_aload_n hx hb dL_law_877 rfl (lv_at hl 0 rfl) ?_
  refine lv_iload_n hx hb dL_law_878 rfl (lv_at hl 3 rfl) ?_
  refine lv_iconst (v := 4) hx hb dL_law_879 (by decide) ?_
  refine lv_iadd hx hb dL_law_880 ?_
  refine va_sld hx hb hX hbl hbA hS (show vp_in (nI i + 4) L from lw_in hi hL (k := 4) (by decide)) dL_law_881 ?_
  obtain ⟨r, S1, S2, e1, e2, d2, I2⟩ := s_force I (xs (Int32.toNatClampNeg (nI i + 1))) (xs (Int32.toNatClampNeg (nI i + 2))) (xs (Int32.toNatClampNeg (nI i + 3))) (xs (Int32.toNatClampNeg (nI i + 4)))
  refine z_goi C0 hw hS (res := (r, S1)) (rest := []) (arr := (Value.ref (F 20) :: [.int (xs (Int32.toNatClampNeg (nI i + 1))), .int (xs (Int32.toNatClampNeg (nI i + 2))), .int (xs (Int32.toNatClampNeg (nI i + 3))), .int (xs (Int32.toNatClampNeg (nI i + 4)))]).toArray) ?_ (fun H locs hw hS => ?_)
  · exact va_runV (z_fix C0) (c_X11_force l D Y F G S _ (xs (Int32.toNatClampNeg (nI i + 1))) (xs (Int32.toNatClampNeg (nI i + 2))) (xs (Int32.toNatClampNeg (nI i + 3))) (xs (Int32.toNatClampNeg (nI i + 4))) (r, S1) e1) (cwV 4 hts gL_law_X11_force rfl rfl rfl (by decide +kernel) ⟨Nat.le_of_ble_eq_true rfl, Nat.le_of_ble_eq_true rfl⟩) ⟨zPc_blind, z_rv C0 hw (k := 20) rfl rfl rfl rfl, z_give C0 hw hS _⟩ rfl rfl hl.1 rfl (lv_room (Nat.le_of_ble_eq_true rfl)) dL_law_882 ⟨by rw [hrc]; omega, by rw [hrs]; omega⟩
  refine lv_aload_n hx hb dL_law_885 rfl (lv_at hl 2 rfl) ?_
  refine lv_aload_n hx hb dL_law_886 rfl (lv_at hl 0 rfl) ?_
  refine lv_iload_n hx hb dL_law_887 rfl (lv_at hl 3 rfl) ?_
  refine lv_iconst (v := 1) hx hb dL_law_888 (by decide) ?_
  refine lv_iadd hx hb dL_law_889 ?_
  refine va_sld hx hb hX hbl hbA hS (show vp_in (nI i + 1) L from lw_in hi hL (k := 1) (by decide)) dL_law_890 ?_
  refine lv_aload_n hx hb dL_law_891 rfl (lv_at hl 0 rfl) ?_
  refine lv_iload_n hx hb dL_law_892 rfl (lv_at hl 3 rfl) ?_
  refine lv_iconst (v := 2) hx hb dL_law_893 (by decide) ?_
  refine lv_iadd hx hb dL_law_894 ?_
  refine va_sld hx hb hX hbl hbA hS (show vp_in (nI i + 2) L from lw_in hi hL (k := 2) (by decide)) dL_law_895 ?_
  refine lv_aload_n hx hb dL_law_896 rfl (lv_at hl 0 rfl) ?_
  refine lv_iload_n hx hb dL_law_897 rfl (lv_at hl 3 rfl) ?_
  refine lv_iconst (v := 3) hx hb dL_law_898 (by decide) ?_
  refine lv_iadd hx hb dL_law_899 ?_
  refine va_sld hx hb hX hbl hbA hS (show vp_in (nI i + 3) L from lw_in hi hL (k := 3) (by decide)) dL_law_900 ?_
  refine lv_aload_n hx hb dL_law_901 rfl (lv_at hl 0 rfl) ?_
  refine lv_iload_n hx hb dL_law_902 rfl (lv_at hl 3 rfl) ?_
  refine lv_iconst (v := 4) hx hb dL_law_903 (by decide) ?_
  refine lv_iadd hx hb dL_law_904 ?_
  refine va_sld hx hb hX hbl hbA hS (show vp_in (nI i + 4) L from lw_in hi hL (k := 4) (by decide)) dL_law_905 ?_
  refine z_goi C0 hw hS (res := (r, S2)) (rest := [.int r]) (arr := (Value.ref (F 0) :: [.int (xs (Int32.toNatClampNeg (nI i + 1))), .int (xs (Int32.toNatClampNeg (nI i + 2))), .int (xs (Int32.toNatClampNeg (nI i + 3))), .int (xs (Int32.toNatClampNeg (nI i + 4)))]).toArray) ?_ (fun H locs hw hS => ?_)
  · exact va_runV (z_fix C0) (c_X12_force l D Y F G S1 _ (xs (Int32.toNatClampNeg (nI i + 1))) (xs (Int32.toNatClampNeg (nI i + 2))) (xs (Int32.toNatClampNeg (nI i + 3))) (xs (Int32.toNatClampNeg (nI i + 4))) (r, S2) e2) (cwV 4 hts gL_law_X12_force rfl rfl rfl (by decide +kernel) ⟨Nat.le_of_ble_eq_true rfl, Nat.le_of_ble_eq_true rfl⟩) ⟨zPc_blind, z_rv C0 hw (k := 0) rfl rfl rfl rfl, z_give C0 hw hS _⟩ rfl rfl hl.1 rfl (lv_room (Nat.le_of_ble_eq_true rfl)) dL_law_906 ⟨by rw [hrc]; omega, by rw [hrs]; omega⟩
  refine lv_icmp_eq (tgt := 1653) hx hb dL_law_909 (by decide) (fun _ => ?_) (fun q => absurd rfl q)
  refine W.widen (k := cells + 692) (n := slots + 11937) (by omega) (by omega) ?_
  exact kk G _ _ _ _ I2 hw hS
set_option maxHeartbeats 4000000 in
set_option maxRecDepth 100000 in
theorem lwa_19 {p : Program} {l : Launch} {e : Env} {s : State} {m : MethodId} {below : List Frame} {meth : Method} {c : Code} {D : va_G} {Y : Nat → ClassId} {F : Nat → Nat} {A : Nat → Prop} {b L : Nat} {xs : Nat → Int32} {Q : State → Prop} (C0 : zCx p s m #[Value.ref b] meth c D Y F A RL cL_law 4 ret wsL_law) (hX : va_X b L xs s s.heap) (hbl : b < s.heap.size) (hbA : ¬ A b) {i : Nat} (hi : i + 6 ≤ L) (hL : L ≤ 3072) {cells slots : Nat} (hc1 : cells + 692 ≤ 600000) (hs1 : slots + 11937 ≤ 7302250) {G : zG} {S : zSt} {d : zD} (I : Inv (zpk G) S d) {H : Heap} {locs : List Loc} (hw : zH D Y F A G S H) (hS : va_S A s.heap H locs) {ls : Array Slot} (hl : lv_has ls 4 [(0, .ref b), (1, .ref (F 20)), (2, .ref (F 0)), (3, .int (nI i))]) (kk : ∀ (G1 : zG) (S1 : zSt) (d1 : zD) (H1 : Heap) (locs1 : List Loc), Inv (zpk G1) S1 d1 → zH D Y F A G1 S1 H1 → va_S A s.heap H1 locs1 → W p l e room_1 s m #[Value.ref b] below meth c H1 locs1 (cells + 692) (slots + 11937) Q (F0 m 1653 ls [])) : W p l e room_1 s m #[Value.ref b] below meth c H locs cells slots Q (F0 m 914 ls []) := by
  obtain ⟨hx, hb, hml, hr, hown, hts, hK, hA, hlk, hN⟩ := id C0
  have hrc := lw_rc
  have hrs := lw_rs
  refine lv_aload_n hx hb dL_law_914 rfl (lv_at hl 1 rfl) ?_
  refine lv_aload_n hx hb dL_law_915 rfl (lv_at hl 0 rfl) ?_
  refine lv_iload_n hx hb dL_law_916 rfl (lv_at hl 3 rfl) ?_
  refine lv_iconst (v := 1) hx hb dL_law_917 (by decide) ?_
  refine lv_iadd hx hb dL_law_918 ?_
  refine va_sld hx hb hX hbl hbA hS (show vp_in (nI i + 1) L from lw_in hi hL (k := 1) (by decide)) dL_law_919 ?_
  refine lv_aload_n hx hb dL_law_920 rfl (lv_at hl 0 rfl) ?_
  refine lv_iload_n hx hb dL_law_921 rfl (lv_at hl 3 rfl) ?_
  refine lv_iconst (v := 2) hx hb dL_law_922 (by decide) ?_
  refine lv_iadd hx hb dL_law_923 ?_
  refine va_sld hx hb hX hbl hbA hS (show vp_in (nI i + 2) L from lw_in hi hL (k := 2) (by decide)) dL_law_924 ?_
  refine lv_aload_n hx hb dL_law_925 rfl (lv_at hl 0 rfl) ?_
  refine lv_iload_n hx hb dL_law_926 rfl (lv_at hl 3 rfl) ?_
  refine lv_iconst (v := 3) hx hb dL_law_927 (by decide) ?_
  refine lv_iadd hx hb dL_law_928 ?_
  refine va_sld hx hb hX hbl hbA hS (show vp_in (nI i + 3) L from lw_in hi hL (k := 3) (by decide)) dL_law_929 ?_
  obtain ⟨r, S1, S2, e1, e2, d2, I2⟩ := s_got I (xs (Int32.toNatClampNeg (nI i + 1))) (xs (Int32.toNatClampNeg (nI i + 2))) (xs (Int32.toNatClampNeg (nI i + 3)))
  refine z_goi C0 hw hS (res := (r, S1)) (rest := []) (arr := (Value.ref (F 20) :: [.int (xs (Int32.toNatClampNeg (nI i + 1))), .int (xs (Int32.toNatClampNeg (nI i + 2))), .int (xs (Int32.toNatClampNeg (nI i + 3)))]).toArray) ?_ (fun H locs hw hS => ?_)
  · exact va_runV (z_fix C0) (c_X11_got l D Y F G S _ (xs (Int32.toNatClampNeg (nI i + 1))) (xs (Int32.toNatClampNeg (nI i + 2))) (xs (Int32.toNatClampNeg (nI i + 3))) (r, S1) e1) (cwV 3 hts gL_law_X11_got rfl rfl rfl (by decide +kernel) ⟨Nat.le_of_ble_eq_true rfl, Nat.le_of_ble_eq_true rfl⟩) ⟨zPc_blind, z_rv C0 hw (k := 20) rfl rfl rfl rfl, z_give C0 hw hS _⟩ rfl rfl hl.1 rfl (lv_room (Nat.le_of_ble_eq_true rfl)) dL_law_930 ⟨by rw [hrc]; omega, by rw [hrs]; omega⟩
  refine lv_aload_n hx hb dL_law_933 rfl (lv_at hl 2 rfl) ?_
  refine lv_aload_n hx hb dL_law_934 rfl (lv_at hl 0 rfl) ?_
  refine lv_iload_n hx hb dL_law_935 rfl (lv_at hl 3 rfl) ?_
  refine lv_iconst (v := 1) hx hb dL_law_936 (by decide) ?_
  refine lv_iadd hx hb dL_law_937 ?_
  refine va_sld hx hb hX hbl hbA hS (show vp_in (nI i + 1) L from lw_in hi hL (k := 1) (by decide)) dL_law_938 ?_
  refine lv_aload_n hx hb dL_law_939 rfl (lv_at hl 0 rfl) ?_
  refine lv_iload_n hx hb dL_law_940 rfl (lv_at hl 3 rfl) ?_
  refine lv_iconst (v := 2) hx hb dL_law_941 (by decide) ?_
  refine lv_iadd hx hb dL_law_942 ?_
  refine va_sld hx hb hX hbl hbA hS (show vp_in (nI i + 2) L from lw_in hi hL (k := 2) (by decide)) dL_law_943 ?_
  refine lv_aload_n hx hb dL_law_944 rfl (lv_at hl 0 rfl) ?_
  refine lv_iload_n hx hb dL_law_945 rfl (lv_at hl 3 rfl) ?_
  refine lv_iconst (v := 3) hx hb dL_law_946 (by decide) ?_
  refine lv_iadd hx hb dL_law_947 ?_
  refine va_sld hx hb hX hbl hbA hS (show vp_in (nI i + 3) L from lw_in hi hL (k := 3) (by decide)) dL_law_948 ?_
  refine z_goi C0 hw hS (res := (r, S2)) (rest := [.int r]) (arr := (Value.ref (F 0) :: [.int (xs (Int32.toNatClampNeg (nI i + 1))), .int (xs (Int32.toNatClampNeg (nI i + 2))), .int (xs (Int32.toNatClampNeg (nI i + 3)))]).toArray) ?_ (fun H locs hw hS => ?_)
  · exact va_runV (z_fix C0) (c_X12_got l D Y F G S1 _ (xs (Int32.toNatClampNeg (nI i + 1))) (xs (Int32.toNatClampNeg (nI i + 2))) (xs (Int32.toNatClampNeg (nI i + 3))) (r, S2) e2) (cwV 3 hts gL_law_X12_got rfl rfl rfl (by decide +kernel) ⟨Nat.le_of_ble_eq_true rfl, Nat.le_of_ble_eq_true rfl⟩) ⟨zPc_blind, z_rv C0 hw (k := 0) rfl rfl rfl rfl, z_give C0 hw hS _⟩ rfl rfl hl.1 rfl (lv_room (Nat.le_of_ble_eq_true rfl)) dL_law_949 ⟨by rw [hrc]; omega, by rw [hrs]; omega⟩
  refine lv_icmp_eq (tgt := 1653) hx hb dL_law_952 (by decide) (fun _ => ?_) (fun q => absurd rfl q)
  refine W.widen (k := cells + 692) (n := slots + 11937) (by omega) (by omega) ?_
  exact kk G _ _ _ _ I2 hw hS
set_option maxHeartbeats 4000000 in
set_option maxRecDepth 100000 in
theorem lwa_20 {p : Program} {l : Launch} {e : Env} {s : State} {m : MethodId} {below : List Frame} {meth : Method} {c : Code} {D : va_G} {Y : Nat → ClassId} {F : Nat → Nat} {A : Nat → Prop} {b L : Nat} {xs : Nat → Int32} {Q : State → Prop} (C0 : zCx p s m #[Value.ref b] meth c D Y F A RL cL_law 4 ret wsL_law) (hX : va_X b L xs s s.heap) (hbl : b < s.heap.size) (hbA : ¬ A b) {i : Nat} (hi : i + 6 ≤ L) (hL : L ≤ 3072) {cells slots : Nat} (hc1 : cells + 692 ≤ 600000) (hs1 : slots + 11937 ≤ 7302250) {G : zG} {S : zSt} {d : zD} (I : Inv (zpk G) S d) {H : Heap} {locs : List Loc} (hw : zH D Y F A G S H) (hS : va_S A s.heap H locs) {ls : Array Slot} (hl : lv_has ls 4 [(0, .ref b), (1, .ref (F 20)), (2, .ref (F 0)), (3, .int (nI i))]) (kk : ∀ (G1 : zG) (S1 : zSt) (d1 : zD) (H1 : Heap) (locs1 : List Loc), Inv (zpk G1) S1 d1 → zH D Y F A G1 S1 H1 → va_S A s.heap H1 locs1 → W p l e room_1 s m #[Value.ref b] below meth c H1 locs1 (cells + 692) (slots + 11937) Q (F0 m 1653 ls [])) : W p l e room_1 s m #[Value.ref b] below meth c H locs cells slots Q (F0 m 957 ls []) := by
  obtain ⟨hx, hb, hml, hr, hown, hts, hK, hA, hlk, hN⟩ := id C0
  have hrc := lw_rc
  have hrs := lw_rs
  refine lv_aload_n hx hb dL_law_957 rfl (lv_at hl 1 rfl) ?_
  refine lv_aload_n hx hb dL_law_958 rfl (lv_at hl 0 rfl) ?_
  refine lv_iload_n hx hb dL_law_959 rfl (lv_at hl 3 rfl) ?_
  refine lv_iconst (v := 1) hx hb dL_law_960 (by decide) ?_
  refine lv_iadd hx hb dL_law_961 ?_
  refine va_sld hx hb hX hbl hbA hS (show vp_in (nI i + 1) L from lw_in hi hL (k := 1) (by decide)) dL_law_962 ?_
  refine lv_aload_n hx hb dL_law_963 rfl (lv_at hl 0 rfl) ?_
  refine lv_iload_n hx hb dL_law_964 rfl (lv_at hl 3 rfl) ?_
  refine lv_iconst (v := 2) hx hb dL_law_965 (by decide) ?_
  refine lv_iadd hx hb dL_law_966 ?_
  refine va_sld hx hb hX hbl hbA hS (show vp_in (nI i + 2) L from lw_in hi hL (k := 2) (by decide)) dL_law_967 ?_
  refine lv_aload_n hx hb dL_law_968 rfl (lv_at hl 0 rfl) ?_
  refine lv_iload_n hx hb dL_law_969 rfl (lv_at hl 3 rfl) ?_
  refine lv_iconst (v := 3) hx hb dL_law_970 (by decide) ?_
  refine lv_iadd hx hb dL_law_971 ?_
  refine va_sld hx hb hX hbl hbA hS (show vp_in (nI i + 3) L from lw_in hi hL (k := 3) (by decide)) dL_law_972 ?_
  refine lv_aload_n hx hb dL_law_973 rfl (lv_at hl 0 rfl) ?_
  refine lv_iload_n hx hb dL_law_974 rfl (lv_at hl 3 rfl) ?_
  refine lv_iconst (v := 4) hx hb dL_law_975 (by decide) ?_
  refine lv_iadd hx hb dL_law_976 ?_
  refine va_sld hx hb hX hbl hbA hS (show vp_in (nI i + 4) L from lw_in hi hL (k := 4) (by decide)) dL_law_977 ?_
  obtain ⟨r, S1, S2, e1, e2, d2, I2⟩ := s_which I (xs (Int32.toNatClampNeg (nI i + 1))) (xs (Int32.toNatClampNeg (nI i + 2))) (xs (Int32.toNatClampNeg (nI i + 3))) (xs (Int32.toNatClampNeg (nI i + 4)))
  refine z_goi C0 hw hS (res := (r, S1)) (rest := []) (arr := (Value.ref (F 20) :: [.int (xs (Int32.toNatClampNeg (nI i + 1))), .int (xs (Int32.toNatClampNeg (nI i + 2))), .int (xs (Int32.toNatClampNeg (nI i + 3))), .int (xs (Int32.toNatClampNeg (nI i + 4)))]).toArray) ?_ (fun H locs hw hS => ?_)
  · exact va_runV (z_fix C0) (c_X11_which l D Y F G S _ (xs (Int32.toNatClampNeg (nI i + 1))) (xs (Int32.toNatClampNeg (nI i + 2))) (xs (Int32.toNatClampNeg (nI i + 3))) (xs (Int32.toNatClampNeg (nI i + 4))) (r, S1) e1) (cwV 4 hts gL_law_X11_which rfl rfl rfl (by decide +kernel) ⟨Nat.le_of_ble_eq_true rfl, Nat.le_of_ble_eq_true rfl⟩) ⟨zPc_blind, z_rv C0 hw (k := 20) rfl rfl rfl rfl, z_give C0 hw hS _⟩ rfl rfl hl.1 rfl (lv_room (Nat.le_of_ble_eq_true rfl)) dL_law_978 ⟨by rw [hrc]; omega, by rw [hrs]; omega⟩
  refine lv_aload_n hx hb dL_law_981 rfl (lv_at hl 2 rfl) ?_
  refine lv_aload_n hx hb dL_law_982 rfl (lv_at hl 0 rfl) ?_
  refine lv_iload_n hx hb dL_law_983 rfl (lv_at hl 3 rfl) ?_
  refine lv_iconst (v := 1) hx hb dL_law_984 (by decide) ?_
  refine lv_iadd hx hb dL_law_985 ?_
  refine va_sld hx hb hX hbl hbA hS (show vp_in (nI i + 1) L from lw_in hi hL (k := 1) (by decide)) dL_law_986 ?_
  refine lv_aload_n hx hb dL_law_987 rfl (lv_at hl 0 rfl) ?_
  refine lv_iload_n hx hb dL_law_988 rfl (lv_at hl 3 rfl) ?_
  refine lv_iconst (v := 2) hx hb dL_law_989 (by decide) ?_
  refine lv_iadd hx hb dL_law_990 ?_
  refine va_sld hx hb hX hbl hbA hS (show vp_in (nI i + 2) L from lw_in hi hL (k := 2) (by decide)) dL_law_991 ?_
  refine lv_aload_n hx hb dL_law_992 rfl (lv_at hl 0 rfl) ?_
  refine lv_iload_n hx hb dL_law_993 rfl (lv_at hl 3 rfl) ?_
  refine lv_iconst (v := 3) hx hb dL_law_994 (by decide) ?_
  refine lv_iadd hx hb dL_law_995 ?_
  refine va_sld hx hb hX hbl hbA hS (show vp_in (nI i + 3) L from lw_in hi hL (k := 3) (by decide)) dL_law_996 ?_
  refine lv_aload_n hx hb dL_law_997 rfl (lv_at hl 0 rfl) ?_
  refine lv_iload_n hx hb dL_law_998 rfl (lv_at hl 3 rfl) ?_
  refine lv_iconst (v := 4) hx hb dL_law_999 (by decide) ?_
  refine lv_iadd hx hb dL_law_1000 ?_
  refine va_sld hx hb hX hbl hbA hS (show vp_in (nI i + 4) L from lw_in hi hL (k := 4) (by decide)) dL_law_1001 ?_
  refine z_goi C0 hw hS (res := (r, S2)) (rest := [.int r]) (arr := (Value.ref (F 0) :: [.int (xs (Int32.toNatClampNeg (nI i + 1))), .int (xs (Int32.toNatClampNeg (nI i + 2))), .int (xs (Int32.toNatClampNeg (nI i + 3))), .int (xs (Int32.toNatClampNeg (nI i + 4)))]).toArray) ?_ (fun H locs hw hS => ?_)
  · exact va_runV (z_fix C0) (c_X12_which l D Y F G S1 _ (xs (Int32.toNatClampNeg (nI i + 1))) (xs (Int32.toNatClampNeg (nI i + 2))) (xs (Int32.toNatClampNeg (nI i + 3))) (xs (Int32.toNatClampNeg (nI i + 4))) (r, S2) e2) (cwV 4 hts gL_law_X12_which rfl rfl rfl (by decide +kernel) ⟨Nat.le_of_ble_eq_true rfl, Nat.le_of_ble_eq_true rfl⟩) ⟨zPc_blind, z_rv C0 hw (k := 0) rfl rfl rfl rfl, z_give C0 hw hS _⟩ rfl rfl hl.1 rfl (lv_room (Nat.le_of_ble_eq_true rfl)) dL_law_1002 ⟨by rw [hrc]; omega, by rw [hrs]; omega⟩
  refine lv_icmp_eq (tgt := 1653) hx hb dL_law_1005 (by decide) (fun _ => ?_) (fun q => absurd rfl q)
  refine W.widen (k := cells + 692) (n := slots + 11937) (by omega) (by omega) ?_
  exact kk G _ _ _ _ I2 hw hS
set_option maxHeartbeats 4000000 in
set_option maxRecDepth 100000 in
theorem lwa_21 {p : Program} {l : Launch} {e : Env} {s : State} {m : MethodId} {below : List Frame} {meth : Method} {c : Code} {D : va_G} {Y : Nat → ClassId} {F : Nat → Nat} {A : Nat → Prop} {b L : Nat} {xs : Nat → Int32} {Q : State → Prop} (C0 : zCx p s m #[Value.ref b] meth c D Y F A RL cL_law 4 ret wsL_law) (hX : va_X b L xs s s.heap) (hbl : b < s.heap.size) (hbA : ¬ A b) {i : Nat} (hi : i + 6 ≤ L) (hL : L ≤ 3072) {cells slots : Nat} (hc1 : cells + 692 ≤ 600000) (hs1 : slots + 11937 ≤ 7302250) {G : zG} {S : zSt} {d : zD} (I : Inv (zpk G) S d) {H : Heap} {locs : List Loc} (hw : zH D Y F A G S H) (hS : va_S A s.heap H locs) {ls : Array Slot} (hl : lv_has ls 4 [(0, .ref b), (1, .ref (F 20)), (2, .ref (F 0)), (3, .int (nI i))]) (kk : ∀ (G1 : zG) (S1 : zSt) (d1 : zD) (H1 : Heap) (locs1 : List Loc), Inv (zpk G1) S1 d1 → zH D Y F A G1 S1 H1 → va_S A s.heap H1 locs1 → W p l e room_1 s m #[Value.ref b] below meth c H1 locs1 (cells + 692) (slots + 11937) Q (F0 m 1653 ls [])) : W p l e room_1 s m #[Value.ref b] below meth c H locs cells slots Q (F0 m 1010 ls []) := by
  obtain ⟨hx, hb, hml, hr, hown, hts, hK, hA, hlk, hN⟩ := id C0
  have hrc := lw_rc
  have hrs := lw_rs
  refine lv_aload_n hx hb dL_law_1010 rfl (lv_at hl 1 rfl) ?_
  refine lv_aload_n hx hb dL_law_1011 rfl (lv_at hl 0 rfl) ?_
  refine lv_iload_n hx hb dL_law_1012 rfl (lv_at hl 3 rfl) ?_
  refine lv_iconst (v := 1) hx hb dL_law_1013 (by decide) ?_
  refine lv_iadd hx hb dL_law_1014 ?_
  refine va_sld hx hb hX hbl hbA hS (show vp_in (nI i + 1) L from lw_in hi hL (k := 1) (by decide)) dL_law_1015 ?_
  refine lv_aload_n hx hb dL_law_1016 rfl (lv_at hl 0 rfl) ?_
  refine lv_iload_n hx hb dL_law_1017 rfl (lv_at hl 3 rfl) ?_
  refine lv_iconst (v := 2) hx hb dL_law_1018 (by decide) ?_
  refine lv_iadd hx hb dL_law_1019 ?_
  refine va_sld hx hb hX hbl hbA hS (show vp_in (nI i + 2) L from lw_in hi hL (k := 2) (by decide)) dL_law_1020 ?_
  refine lv_aload_n hx hb dL_law_1021 rfl (lv_at hl 0 rfl) ?_
  refine lv_iload_n hx hb dL_law_1022 rfl (lv_at hl 3 rfl) ?_
  refine lv_iconst (v := 3) hx hb dL_law_1023 (by decide) ?_
  refine lv_iadd hx hb dL_law_1024 ?_
  refine va_sld hx hb hX hbl hbA hS (show vp_in (nI i + 3) L from lw_in hi hL (k := 3) (by decide)) dL_law_1025 ?_
  obtain ⟨r, S1, S2, e1, e2, d2, I2⟩ := s_next I (xs (Int32.toNatClampNeg (nI i + 1))) (xs (Int32.toNatClampNeg (nI i + 2))) (xs (Int32.toNatClampNeg (nI i + 3)))
  refine z_goi C0 hw hS (res := (r, S1)) (rest := []) (arr := (Value.ref (F 20) :: [.int (xs (Int32.toNatClampNeg (nI i + 1))), .int (xs (Int32.toNatClampNeg (nI i + 2))), .int (xs (Int32.toNatClampNeg (nI i + 3)))]).toArray) ?_ (fun H locs hw hS => ?_)
  · exact va_runV (z_fix C0) (c_X11_next l D Y F G S _ (xs (Int32.toNatClampNeg (nI i + 1))) (xs (Int32.toNatClampNeg (nI i + 2))) (xs (Int32.toNatClampNeg (nI i + 3))) (r, S1) e1) (cwV 3 hts gL_law_X11_next rfl rfl rfl (by decide +kernel) ⟨Nat.le_of_ble_eq_true rfl, Nat.le_of_ble_eq_true rfl⟩) ⟨zPc_blind, z_rv C0 hw (k := 20) rfl rfl rfl rfl, z_give C0 hw hS _⟩ rfl rfl hl.1 rfl (lv_room (Nat.le_of_ble_eq_true rfl)) dL_law_1026 ⟨by rw [hrc]; omega, by rw [hrs]; omega⟩
  refine lv_aload_n hx hb dL_law_1029 rfl (lv_at hl 2 rfl) ?_
  refine lv_aload_n hx hb dL_law_1030 rfl (lv_at hl 0 rfl) ?_
  refine lv_iload_n hx hb dL_law_1031 rfl (lv_at hl 3 rfl) ?_
  refine lv_iconst (v := 1) hx hb dL_law_1032 (by decide) ?_
  refine lv_iadd hx hb dL_law_1033 ?_
  refine va_sld hx hb hX hbl hbA hS (show vp_in (nI i + 1) L from lw_in hi hL (k := 1) (by decide)) dL_law_1034 ?_
  refine lv_aload_n hx hb dL_law_1035 rfl (lv_at hl 0 rfl) ?_
  refine lv_iload_n hx hb dL_law_1036 rfl (lv_at hl 3 rfl) ?_
  refine lv_iconst (v := 2) hx hb dL_law_1037 (by decide) ?_
  refine lv_iadd hx hb dL_law_1038 ?_
  refine va_sld hx hb hX hbl hbA hS (show vp_in (nI i + 2) L from lw_in hi hL (k := 2) (by decide)) dL_law_1039 ?_
  refine lv_aload_n hx hb dL_law_1040 rfl (lv_at hl 0 rfl) ?_
  refine lv_iload_n hx hb dL_law_1041 rfl (lv_at hl 3 rfl) ?_
  refine lv_iconst (v := 3) hx hb dL_law_1042 (by decide) ?_
  refine lv_iadd hx hb dL_law_1043 ?_
  refine va_sld hx hb hX hbl hbA hS (show vp_in (nI i + 3) L from lw_in hi hL (k := 3) (by decide)) dL_law_1044 ?_
  refine z_goi C0 hw hS (res := (r, S2)) (rest := [.int r]) (arr := (Value.ref (F 0) :: [.int (xs (Int32.toNatClampNeg (nI i + 1))), .int (xs (Int32.toNatClampNeg (nI i + 2))), .int (xs (Int32.toNatClampNeg (nI i + 3)))]).toArray) ?_ (fun H locs hw hS => ?_)
  · exact va_runV (z_fix C0) (c_X12_next l D Y F G S1 _ (xs (Int32.toNatClampNeg (nI i + 1))) (xs (Int32.toNatClampNeg (nI i + 2))) (xs (Int32.toNatClampNeg (nI i + 3))) (r, S2) e2) (cwV 3 hts gL_law_X12_next rfl rfl rfl (by decide +kernel) ⟨Nat.le_of_ble_eq_true rfl, Nat.le_of_ble_eq_true rfl⟩) ⟨zPc_blind, z_rv C0 hw (k := 0) rfl rfl rfl rfl, z_give C0 hw hS _⟩ rfl rfl hl.1 rfl (lv_room (Nat.le_of_ble_eq_true rfl)) dL_law_1045 ⟨by rw [hrc]; omega, by rw [hrs]; omega⟩
  refine lv_icmp_eq (tgt := 1653) hx hb dL_law_1048 (by decide) (fun _ => ?_) (fun q => absurd rfl q)
  refine W.widen (k := cells + 692) (n := slots + 11937) (by omega) (by omega) ?_
  exact kk G _ _ _ _ I2 hw hS
