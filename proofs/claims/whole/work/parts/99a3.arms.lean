set_option maxHeartbeats 4000000 in
set_option maxRecDepth 100000 in
theorem lwa_22 {p : Program} {l : Launch} {e : Env} {s : State} {m : MethodId} {below : List Frame} {meth : Method} {c : Code} {D : va_G} {Y : Nat → ClassId} {F : Nat → Nat} {A : Nat → Prop} {b L : Nat} {xs : Nat → Int32} {Q : State → Prop} (C0 : zCx p s m #[Value.ref b] meth c D Y F A RL cL_law 4 ret wsL_law) (hX : va_X b L xs s s.heap) (hbl : b < s.heap.size) (hbA : ¬ A b) {i : Nat} (hi : i + 6 ≤ L) (hL : L ≤ 3072) {cells slots : Nat} (hc1 : cells + 692 ≤ 600000) (hs1 : slots + 11937 ≤ 7302250) {G : zG} {S : zSt} {d : zD} (I : Inv (zpk G) S d) {H : Heap} {locs : List Loc} (hw : zH D Y F A G S H) (hS : va_S A s.heap H locs) {ls : Array Slot} (hl : lv_has ls 4 [(0, .ref b), (1, .ref (F 20)), (2, .ref (F 0)), (3, .int (nI i))]) (kk : ∀ (G1 : zG) (S1 : zSt) (d1 : zD) (H1 : Heap) (locs1 : List Loc), Inv (zpk G1) S1 d1 → zH D Y F A G1 S1 H1 → va_S A s.heap H1 locs1 → W p l e room_1 s m #[Value.ref b] below meth c H1 locs1 (cells + 692) (slots + 11937) Q (F0 m 1653 ls [])) : W p l e room_1 s m #[Value.ref b] below meth c H locs cells slots Q (F0 m 1053 ls []) := by
  obtain ⟨hx, hb, hml, hr, hown, hts, hK, hA, hlk, hN⟩ := id C0
  have hrc := lw_rc
  have hrs := lw_rs
  refine lv_aload_n hx hb dL_law_1053 rfl (lv_at hl 1 rfl) ?_
  refine lv_aload_n hx hb dL_law_1054 rfl (lv_at hl 0 rfl) ?_
  refine lv_iload_n hx hb dL_law_1055 rfl (lv_at hl 3 rfl) ?_
  refine lv_iconst (v := 1) hx hb dL_law_1056 (by decide) ?_
  refine lv_iadd hx hb dL_law_1057 ?_
  refine va_sld hx hb hX hbl hbA hS (show vp_in (nI i + 1) L from lw_in hi hL (k := 1) (by decide)) dL_law_1058 ?_
  refine lv_aload_n hx hb dL_law_1059 rfl (lv_at hl 0 rfl) ?_
  refine lv_iload_n hx hb dL_law_1060 rfl (lv_at hl 3 rfl) ?_
  refine lv_iconst (v := 2) hx hb dL_law_1061 (by decide) ?_
  refine lv_iadd hx hb dL_law_1062 ?_
  refine va_sld hx hb hX hbl hbA hS (show vp_in (nI i + 2) L from lw_in hi hL (k := 2) (by decide)) dL_law_1063 ?_
  obtain ⟨r, S1, S2, e1, e2, d2, I2⟩ := s_unlike I (xs (Int32.toNatClampNeg (nI i + 1))) (xs (Int32.toNatClampNeg (nI i + 2)))
  refine z_goi C0 hw hS (res := (r, S1)) (rest := []) (arr := (Value.ref (F 20) :: [.int (xs (Int32.toNatClampNeg (nI i + 1))), .int (xs (Int32.toNatClampNeg (nI i + 2)))]).toArray) ?_ (fun H locs hw hS => ?_)
  · exact va_runV (z_fix C0) (c_X11_unlike l D Y F G S _ (xs (Int32.toNatClampNeg (nI i + 1))) (xs (Int32.toNatClampNeg (nI i + 2))) (r, S1) e1) (cwV 2 hts gL_law_X11_unlike rfl rfl rfl (by decide +kernel) ⟨Nat.le_of_ble_eq_true rfl, Nat.le_of_ble_eq_true rfl⟩) ⟨zPc_blind, z_rv C0 hw (k := 20) rfl rfl rfl rfl, z_give C0 hw hS _⟩ rfl rfl hl.1 rfl (lv_room (Nat.le_of_ble_eq_true rfl)) dL_law_1064 ⟨by rw [hrc]; omega, by rw [hrs]; omega⟩
  refine lv_aload_n hx hb dL_law_1067 rfl (lv_at hl 2 rfl) ?_
  refine lv_aload_n hx hb dL_law_1068 rfl (lv_at hl 0 rfl) ?_
  refine lv_iload_n hx hb dL_law_1069 rfl (lv_at hl 3 rfl) ?_
  refine lv_iconst (v := 1) hx hb dL_law_1070 (by decide) ?_
  refine lv_iadd hx hb dL_law_1071 ?_
  refine va_sld hx hb hX hbl hbA hS (show vp_in (nI i + 1) L from lw_in hi hL (k := 1) (by decide)) dL_law_1072 ?_
  refine lv_aload_n hx hb dL_law_1073 rfl (lv_at hl 0 rfl) ?_
  refine lv_iload_n hx hb dL_law_1074 rfl (lv_at hl 3 rfl) ?_
  refine lv_iconst (v := 2) hx hb dL_law_1075 (by decide) ?_
  refine lv_iadd hx hb dL_law_1076 ?_
  refine va_sld hx hb hX hbl hbA hS (show vp_in (nI i + 2) L from lw_in hi hL (k := 2) (by decide)) dL_law_1077 ?_
  refine z_goi C0 hw hS (res := (r, S2)) (rest := [.int r]) (arr := (Value.ref (F 0) :: [.int (xs (Int32.toNatClampNeg (nI i + 1))), .int (xs (Int32.toNatClampNeg (nI i + 2)))]).toArray) ?_ (fun H locs hw hS => ?_)
  · exact va_runV (z_fix C0) (c_X12_unlike l D Y F G S1 _ (xs (Int32.toNatClampNeg (nI i + 1))) (xs (Int32.toNatClampNeg (nI i + 2))) (r, S2) e2) (cwV 2 hts gL_law_X12_unlike rfl rfl rfl (by decide +kernel) ⟨Nat.le_of_ble_eq_true rfl, Nat.le_of_ble_eq_true rfl⟩) ⟨zPc_blind, z_rv C0 hw (k := 0) rfl rfl rfl rfl, z_give C0 hw hS _⟩ rfl rfl hl.1 rfl (lv_room (Nat.le_of_ble_eq_true rfl)) dL_law_1078 ⟨by rw [hrc]; omega, by rw [hrs]; omega⟩
  refine lv_icmp_eq (tgt := 1653) hx hb dL_law_1081 (by decide) (fun _ => ?_) (fun q => absurd rfl q)
  refine W.widen (k := cells + 692) (n := slots + 11937) (by omega) (by omega) ?_
  exact kk G _ _ _ _ I2 hw hS
set_option maxHeartbeats 4000000 in
set_option maxRecDepth 100000 in
theorem lwa_23 {p : Program} {l : Launch} {e : Env} {s : State} {m : MethodId} {below : List Frame} {meth : Method} {c : Code} {D : va_G} {Y : Nat → ClassId} {F : Nat → Nat} {A : Nat → Prop} {b L : Nat} {xs : Nat → Int32} {Q : State → Prop} (C0 : zCx p s m #[Value.ref b] meth c D Y F A RL cL_law 4 ret wsL_law) (hX : va_X b L xs s s.heap) (hbl : b < s.heap.size) (hbA : ¬ A b) {i : Nat} (hi : i + 6 ≤ L) (hL : L ≤ 3072) {cells slots : Nat} (hc1 : cells + 692 ≤ 600000) (hs1 : slots + 11937 ≤ 7302250) {G : zG} {S : zSt} {d : zD} (I : Inv (zpk G) S d) {H : Heap} {locs : List Loc} (hw : zH D Y F A G S H) (hS : va_S A s.heap H locs) {ls : Array Slot} (hl : lv_has ls 4 [(0, .ref b), (1, .ref (F 20)), (2, .ref (F 0)), (3, .int (nI i))]) (kk : ∀ (G1 : zG) (S1 : zSt) (d1 : zD) (H1 : Heap) (locs1 : List Loc), Inv (zpk G1) S1 d1 → zH D Y F A G1 S1 H1 → va_S A s.heap H1 locs1 → W p l e room_1 s m #[Value.ref b] below meth c H1 locs1 (cells + 692) (slots + 11937) Q (F0 m 1653 ls [])) : W p l e room_1 s m #[Value.ref b] below meth c H locs cells slots Q (F0 m 1086 ls []) := by
  obtain ⟨hx, hb, hml, hr, hown, hts, hK, hA, hlk, hN⟩ := id C0
  have hrc := lw_rc
  have hrs := lw_rs
  refine lv_aload_n hx hb dL_law_1086 rfl (lv_at hl 1 rfl) ?_
  refine lv_aload_n hx hb dL_law_1087 rfl (lv_at hl 0 rfl) ?_
  refine lv_iload_n hx hb dL_law_1088 rfl (lv_at hl 3 rfl) ?_
  refine lv_iconst (v := 1) hx hb dL_law_1089 (by decide) ?_
  refine lv_iadd hx hb dL_law_1090 ?_
  refine va_sld hx hb hX hbl hbA hS (show vp_in (nI i + 1) L from lw_in hi hL (k := 1) (by decide)) dL_law_1091 ?_
  obtain ⟨r, S1, S2, e1, e2, d2, I2⟩ := s_odd I (xs (Int32.toNatClampNeg (nI i + 1)))
  refine z_goi C0 hw hS (res := (r, S1)) (rest := []) (arr := (Value.ref (F 20) :: [.int (xs (Int32.toNatClampNeg (nI i + 1)))]).toArray) ?_ (fun H locs hw hS => ?_)
  · exact va_runV (z_fix C0) (c_X11_odd l D Y F G S _ (xs (Int32.toNatClampNeg (nI i + 1))) (r, S1) e1) (cwV 1 hts gL_law_X11_odd rfl rfl rfl (by decide +kernel) ⟨Nat.le_of_ble_eq_true rfl, Nat.le_of_ble_eq_true rfl⟩) ⟨zPc_blind, z_rv C0 hw (k := 20) rfl rfl rfl rfl, z_give C0 hw hS _⟩ rfl rfl hl.1 rfl (lv_room (Nat.le_of_ble_eq_true rfl)) dL_law_1092 ⟨by rw [hrc]; omega, by rw [hrs]; omega⟩
  refine lv_aload_n hx hb dL_law_1095 rfl (lv_at hl 2 rfl) ?_
  refine lv_aload_n hx hb dL_law_1096 rfl (lv_at hl 0 rfl) ?_
  refine lv_iload_n hx hb dL_law_1097 rfl (lv_at hl 3 rfl) ?_
  refine lv_iconst (v := 1) hx hb dL_law_1098 (by decide) ?_
  refine lv_iadd hx hb dL_law_1099 ?_
  refine va_sld hx hb hX hbl hbA hS (show vp_in (nI i + 1) L from lw_in hi hL (k := 1) (by decide)) dL_law_1100 ?_
  refine z_goi C0 hw hS (res := (r, S2)) (rest := [.int r]) (arr := (Value.ref (F 0) :: [.int (xs (Int32.toNatClampNeg (nI i + 1)))]).toArray) ?_ (fun H locs hw hS => ?_)
  · exact va_runV (z_fix C0) (c_X12_odd l D Y F G S1 _ (xs (Int32.toNatClampNeg (nI i + 1))) (r, S2) e2) (cwV 1 hts gL_law_X12_odd rfl rfl rfl (by decide +kernel) ⟨Nat.le_of_ble_eq_true rfl, Nat.le_of_ble_eq_true rfl⟩) ⟨zPc_blind, z_rv C0 hw (k := 0) rfl rfl rfl rfl, z_give C0 hw hS _⟩ rfl rfl hl.1 rfl (lv_room (Nat.le_of_ble_eq_true rfl)) dL_law_1101 ⟨by rw [hrc]; omega, by rw [hrs]; omega⟩
  refine lv_icmp_eq (tgt := 1653) hx hb dL_law_1104 (by decide) (fun _ => ?_) (fun q => absurd rfl q)
  refine W.widen (k := cells + 692) (n := slots + 11937) (by omega) (by omega) ?_
  exact kk G _ _ _ _ I2 hw hS
set_option maxHeartbeats 4000000 in
set_option maxRecDepth 100000 in
theorem lwa_24 {p : Program} {l : Launch} {e : Env} {s : State} {m : MethodId} {below : List Frame} {meth : Method} {c : Code} {D : va_G} {Y : Nat → ClassId} {F : Nat → Nat} {A : Nat → Prop} {b L : Nat} {xs : Nat → Int32} {Q : State → Prop} (C0 : zCx p s m #[Value.ref b] meth c D Y F A RL cL_law 4 ret wsL_law) (hX : va_X b L xs s s.heap) (hbl : b < s.heap.size) (hbA : ¬ A b) {i : Nat} (hi : i + 6 ≤ L) (hL : L ≤ 3072) {cells slots : Nat} (hc1 : cells + 692 ≤ 600000) (hs1 : slots + 11937 ≤ 7302250) {G : zG} {S : zSt} {d : zD} (I : Inv (zpk G) S d) {H : Heap} {locs : List Loc} (hw : zH D Y F A G S H) (hS : va_S A s.heap H locs) {ls : Array Slot} (hl : lv_has ls 4 [(0, .ref b), (1, .ref (F 20)), (2, .ref (F 0)), (3, .int (nI i))]) (kk : ∀ (G1 : zG) (S1 : zSt) (d1 : zD) (H1 : Heap) (locs1 : List Loc), Inv (zpk G1) S1 d1 → zH D Y F A G1 S1 H1 → va_S A s.heap H1 locs1 → W p l e room_1 s m #[Value.ref b] below meth c H1 locs1 (cells + 692) (slots + 11937) Q (F0 m 1653 ls [])) : W p l e room_1 s m #[Value.ref b] below meth c H locs cells slots Q (F0 m 1109 ls []) := by
  obtain ⟨hx, hb, hml, hr, hown, hts, hK, hA, hlk, hN⟩ := id C0
  have hrc := lw_rc
  have hrs := lw_rs
  refine lv_aload_n hx hb dL_law_1109 rfl (lv_at hl 1 rfl) ?_
  refine lv_aload_n hx hb dL_law_1110 rfl (lv_at hl 0 rfl) ?_
  refine lv_iload_n hx hb dL_law_1111 rfl (lv_at hl 3 rfl) ?_
  refine lv_iconst (v := 1) hx hb dL_law_1112 (by decide) ?_
  refine lv_iadd hx hb dL_law_1113 ?_
  refine va_sld hx hb hX hbl hbA hS (show vp_in (nI i + 1) L from lw_in hi hL (k := 1) (by decide)) dL_law_1114 ?_
  refine lv_aload_n hx hb dL_law_1115 rfl (lv_at hl 0 rfl) ?_
  refine lv_iload_n hx hb dL_law_1116 rfl (lv_at hl 3 rfl) ?_
  refine lv_iconst (v := 2) hx hb dL_law_1117 (by decide) ?_
  refine lv_iadd hx hb dL_law_1118 ?_
  refine va_sld hx hb hX hbl hbA hS (show vp_in (nI i + 2) L from lw_in hi hL (k := 2) (by decide)) dL_law_1119 ?_
  obtain ⟨r, S1, S2, e1, e2, d2, I2⟩ := s_mend I (xs (Int32.toNatClampNeg (nI i + 1))) (xs (Int32.toNatClampNeg (nI i + 2)))
  refine z_goi C0 hw hS (res := (r, S1)) (rest := []) (arr := (Value.ref (F 20) :: [.int (xs (Int32.toNatClampNeg (nI i + 1))), .int (xs (Int32.toNatClampNeg (nI i + 2)))]).toArray) ?_ (fun H locs hw hS => ?_)
  · exact va_runV (z_fix C0) (c_X11_mend l D Y F G S _ (xs (Int32.toNatClampNeg (nI i + 1))) (xs (Int32.toNatClampNeg (nI i + 2))) (r, S1) e1) (cwV 2 hts gL_law_X11_mend rfl rfl rfl (by decide +kernel) ⟨Nat.le_of_ble_eq_true rfl, Nat.le_of_ble_eq_true rfl⟩) ⟨zPc_blind, z_rv C0 hw (k := 20) rfl rfl rfl rfl, z_give C0 hw hS _⟩ rfl rfl hl.1 rfl (lv_room (Nat.le_of_ble_eq_true rfl)) dL_law_1120 ⟨by rw [hrc]; omega, by rw [hrs]; omega⟩
  refine lv_aload_n hx hb dL_law_1123 rfl (lv_at hl 2 rfl) ?_
  refine lv_aload_n hx hb dL_law_1124 rfl (lv_at hl 0 rfl) ?_
  refine lv_iload_n hx hb dL_law_1125 rfl (lv_at hl 3 rfl) ?_
  refine lv_iconst (v := 1) hx hb dL_law_1126 (by decide) ?_
  refine lv_iadd hx hb dL_law_1127 ?_
  refine va_sld hx hb hX hbl hbA hS (show vp_in (nI i + 1) L from lw_in hi hL (k := 1) (by decide)) dL_law_1128 ?_
  refine lv_aload_n hx hb dL_law_1129 rfl (lv_at hl 0 rfl) ?_
  refine lv_iload_n hx hb dL_law_1130 rfl (lv_at hl 3 rfl) ?_
  refine lv_iconst (v := 2) hx hb dL_law_1131 (by decide) ?_
  refine lv_iadd hx hb dL_law_1132 ?_
  refine va_sld hx hb hX hbl hbA hS (show vp_in (nI i + 2) L from lw_in hi hL (k := 2) (by decide)) dL_law_1133 ?_
  refine z_goi C0 hw hS (res := (r, S2)) (rest := [.int r]) (arr := (Value.ref (F 0) :: [.int (xs (Int32.toNatClampNeg (nI i + 1))), .int (xs (Int32.toNatClampNeg (nI i + 2)))]).toArray) ?_ (fun H locs hw hS => ?_)
  · exact va_runV (z_fix C0) (c_X12_mend l D Y F G S1 _ (xs (Int32.toNatClampNeg (nI i + 1))) (xs (Int32.toNatClampNeg (nI i + 2))) (r, S2) e2) (cwV 2 hts gL_law_X12_mend rfl rfl rfl (by decide +kernel) ⟨Nat.le_of_ble_eq_true rfl, Nat.le_of_ble_eq_true rfl⟩) ⟨zPc_blind, z_rv C0 hw (k := 0) rfl rfl rfl rfl, z_give C0 hw hS _⟩ rfl rfl hl.1 rfl (lv_room (Nat.le_of_ble_eq_true rfl)) dL_law_1134 ⟨by rw [hrc]; omega, by rw [hrs]; omega⟩
  refine lv_icmp_eq (tgt := 1653) hx hb dL_law_1137 (by decide) (fun _ => ?_) (fun q => absurd rfl q)
  refine W.widen (k := cells + 692) (n := slots + 11937) (by omega) (by omega) ?_
  exact kk G _ _ _ _ I2 hw hS
set_option maxHeartbeats 4000000 in
set_option maxRecDepth 100000 in
theorem lwa_25 {p : Program} {l : Launch} {e : Env} {s : State} {m : MethodId} {below : List Frame} {meth : Method} {c : Code} {D : va_G} {Y : Nat → ClassId} {F : Nat → Nat} {A : Nat → Prop} {b L : Nat} {xs : Nat → Int32} {Q : State → Prop} (C0 : zCx p s m #[Value.ref b] meth c D Y F A RL cL_law 4 ret wsL_law) (hX : va_X b L xs s s.heap) (hbl : b < s.heap.size) (hbA : ¬ A b) {i : Nat} (hi : i + 6 ≤ L) (hL : L ≤ 3072) {cells slots : Nat} (hc1 : cells + 692 ≤ 600000) (hs1 : slots + 11937 ≤ 7302250) {G : zG} {S : zSt} {d : zD} (I : Inv (zpk G) S d) {H : Heap} {locs : List Loc} (hw : zH D Y F A G S H) (hS : va_S A s.heap H locs) {ls : Array Slot} (hl : lv_has ls 4 [(0, .ref b), (1, .ref (F 20)), (2, .ref (F 0)), (3, .int (nI i))]) (kk : ∀ (G1 : zG) (S1 : zSt) (d1 : zD) (H1 : Heap) (locs1 : List Loc), Inv (zpk G1) S1 d1 → zH D Y F A G1 S1 H1 → va_S A s.heap H1 locs1 → W p l e room_1 s m #[Value.ref b] below meth c H1 locs1 (cells + 692) (slots + 11937) Q (F0 m 1653 ls [])) : W p l e room_1 s m #[Value.ref b] below meth c H locs cells slots Q (F0 m 1142 ls []) := by
  obtain ⟨hx, hb, hml, hr, hown, hts, hK, hA, hlk, hN⟩ := id C0
  have hrc := lw_rc
  have hrs := lw_rs
  refine lv_aload_n hx hb dL_law_1142 rfl (lv_at hl 1 rfl) ?_
  refine lv_aload_n hx hb dL_law_1143 rfl (lv_at hl 0 rfl) ?_
  refine lv_iload_n hx hb dL_law_1144 rfl (lv_at hl 3 rfl) ?_
  refine lv_iconst (v := 1) hx hb dL_law_1145 (by decide) ?_
  refine lv_iadd hx hb dL_law_1146 ?_
  refine va_sld hx hb hX hbl hbA hS (show vp_in (nI i + 1) L from lw_in hi hL (k := 1) (by decide)) dL_law_1147 ?_
  refine lv_aload_n hx hb dL_law_1148 rfl (lv_at hl 0 rfl) ?_
  refine lv_iload_n hx hb dL_law_1149 rfl (lv_at hl 3 rfl) ?_
  refine lv_iconst (v := 2) hx hb dL_law_1150 (by decide) ?_
  refine lv_iadd hx hb dL_law_1151 ?_
  refine va_sld hx hb hX hbl hbA hS (show vp_in (nI i + 2) L from lw_in hi hL (k := 2) (by decide)) dL_law_1152 ?_
  refine lv_aload_n hx hb dL_law_1153 rfl (lv_at hl 0 rfl) ?_
  refine lv_iload_n hx hb dL_law_1154 rfl (lv_at hl 3 rfl) ?_
  refine lv_iconst (v := 3) hx hb dL_law_1155 (by decide) ?_
  refine lv_iadd hx hb dL_law_1156 ?_
  refine va_sld hx hb hX hbl hbA hS (show vp_in (nI i + 3) L from lw_in hi hL (k := 3) (by decide)) dL_law_1157 ?_
  obtain ⟨r, S1, S2, e1, e2, d2, I2⟩ := s_paired I (xs (Int32.toNatClampNeg (nI i + 1))) (xs (Int32.toNatClampNeg (nI i + 2))) (xs (Int32.toNatClampNeg (nI i + 3)))
  refine z_goi C0 hw hS (res := (r, S1)) (rest := []) (arr := (Value.ref (F 20) :: [.int (xs (Int32.toNatClampNeg (nI i + 1))), .int (xs (Int32.toNatClampNeg (nI i + 2))), .int (xs (Int32.toNatClampNeg (nI i + 3)))]).toArray) ?_ (fun H locs hw hS => ?_)
  · exact va_runV (z_fix C0) (c_X11_paired l D Y F G S _ (xs (Int32.toNatClampNeg (nI i + 1))) (xs (Int32.toNatClampNeg (nI i + 2))) (xs (Int32.toNatClampNeg (nI i + 3))) (r, S1) e1) (cwV 3 hts gL_law_X11_paired rfl rfl rfl (by decide +kernel) ⟨Nat.le_of_ble_eq_true rfl, Nat.le_of_ble_eq_true rfl⟩) ⟨zPc_blind, z_rv C0 hw (k := 20) rfl rfl rfl rfl, z_give C0 hw hS _⟩ rfl rfl hl.1 rfl (lv_room (Nat.le_of_ble_eq_true rfl)) dL_law_1158 ⟨by rw [hrc]; omega, by rw [hrs]; omega⟩
  refine lv_aload_n hx hb dL_law_1161 rfl (lv_at hl 2 rfl) ?_
  refine lv_aload_n hx hb dL_law_1162 rfl (lv_at hl 0 rfl) ?_
  refine lv_iload_n hx hb dL_law_1163 rfl (lv_at hl 3 rfl) ?_
  refine lv_iconst (v := 1) hx hb dL_law_1164 (by decide) ?_
  refine lv_iadd hx hb dL_law_1165 ?_
  refine va_sld hx hb hX hbl hbA hS (show vp_in (nI i + 1) L from lw_in hi hL (k := 1) (by decide)) dL_law_1166 ?_
  refine lv_aload_n hx hb dL_law_1167 rfl (lv_at hl 0 rfl) ?_
  refine lv_iload_n hx hb dL_law_1168 rfl (lv_at hl 3 rfl) ?_
  refine lv_iconst (v := 2) hx hb dL_law_1169 (by decide) ?_
  refine lv_iadd hx hb dL_law_1170 ?_
  refine va_sld hx hb hX hbl hbA hS (show vp_in (nI i + 2) L from lw_in hi hL (k := 2) (by decide)) dL_law_1171 ?_
  refine lv_aload_n hx hb dL_law_1172 rfl (lv_at hl 0 rfl) ?_
  refine lv_iload_n hx hb dL_law_1173 rfl (lv_at hl 3 rfl) ?_
  refine lv_iconst (v := 3) hx hb dL_law_1174 (by decide) ?_
  refine lv_iadd hx hb dL_law_1175 ?_
  refine va_sld hx hb hX hbl hbA hS (show vp_in (nI i + 3) L from lw_in hi hL (k := 3) (by decide)) dL_law_1176 ?_
  refine z_goi C0 hw hS (res := (r, S2)) (rest := [.int r]) (arr := (Value.ref (F 0) :: [.int (xs (Int32.toNatClampNeg (nI i + 1))), .int (xs (Int32.toNatClampNeg (nI i + 2))), .int (xs (Int32.toNatClampNeg (nI i + 3)))]).toArray) ?_ (fun H locs hw hS => ?_)
  · exact va_runV (z_fix C0) (c_X12_paired l D Y F G S1 _ (xs (Int32.toNatClampNeg (nI i + 1))) (xs (Int32.toNatClampNeg (nI i + 2))) (xs (Int32.toNatClampNeg (nI i + 3))) (r, S2) e2) (cwV 3 hts gL_law_X12_paired rfl rfl rfl (by decide +kernel) ⟨Nat.le_of_ble_eq_true rfl, Nat.le_of_ble_eq_true rfl⟩) ⟨zPc_blind, z_rv C0 hw (k := 0) rfl rfl rfl rfl, z_give C0 hw hS _⟩ rfl rfl hl.1 rfl (lv_room (Nat.le_of_ble_eq_true rfl)) dL_law_1177 ⟨by rw [hrc]; omega, by rw [hrs]; omega⟩
  refine lv_icmp_eq (tgt := 1653) hx hb dL_law_1180 (by decide) (fun _ => ?_) (fun q => absurd rfl q)
  refine W.widen (k := cells + 692) (n := slots + 11937) (by omega) (by omega) ?_
  exact kk G _ _ _ _ I2 hw hS
set_option maxHeartbeats 4000000 in
set_option maxRecDepth 100000 in
theorem lwa_26 {p : Program} {l : Launch} {e : Env} {s : State} {m : MethodId} {below : List Frame} {meth : Method} {c : Code} {D : va_G} {Y : Nat → ClassId} {F : Nat → Nat} {A : Nat → Prop} {b L : Nat} {xs : Nat → Int32} {Q : State → Prop} (C0 : zCx p s m #[Value.ref b] meth c D Y F A RL cL_law 4 ret wsL_law) (hX : va_X b L xs s s.heap) (hbl : b < s.heap.size) (hbA : ¬ A b) {i : Nat} (hi : i + 6 ≤ L) (hL : L ≤ 3072) {cells slots : Nat} (hc1 : cells + 692 ≤ 600000) (hs1 : slots + 11937 ≤ 7302250) {G : zG} {S : zSt} {d : zD} (I : Inv (zpk G) S d) {H : Heap} {locs : List Loc} (hw : zH D Y F A G S H) (hS : va_S A s.heap H locs) {ls : Array Slot} (hl : lv_has ls 4 [(0, .ref b), (1, .ref (F 20)), (2, .ref (F 0)), (3, .int (nI i))]) (kk : ∀ (G1 : zG) (S1 : zSt) (d1 : zD) (H1 : Heap) (locs1 : List Loc), Inv (zpk G1) S1 d1 → zH D Y F A G1 S1 H1 → va_S A s.heap H1 locs1 → W p l e room_1 s m #[Value.ref b] below meth c H1 locs1 (cells + 692) (slots + 11937) Q (F0 m 1653 ls [])) : W p l e room_1 s m #[Value.ref b] below meth c H locs cells slots Q (F0 m 1185 ls []) := by
  obtain ⟨hx, hb, hml, hr, hown, hts, hK, hA, hlk, hN⟩ := id C0
  have hrc := lw_rc
  have hrs := lw_rs
  refine lv_aload_n hx hb dL_law_1185 rfl (lv_at hl 1 rfl) ?_
  refine lv_aload_n hx hb dL_law_1186 rfl (lv_at hl 0 rfl) ?_
  refine lv_iload_n hx hb dL_law_1187 rfl (lv_at hl 3 rfl) ?_
  refine lv_iconst (v := 1) hx hb dL_law_1188 (by decide) ?_
  refine lv_iadd hx hb dL_law_1189 ?_
  refine va_sld hx hb hX hbl hbA hS (show vp_in (nI i + 1) L from lw_in hi hL (k := 1) (by decide)) dL_law_1190 ?_
  refine lv_aload_n hx hb dL_law_1191 rfl (lv_at hl 0 rfl) ?_
  refine lv_iload_n hx hb dL_law_1192 rfl (lv_at hl 3 rfl) ?_
  refine lv_iconst (v := 2) hx hb dL_law_1193 (by decide) ?_
  refine lv_iadd hx hb dL_law_1194 ?_
  refine va_sld hx hb hX hbl hbA hS (show vp_in (nI i + 2) L from lw_in hi hL (k := 2) (by decide)) dL_law_1195 ?_
  obtain ⟨r, S1, S2, e1, e2, d2, I2⟩ := s_bear I (xs (Int32.toNatClampNeg (nI i + 1))) (xs (Int32.toNatClampNeg (nI i + 2)))
  refine z_goi C0 hw hS (res := (r, S1)) (rest := []) (arr := (Value.ref (F 20) :: [.int (xs (Int32.toNatClampNeg (nI i + 1))), .int (xs (Int32.toNatClampNeg (nI i + 2)))]).toArray) ?_ (fun H locs hw hS => ?_)
  · exact va_runV (z_fix C0) (c_X11_bear l D Y F G S _ (xs (Int32.toNatClampNeg (nI i + 1))) (xs (Int32.toNatClampNeg (nI i + 2))) (r, S1) e1) (cwV 2 hts gL_law_X11_bear rfl rfl rfl (by decide +kernel) ⟨Nat.le_of_ble_eq_true rfl, Nat.le_of_ble_eq_true rfl⟩) ⟨zPc_blind, z_rv C0 hw (k := 20) rfl rfl rfl rfl, z_give C0 hw hS _⟩ rfl rfl hl.1 rfl (lv_room (Nat.le_of_ble_eq_true rfl)) dL_law_1196 ⟨by rw [hrc]; omega, by rw [hrs]; omega⟩
  refine lv_aload_n hx hb dL_law_1199 rfl (lv_at hl 2 rfl) ?_
  refine lv_aload_n hx hb dL_law_1200 rfl (lv_at hl 0 rfl) ?_
  refine lv_iload_n hx hb dL_law_1201 rfl (lv_at hl 3 rfl) ?_
  refine lv_iconst (v := 1) hx hb dL_law_1202 (by decide) ?_
  refine lv_iadd hx hb dL_law_1203 ?_
  refine va_sld hx hb hX hbl hbA hS (show vp_in (nI i + 1) L from lw_in hi hL (k := 1) (by decide)) dL_law_1204 ?_
  refine lv_aload_n hx hb dL_law_1205 rfl (lv_at hl 0 rfl) ?_
  refine lv_iload_n hx hb dL_law_1206 rfl (lv_at hl 3 rfl) ?_
  refine lv_iconst (v := 2) hx hb dL_law_1207 (by decide) ?_
  refine lv_iadd hx hb dL_law_1208 ?_
  refine va_sld hx hb hX hbl hbA hS (show vp_in (nI i + 2) L from lw_in hi hL (k := 2) (by decide)) dL_law_1209 ?_
  refine z_goi C0 hw hS (res := (r, S2)) (rest := [.int r]) (arr := (Value.ref (F 0) :: [.int (xs (Int32.toNatClampNeg (nI i + 1))), .int (xs (Int32.toNatClampNeg (nI i + 2)))]).toArray) ?_ (fun H locs hw hS => ?_)
  · exact va_runV (z_fix C0) (c_X12_bear l D Y F G S1 _ (xs (Int32.toNatClampNeg (nI i + 1))) (xs (Int32.toNatClampNeg (nI i + 2))) (r, S2) e2) (cwV 2 hts gL_law_X12_bear rfl rfl rfl (by decide +kernel) ⟨Nat.le_of_ble_eq_true rfl, Nat.le_of_ble_eq_true rfl⟩) ⟨zPc_blind, z_rv C0 hw (k := 0) rfl rfl rfl rfl, z_give C0 hw hS _⟩ rfl rfl hl.1 rfl (lv_room (Nat.le_of_ble_eq_true rfl)) dL_law_1210 ⟨by rw [hrc]; omega, by rw [hrs]; omega⟩
  refine lv_icmp_eq (tgt := 1653) hx hb dL_law_1213 (by decide) (fun _ => ?_) (fun q => absurd rfl q)
  refine W.widen (k := cells + 692) (n := slots + 11937) (by omega) (by omega) ?_
  exact kk G _ _ _ _ I2 hw hS
set_option maxHeartbeats 4000000 in
set_option maxRecDepth 100000 in
theorem lwa_27 {p : Program} {l : Launch} {e : Env} {s : State} {m : MethodId} {below : List Frame} {meth : Method} {c : Code} {D : va_G} {Y : Nat → ClassId} {F : Nat → Nat} {A : Nat → Prop} {b L : Nat} {xs : Nat → Int32} {Q : State → Prop} (C0 : zCx p s m #[Value.ref b] meth c D Y F A RL cL_law 4 ret wsL_law) (hX : va_X b L xs s s.heap) (hbl : b < s.heap.size) (hbA : ¬ A b) {i : Nat} (hi : i + 6 ≤ L) (hL : L ≤ 3072) {cells slots : Nat} (hc1 : cells + 692 ≤ 600000) (hs1 : slots + 11937 ≤ 7302250) {G : zG} {S : zSt} {d : zD} (I : Inv (zpk G) S d) {H : Heap} {locs : List Loc} (hw : zH D Y F A G S H) (hS : va_S A s.heap H locs) {ls : Array Slot} (hl : lv_has ls 4 [(0, .ref b), (1, .ref (F 20)), (2, .ref (F 0)), (3, .int (nI i))]) (kk : ∀ (G1 : zG) (S1 : zSt) (d1 : zD) (H1 : Heap) (locs1 : List Loc), Inv (zpk G1) S1 d1 → zH D Y F A G1 S1 H1 → va_S A s.heap H1 locs1 → W p l e room_1 s m #[Value.ref b] below meth c H1 locs1 (cells + 692) (slots + 11937) Q (F0 m 1653 ls [])) : W p l e room_1 s m #[Value.ref b] below meth c H locs cells slots Q (F0 m 1218 ls []) := by
  obtain ⟨hx, hb, hml, hr, hown, hts, hK, hA, hlk, hN⟩ := id C0
  have hrc := lw_rc
  have hrs := lw_rs
  refine lv_aload_n hx hb dL_law_1218 rfl (lv_at hl 1 rfl) ?_
  refine lv_aload_n hx hb dL_law_1219 rfl (lv_at hl 0 rfl) ?_
  refine lv_iload_n hx hb dL_law_1220 rfl (lv_at hl 3 rfl) ?_
  refine lv_iconst (v := 1) hx hb dL_law_1221 (by decide) ?_
  refine lv_iadd hx hb dL_law_1222 ?_
  refine va_sld hx hb hX hbl hbA hS (show vp_in (nI i + 1) L from lw_in hi hL (k := 1) (by decide)) dL_law_1223 ?_
  obtain ⟨r, S1, S2, e1, e2, d2, I2⟩ := s_heir I (xs (Int32.toNatClampNeg (nI i + 1)))
  refine z_goi C0 hw hS (res := (r, S1)) (rest := []) (arr := (Value.ref (F 20) :: [.int (xs (Int32.toNatClampNeg (nI i + 1)))]).toArray) ?_ (fun H locs hw hS => ?_)
  · exact va_runV (z_fix C0) (c_X11_heir l D Y F G S _ (xs (Int32.toNatClampNeg (nI i + 1))) (r, S1) e1) (cwV 1 hts gL_law_X11_heir rfl rfl rfl (by decide +kernel) ⟨Nat.le_of_ble_eq_true rfl, Nat.le_of_ble_eq_true rfl⟩) ⟨zPc_blind, z_rv C0 hw (k := 20) rfl rfl rfl rfl, z_give C0 hw hS _⟩ rfl rfl hl.1 rfl (lv_room (Nat.le_of_ble_eq_true rfl)) dL_law_1224 ⟨by rw [hrc]; omega, by rw [hrs]; omega⟩
  refine lv_aload_n hx hb dL_law_1227 rfl (lv_at hl 2 rfl) ?_
  refine lv_aload_n hx hb dL_law_1228 rfl (lv_at hl 0 rfl) ?_
  refine lv_iload_n hx hb dL_law_1229 rfl (lv_at hl 3 rfl) ?_
  refine lv_iconst (v := 1) hx hb dL_law_1230 (by decide) ?_
  refine lv_iadd hx hb dL_law_1231 ?_
  refine va_sld hx hb hX hbl hbA hS (show vp_in (nI i + 1) L from lw_in hi hL (k := 1) (by decide)) dL_law_1232 ?_
  refine z_goi C0 hw hS (res := (r, S2)) (rest := [.int r]) (arr := (Value.ref (F 0) :: [.int (xs (Int32.toNatClampNeg (nI i + 1)))]).toArray) ?_ (fun H locs hw hS => ?_)
  · exact va_runV (z_fix C0) (c_X12_heir l D Y F G S1 _ (xs (Int32.toNatClampNeg (nI i + 1))) (r, S2) e2) (cwV 1 hts gL_law_X12_heir rfl rfl rfl (by decide +kernel) ⟨Nat.le_of_ble_eq_true rfl, Nat.le_of_ble_eq_true rfl⟩) ⟨zPc_blind, z_rv C0 hw (k := 0) rfl rfl rfl rfl, z_give C0 hw hS _⟩ rfl rfl hl.1 rfl (lv_room (Nat.le_of_ble_eq_true rfl)) dL_law_1233 ⟨by rw [hrc]; omega, by rw [hrs]; omega⟩
  refine lv_icmp_eq (tgt := 1653) hx hb dL_law_1236 (by decide) (fun _ => ?_) (fun q => absurd rfl q)
  refine W.widen (k := cells + 692) (n := slots + 11937) (by omega) (by omega) ?_
  exact kk G _ _ _ _ I2 hw hS
set_option maxHeartbeats 4000000 in
set_option maxRecDepth 100000 in
theorem lwa_28 {p : Program} {l : Launch} {e : Env} {s : State} {m : MethodId} {below : List Frame} {meth : Method} {c : Code} {D : va_G} {Y : Nat → ClassId} {F : Nat → Nat} {A : Nat → Prop} {b L : Nat} {xs : Nat → Int32} {Q : State → Prop} (C0 : zCx p s m #[Value.ref b] meth c D Y F A RL cL_law 4 ret wsL_law) (hX : va_X b L xs s s.heap) (hbl : b < s.heap.size) (hbA : ¬ A b) {i : Nat} (hi : i + 6 ≤ L) (hL : L ≤ 3072) {cells slots : Nat} (hc1 : cells + 692 ≤ 600000) (hs1 : slots + 11937 ≤ 7302250) {G : zG} {S : zSt} {d : zD} (I : Inv (zpk G) S d) {H : Heap} {locs : List Loc} (hw : zH D Y F A G S H) (hS : va_S A s.heap H locs) {ls : Array Slot} (hl : lv_has ls 4 [(0, .ref b), (1, .ref (F 20)), (2, .ref (F 0)), (3, .int (nI i))]) (kk : ∀ (G1 : zG) (S1 : zSt) (d1 : zD) (H1 : Heap) (locs1 : List Loc), Inv (zpk G1) S1 d1 → zH D Y F A G1 S1 H1 → va_S A s.heap H1 locs1 → W p l e room_1 s m #[Value.ref b] below meth c H1 locs1 (cells + 692) (slots + 11937) Q (F0 m 1653 ls [])) : W p l e room_1 s m #[Value.ref b] below meth c H locs cells slots Q (F0 m 1241 ls []) := by
  obtain ⟨hx, hb, hml, hr, hown, hts, hK, hA, hlk, hN⟩ := id C0
  have hrc := lw_rc
  have hrs := lw_rs
  refine lv_aload_n hx hb dL_law_1241 rfl (lv_at hl 1 rfl) ?_
  refine lv_aload_n hx hb dL_law_1242 rfl (lv_at hl 0 rfl) ?_
  refine lv_iload_n hx hb dL_law_1243 rfl (lv_at hl 3 rfl) ?_
  refine lv_iconst (v := 1) hx hb dL_law_1244 (by decide) ?_
  refine lv_iadd hx hb dL_law_1245 ?_
  refine va_sld hx hb hX hbl hbA hS (show vp_in (nI i + 1) L from lw_in hi hL (k := 1) (by decide)) dL_law_1246 ?_
  refine lv_aload_n hx hb dL_law_1247 rfl (lv_at hl 0 rfl) ?_
  refine lv_iload_n hx hb dL_law_1248 rfl (lv_at hl 3 rfl) ?_
  refine lv_iconst (v := 2) hx hb dL_law_1249 (by decide) ?_
  refine lv_iadd hx hb dL_law_1250 ?_
  refine va_sld hx hb hX hbl hbA hS (show vp_in (nI i + 2) L from lw_in hi hL (k := 2) (by decide)) dL_law_1251 ?_
  obtain ⟨r, S1, S2, e1, e2, d2, I2⟩ := s_straight I (xs (Int32.toNatClampNeg (nI i + 1))) (xs (Int32.toNatClampNeg (nI i + 2)))
  refine z_goi C0 hw hS (res := (r, S1)) (rest := []) (arr := (Value.ref (F 20) :: [.int (xs (Int32.toNatClampNeg (nI i + 1))), .int (xs (Int32.toNatClampNeg (nI i + 2)))]).toArray) ?_ (fun H locs hw hS => ?_)
  · exact va_runV (z_fix C0) (c_X11_straight l D Y F G S _ (xs (Int32.toNatClampNeg (nI i + 1))) (xs (Int32.toNatClampNeg (nI i + 2))) (r, S1) e1) (cwV 2 hts gL_law_X11_straight rfl rfl rfl (by decide +kernel) ⟨Nat.le_of_ble_eq_true rfl, Nat.le_of_ble_eq_true rfl⟩) ⟨zPc_blind, z_rv C0 hw (k := 20) rfl rfl rfl rfl, z_give C0 hw hS _⟩ rfl rfl hl.1 rfl (lv_room (Nat.le_of_ble_eq_true rfl)) dL_law_1252 ⟨by rw [hrc]; omega, by rw [hrs]; omega⟩
  refine lv_aload_n hx hb dL_law_1255 rfl (lv_at hl 2 rfl) ?_
  refine lv_aload_n hx hb dL_law_1256 rfl (lv_at hl 0 rfl) ?_
  refine lv_iload_n hx hb dL_law_1257 rfl (lv_at hl 3 rfl) ?_
  refine lv_iconst (v := 1) hx hb dL_law_1258 (by decide) ?_
  refine lv_iadd hx hb dL_law_1259 ?_
  refine va_sld hx hb hX hbl hbA hS (show vp_in (nI i + 1) L from lw_in hi hL (k := 1) (by decide)) dL_law_1260 ?_
  refine lv_aload_n hx hb dL_law_1261 rfl (lv_at hl 0 rfl) ?_
  refine lv_iload_n hx hb dL_law_1262 rfl (lv_at hl 3 rfl) ?_
  refine lv_iconst (v := 2) hx hb dL_law_1263 (by decide) ?_
  refine lv_iadd hx hb dL_law_1264 ?_
  refine va_sld hx hb hX hbl hbA hS (show vp_in (nI i + 2) L from lw_in hi hL (k := 2) (by decide)) dL_law_1265 ?_
  refine z_goi C0 hw hS (res := (r, S2)) (rest := [.int r]) (arr := (Value.ref (F 0) :: [.int (xs (Int32.toNatClampNeg (nI i + 1))), .int (xs (Int32.toNatClampNeg (nI i + 2)))]).toArray) ?_ (fun H locs hw hS => ?_)
  · exact va_runV (z_fix C0) (c_X12_straight l D Y F G S1 _ (xs (Int32.toNatClampNeg (nI i + 1))) (xs (Int32.toNatClampNeg (nI i + 2))) (r, S2) e2) (cwV 2 hts gL_law_X12_straight rfl rfl rfl (by decide +kernel) ⟨Nat.le_of_ble_eq_true rfl, Nat.le_of_ble_eq_true rfl⟩) ⟨zPc_blind, z_rv C0 hw (k := 0) rfl rfl rfl rfl, z_give C0 hw hS _⟩ rfl rfl hl.1 rfl (lv_room (Nat.le_of_ble_eq_true rfl)) dL_law_1266 ⟨by rw [hrc]; omega, by rw [hrs]; omega⟩
  refine lv_icmp_eq (tgt := 1653) hx hb dL_law_1269 (by decide) (fun _ => ?_) (fun q => absurd rfl q)
  refine W.widen (k := cells + 692) (n := slots + 11937) (by omega) (by omega) ?_
  exact kk G _ _ _ _ I2 hw hS
set_option maxHeartbeats 4000000 in
set_option maxRecDepth 100000 in
theorem lwa_29 {p : Program} {l : Launch} {e : Env} {s : State} {m : MethodId} {below : List Frame} {meth : Method} {c : Code} {D : va_G} {Y : Nat → ClassId} {F : Nat → Nat} {A : Nat → Prop} {b L : Nat} {xs : Nat → Int32} {Q : State → Prop} (C0 : zCx p s m #[Value.ref b] meth c D Y F A RL cL_law 4 ret wsL_law) (hX : va_X b L xs s s.heap) (hbl : b < s.heap.size) (hbA : ¬ A b) {i : Nat} (hi : i + 6 ≤ L) (hL : L ≤ 3072) {cells slots : Nat} (hc1 : cells + 692 ≤ 600000) (hs1 : slots + 11937 ≤ 7302250) {G : zG} {S : zSt} {d : zD} (I : Inv (zpk G) S d) {H : Heap} {locs : List Loc} (hw : zH D Y F A G S H) (hS : va_S A s.heap H locs) {ls : Array Slot} (hl : lv_has ls 4 [(0, .ref b), (1, .ref (F 20)), (2, .ref (F 0)), (3, .int (nI i))]) (kk : ∀ (G1 : zG) (S1 : zSt) (d1 : zD) (H1 : Heap) (locs1 : List Loc), Inv (zpk G1) S1 d1 → zH D Y F A G1 S1 H1 → va_S A s.heap H1 locs1 → W p l e room_1 s m #[Value.ref b] below meth c H1 locs1 (cells + 692) (slots + 11937) Q (F0 m 1653 ls [])) : W p l e room_1 s m #[Value.ref b] below meth c H locs cells slots Q (F0 m 1274 ls []) := by
  obtain ⟨hx, hb, hml, hr, hown, hts, hK, hA, hlk, hN⟩ := id C0
  have hrc := lw_rc
  have hrs := lw_rs
  refine lv_aload_n hx hb dL_law_1274 rfl (lv_at hl 1 rfl) ?_
  refine lv_aload_n hx hb dL_law_1275 rfl (lv_at hl 0 rfl) ?_
  refine lv_iload_n hx hb dL_law_1276 rfl (lv_at hl 3 rfl) ?_
  refine lv_iconst (v := 1) hx hb dL_law_1277 (by decide) ?_
  refine lv_iadd hx hb dL_law_1278 ?_
  refine va_sld hx hb hX hbl hbA hS (show vp_in (nI i + 1) L from lw_in hi hL (k := 1) (by decide)) dL_law_1279 ?_
  refine lv_aload_n hx hb dL_law_1280 rfl (lv_at hl 0 rfl) ?_
  refine lv_iload_n hx hb dL_law_1281 rfl (lv_at hl 3 rfl) ?_
  refine lv_iconst (v := 2) hx hb dL_law_1282 (by decide) ?_
  refine lv_iadd hx hb dL_law_1283 ?_
  refine va_sld hx hb hX hbl hbA hS (show vp_in (nI i + 2) L from lw_in hi hL (k := 2) (by decide)) dL_law_1284 ?_
  obtain ⟨r, S1, S2, e1, e2, d2, I2⟩ := s_judge I (xs (Int32.toNatClampNeg (nI i + 1))) (xs (Int32.toNatClampNeg (nI i + 2)))
  refine z_goi C0 hw hS (res := (r, S1)) (rest := []) (arr := (Value.ref (F 20) :: [.int (xs (Int32.toNatClampNeg (nI i + 1))), .int (xs (Int32.toNatClampNeg (nI i + 2)))]).toArray) ?_ (fun H locs hw hS => ?_)
  · exact va_runV (z_fix C0) (c_X11_judge l D Y F G S _ (xs (Int32.toNatClampNeg (nI i + 1))) (xs (Int32.toNatClampNeg (nI i + 2))) (r, S1) e1) (cwV 2 hts gL_law_X11_judge rfl rfl rfl (by decide +kernel) ⟨Nat.le_of_ble_eq_true rfl, Nat.le_of_ble_eq_true rfl⟩) ⟨zPc_blind, z_rv C0 hw (k := 20) rfl rfl rfl rfl, z_give C0 hw hS _⟩ rfl rfl hl.1 rfl (lv_room (Nat.le_of_ble_eq_true rfl)) dL_law_1285 ⟨by rw [hrc]; omega, by rw [hrs]; omega⟩
  refine lv_aload_n hx hb dL_law_1288 rfl (lv_at hl 2 rfl) ?_
  refine lv_aload_n hx hb dL_law_1289 rfl (lv_at hl 0 rfl) ?_
  refine lv_iload_n hx hb dL_law_1290 rfl (lv_at hl 3 rfl) ?_
  refine lv_iconst (v := 1) hx hb dL_law_1291 (by decide) ?_
  refine lv_iadd hx hb dL_law_1292 ?_
  refine va_sld hx hb hX hbl hbA hS (show vp_in (nI i + 1) L from lw_in hi hL (k := 1) (by decide)) dL_law_1293 ?_
  refine lv_aload_n hx hb dL_law_1294 rfl (lv_at hl 0 rfl) ?_
  refine lv_iload_n hx hb dL_law_1295 rfl (lv_at hl 3 rfl) ?_
  refine lv_iconst (v := 2) hx hb dL_law_1296 (by decide) ?_
  refine lv_iadd hx hb dL_law_1297 ?_
  refine va_sld hx hb hX hbl hbA hS (show vp_in (nI i + 2) L from lw_in hi hL (k := 2) (by decide)) dL_law_1298 ?_
  refine z_goi C0 hw hS (res := (r, S2)) (rest := [.int r]) (arr := (Value.ref (F 0) :: [.int (xs (Int32.toNatClampNeg (nI i + 1))), .int (xs (Int32.toNatClampNeg (nI i + 2)))]).toArray) ?_ (fun H locs hw hS => ?_)
  · exact va_runV (z_fix C0) (c_X12_judge l D Y F G S1 _ (xs (Int32.toNatClampNeg (nI i + 1))) (xs (Int32.toNatClampNeg (nI i + 2))) (r, S2) e2) (cwV 2 hts gL_law_X12_judge rfl rfl rfl (by decide +kernel) ⟨Nat.le_of_ble_eq_true rfl, Nat.le_of_ble_eq_true rfl⟩) ⟨zPc_blind, z_rv C0 hw (k := 0) rfl rfl rfl rfl, z_give C0 hw hS _⟩ rfl rfl hl.1 rfl (lv_room (Nat.le_of_ble_eq_true rfl)) dL_law_1299 ⟨by rw [hrc]; omega, by rw [hrs]; omega⟩
  refine lv_icmp_eq (tgt := 1653) hx hb dL_law_1302 (by decide) (fun _ => ?_) (fun q => absurd rfl q)
  refine W.widen (k := cells + 692) (n := slots + 11937) (by omega) (by omega) ?_
  exact kk G _ _ _ _ I2 hw hS
set_option maxHeartbeats 4000000 in
set_option maxRecDepth 100000 in
theorem lwa_30 {p : Program} {l : Launch} {e : Env} {s : State} {m : MethodId} {below : List Frame} {meth : Method} {c : Code} {D : va_G} {Y : Nat → ClassId} {F : Nat → Nat} {A : Nat → Prop} {b L : Nat} {xs : Nat → Int32} {Q : State → Prop} (C0 : zCx p s m #[Value.ref b] meth c D Y F A RL cL_law 4 ret wsL_law) (hX : va_X b L xs s s.heap) (hbl : b < s.heap.size) (hbA : ¬ A b) {i : Nat} (hi : i + 6 ≤ L) (hL : L ≤ 3072) {cells slots : Nat} (hc1 : cells + 692 ≤ 600000) (hs1 : slots + 11937 ≤ 7302250) {G : zG} {S : zSt} {d : zD} (I : Inv (zpk G) S d) {H : Heap} {locs : List Loc} (hw : zH D Y F A G S H) (hS : va_S A s.heap H locs) {ls : Array Slot} (hl : lv_has ls 4 [(0, .ref b), (1, .ref (F 20)), (2, .ref (F 0)), (3, .int (nI i))]) (kk : ∀ (G1 : zG) (S1 : zSt) (d1 : zD) (H1 : Heap) (locs1 : List Loc), Inv (zpk G1) S1 d1 → zH D Y F A G1 S1 H1 → va_S A s.heap H1 locs1 → W p l e room_1 s m #[Value.ref b] below meth c H1 locs1 (cells + 692) (slots + 11937) Q (F0 m 1653 ls [])) : W p l e room_1 s m #[Value.ref b] below meth c H locs cells slots Q (F0 m 1307 ls []) := by
  obtain ⟨hx, hb, hml, hr, hown, hts, hK, hA, hlk, hN⟩ := id C0
  have hrc := lw_rc
  have hrs := lw_rs
  refine lv_aload_n hx hb dL_law_1307 rfl (lv_at hl 1 rfl) ?_
  refine lv_aload_n hx hb dL_law_1308 rfl (lv_at hl 0 rfl) ?_
  refine lv_iload_n hx hb dL_law_1309 rfl (lv_at hl 3 rfl) ?_
  refine lv_iconst (v := 1) hx hb dL_law_1310 (by decide) ?_
  refine lv_iadd hx hb dL_law_1311 ?_
  refine va_sld hx hb hX hbl hbA hS (show vp_in (nI i + 1) L from lw_in hi hL (k := 1) (by decide)) dL_law_1312 ?_
  refine lv_aload_n hx hb dL_law_1313 rfl (lv_at hl 0 rfl) ?_
  refine lv_iload_n hx hb dL_law_1314 rfl (lv_at hl 3 rfl) ?_
  refine lv_iconst (v := 2) hx hb dL_law_1315 (by decide) ?_
  refine lv_iadd hx hb dL_law_1316 ?_
  refine va_sld hx hb hX hbl hbA hS (show vp_in (nI i + 2) L from lw_in hi hL (k := 2) (by decide)) dL_law_1317 ?_
  refine lv_aload_n hx hb dL_law_1318 rfl (lv_at hl 0 rfl) ?_
  refine lv_iload_n hx hb dL_law_1319 rfl (lv_at hl 3 rfl) ?_
  refine lv_iconst (v := 3) hx hb dL_law_1320 (by decide) ?_
  refine lv_iadd hx hb dL_law_1321 ?_
  refine va_sld hx hb hX hbl hbA hS (show vp_in (nI i + 3) L from lw_in hi hL (k := 3) (by decide)) dL_law_1322 ?_
  obtain ⟨r, pk1, S1, S2, e1, e2, d2, I2⟩ := s_behind I (xs (Int32.toNatClampNeg (nI i + 1))) (xs (Int32.toNatClampNeg (nI i + 2))) (xs (Int32.toNatClampNeg (nI i + 3)))
  refine z_goiG (mc := 24) (ms := 414) C0 hw hS (res := (r, pk1, S1)) (rest := []) (arr := (Value.ref (F 20) :: [.int (xs (Int32.toNatClampNeg (nI i + 1))), .int (xs (Int32.toNatClampNeg (nI i + 2))), .int (xs (Int32.toNatClampNeg (nI i + 3)))]).toArray) ?_ (fun G1 H locs eG hw hS => ?_)
  · exact va_runV (z_fix C0) (c_X11_behind l D Y F G S _ (xs (Int32.toNatClampNeg (nI i + 1))) (xs (Int32.toNatClampNeg (nI i + 2))) (xs (Int32.toNatClampNeg (nI i + 3))) (r, pk1, S1) e1) (cwV 3 hts gL_law_X11_behind rfl rfl rfl (by decide +kernel) ⟨Nat.le_of_ble_eq_true rfl, Nat.le_of_ble_eq_true rfl⟩) ⟨zPc_blind, z_rv C0 hw (k := 20) rfl rfl rfl rfl, z_give C0 hw hS _⟩ rfl rfl hl.1 rfl (lv_room (Nat.le_of_ble_eq_true rfl)) dL_law_1323 ⟨by rw [hrc]; omega, by rw [hrs]; omega⟩
  have eG : zpk G1 = pk1 := eG
  subst eG
  refine lv_aload_n hx hb dL_law_1326 rfl (lv_at hl 2 rfl) ?_
  refine lv_aload_n hx hb dL_law_1327 rfl (lv_at hl 0 rfl) ?_
  refine lv_iload_n hx hb dL_law_1328 rfl (lv_at hl 3 rfl) ?_
  refine lv_iconst (v := 1) hx hb dL_law_1329 (by decide) ?_
  refine lv_iadd hx hb dL_law_1330 ?_
  refine va_sld hx hb hX hbl hbA hS (show vp_in (nI i + 1) L from lw_in hi hL (k := 1) (by decide)) dL_law_1331 ?_
  refine lv_aload_n hx hb dL_law_1332 rfl (lv_at hl 0 rfl) ?_
  refine lv_iload_n hx hb dL_law_1333 rfl (lv_at hl 3 rfl) ?_
  refine lv_iconst (v := 2) hx hb dL_law_1334 (by decide) ?_
  refine lv_iadd hx hb dL_law_1335 ?_
  refine va_sld hx hb hX hbl hbA hS (show vp_in (nI i + 2) L from lw_in hi hL (k := 2) (by decide)) dL_law_1336 ?_
  refine lv_aload_n hx hb dL_law_1337 rfl (lv_at hl 0 rfl) ?_
  refine lv_iload_n hx hb dL_law_1338 rfl (lv_at hl 3 rfl) ?_
  refine lv_iconst (v := 3) hx hb dL_law_1339 (by decide) ?_
  refine lv_iadd hx hb dL_law_1340 ?_
  refine va_sld hx hb hX hbl hbA hS (show vp_in (nI i + 3) L from lw_in hi hL (k := 3) (by decide)) dL_law_1341 ?_
  refine z_goi C0 hw hS (res := (r, S2)) (rest := [.int r]) (arr := (Value.ref (F 0) :: [.int (xs (Int32.toNatClampNeg (nI i + 1))), .int (xs (Int32.toNatClampNeg (nI i + 2))), .int (xs (Int32.toNatClampNeg (nI i + 3)))]).toArray) ?_ (fun H locs hw hS => ?_)
  · exact va_runV (z_fix C0) (c_X12_behind l D Y F G1 S1 _ (xs (Int32.toNatClampNeg (nI i + 1))) (xs (Int32.toNatClampNeg (nI i + 2))) (xs (Int32.toNatClampNeg (nI i + 3))) (r, S2) e2) (cwV 3 hts gL_law_X12_behind rfl rfl rfl (by decide +kernel) ⟨Nat.le_of_ble_eq_true rfl, Nat.le_of_ble_eq_true rfl⟩) ⟨zPc_blind, z_rv C0 hw (k := 0) rfl rfl rfl rfl, z_give C0 hw hS _⟩ rfl rfl hl.1 rfl (lv_room (Nat.le_of_ble_eq_true rfl)) dL_law_1342 ⟨by rw [hrc]; omega, by rw [hrs]; omega⟩
  refine lv_icmp_eq (tgt := 1653) hx hb dL_law_1345 (by decide) (fun _ => ?_) (fun q => absurd rfl q)
  refine W.widen (k := cells + 692) (n := slots + 11937) (by omega) (by omega) ?_
  exact kk G1 _ _ _ _ I2 hw hS
set_option maxHeartbeats 4000000 in
set_option maxRecDepth 100000 in
theorem lwa_31 {p : Program} {l : Launch} {e : Env} {s : State} {m : MethodId} {below : List Frame} {meth : Method} {c : Code} {D : va_G} {Y : Nat → ClassId} {F : Nat → Nat} {A : Nat → Prop} {b L : Nat} {xs : Nat → Int32} {Q : State → Prop} (C0 : zCx p s m #[Value.ref b] meth c D Y F A RL cL_law 4 ret wsL_law) (hX : va_X b L xs s s.heap) (hbl : b < s.heap.size) (hbA : ¬ A b) {i : Nat} (hi : i + 6 ≤ L) (hL : L ≤ 3072) {cells slots : Nat} (hc1 : cells + 692 ≤ 600000) (hs1 : slots + 11937 ≤ 7302250) {G : zG} {S : zSt} {d : zD} (I : Inv (zpk G) S d) {H : Heap} {locs : List Loc} (hw : zH D Y F A G S H) (hS : va_S A s.heap H locs) {ls : Array Slot} (hl : lv_has ls 4 [(0, .ref b), (1, .ref (F 20)), (2, .ref (F 0)), (3, .int (nI i))]) (kk : ∀ (G1 : zG) (S1 : zSt) (d1 : zD) (H1 : Heap) (locs1 : List Loc), Inv (zpk G1) S1 d1 → zH D Y F A G1 S1 H1 → va_S A s.heap H1 locs1 → W p l e room_1 s m #[Value.ref b] below meth c H1 locs1 (cells + 692) (slots + 11937) Q (F0 m 1653 ls [])) : W p l e room_1 s m #[Value.ref b] below meth c H locs cells slots Q (F0 m 1350 ls []) := by
  obtain ⟨hx, hb, hml, hr, hown, hts, hK, hA, hlk, hN⟩ := id C0
  have hrc := lw_rc
  have hrs := lw_rs
  refine lv_aload_n hx hb dL_law_1350 rfl (lv_at hl 1 rfl) ?_
  refine lv_aload_n hx hb dL_law_1351 rfl (lv_at hl 0 rfl) ?_
  refine lv_iload_n hx hb dL_law_1352 rfl (lv_at hl 3 rfl) ?_
  refine lv_iconst (v := 1) hx hb dL_law_1353 (by decide) ?_
  refine lv_iadd hx hb dL_law_1354 ?_
  refine va_sld hx hb hX hbl hbA hS (show vp_in (nI i + 1) L from lw_in hi hL (k := 1) (by decide)) dL_law_1355 ?_
  refine lv_aload_n hx hb dL_law_1356 rfl (lv_at hl 0 rfl) ?_
  refine lv_iload_n hx hb dL_law_1357 rfl (lv_at hl 3 rfl) ?_
  refine lv_iconst (v := 2) hx hb dL_law_1358 (by decide) ?_
  refine lv_iadd hx hb dL_law_1359 ?_
  refine va_sld hx hb hX hbl hbA hS (show vp_in (nI i + 2) L from lw_in hi hL (k := 2) (by decide)) dL_law_1360 ?_
  obtain ⟨r, S1, S2, e1, e2, d2, I2⟩ := s_done I (xs (Int32.toNatClampNeg (nI i + 1))) (xs (Int32.toNatClampNeg (nI i + 2)))
  refine z_goi C0 hw hS (res := (r, S1)) (rest := []) (arr := (Value.ref (F 20) :: [.int (xs (Int32.toNatClampNeg (nI i + 1))), .int (xs (Int32.toNatClampNeg (nI i + 2)))]).toArray) ?_ (fun H locs hw hS => ?_)
  · exact va_runV (z_fix C0) (c_X11_done l D Y F G S _ (xs (Int32.toNatClampNeg (nI i + 1))) (xs (Int32.toNatClampNeg (nI i + 2))) (r, S1) e1) (cwV 2 hts gL_law_X11_done rfl rfl rfl (by decide +kernel) ⟨Nat.le_of_ble_eq_true rfl, Nat.le_of_ble_eq_true rfl⟩) ⟨zPc_blind, z_rv C0 hw (k := 20) rfl rfl rfl rfl, z_give C0 hw hS _⟩ rfl rfl hl.1 rfl (lv_room (Nat.le_of_ble_eq_true rfl)) dL_law_1361 ⟨by rw [hrc]; omega, by rw [hrs]; omega⟩
  refine lv_aload_n hx hb dL_law_1364 rfl (lv_at hl 2 rfl) ?_
  refine lv_aload_n hx hb dL_law_1365 rfl (lv_at hl 0 rfl) ?_
  refine lv_iload_n hx hb dL_law_1366 rfl (lv_at hl 3 rfl) ?_
  refine lv_iconst (v := 1) hx hb dL_law_1367 (by decide) ?_
  refine lv_iadd hx hb dL_law_1368 ?_
  refine va_sld hx hb hX hbl hbA hS (show vp_in (nI i + 1) L from lw_in hi hL (k := 1) (by decide)) dL_law_1369 ?_
  refine lv_aload_n hx hb dL_law_1370 rfl (lv_at hl 0 rfl) ?_
  refine lv_iload_n hx hb dL_law_1371 rfl (lv_at hl 3 rfl) ?_
  refine lv_iconst (v := 2) hx hb dL_law_1372 (by decide) ?_
  refine lv_iadd hx hb dL_law_1373 ?_
  refine va_sld hx hb hX hbl hbA hS (show vp_in (nI i + 2) L from lw_in hi hL (k := 2) (by decide)) dL_law_1374 ?_
  refine z_goi C0 hw hS (res := (r, S2)) (rest := [.int r]) (arr := (Value.ref (F 0) :: [.int (xs (Int32.toNatClampNeg (nI i + 1))), .int (xs (Int32.toNatClampNeg (nI i + 2)))]).toArray) ?_ (fun H locs hw hS => ?_)
  · exact va_runV (z_fix C0) (c_X12_done l D Y F G S1 _ (xs (Int32.toNatClampNeg (nI i + 1))) (xs (Int32.toNatClampNeg (nI i + 2))) (r, S2) e2) (cwV 2 hts gL_law_X12_done rfl rfl rfl (by decide +kernel) ⟨Nat.le_of_ble_eq_true rfl, Nat.le_of_ble_eq_true rfl⟩) ⟨zPc_blind, z_rv C0 hw (k := 0) rfl rfl rfl rfl, z_give C0 hw hS _⟩ rfl rfl hl.1 rfl (lv_room (Nat.le_of_ble_eq_true rfl)) dL_law_1375 ⟨by rw [hrc]; omega, by rw [hrs]; omega⟩
  refine lv_icmp_eq (tgt := 1653) hx hb dL_law_1378 (by decide) (fun _ => ?_) (fun q => absurd rfl q)
  refine W.widen (k := cells + 692) (n := slots + 11937) (by omega) (by omega) ?_
  exact kk G _ _ _ _ I2 hw hS
