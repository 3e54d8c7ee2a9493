theorem z_zq {C n d : String} {A : Nat → Prop} {U : State} {H : Heap} (h : va_Zq C n d A U H) : ∃ o : Option Nat, va_Z C n d (va_rf o) A U H := by
  rcases h with h | ⟨t, h⟩
  · exact ⟨none, h⟩
  · exact ⟨some t, h⟩

def M_J0_coder_7d493 (S : zSt) (t0 : Nat) : Option (Int32) :=
  (if (1 : Int32) = 0 then some 1 else some 0)
set_option maxHeartbeats 4000000 in
set_option maxRecDepth 100000 in
theorem c_J0_coder_7d493 (l : Launch) (D : va_G) (Y : Nat → ClassId) (F : Nat → Nat) (G : zG) (S : zSt) (sz : Nat) (t0 : Nat) (ht0 : t0 < 6) (res : Int32) (h : M_J0_coder_7d493 S t0 = some res) : Met l yJ0_coder_7d493 wsJ0_coder_7d493 (zRm 0 0) (zPc D Y F G S sz [.ref (F (200 + t0))]) (zQi D Y F (zAo F G sz) G (res, S)) 0 0 (zAo F G sz) := by
  unfold M_J0_coder_7d493 at h
  refine zMet (cc := cJ0_coder_7d493) (maxL := 1) (ret := (some .byte)) (own := RJ0) (by decide +kernel) rfl rfl (Nat.le_of_ble_eq_true rfl) ?_
  intro p e s m args below meth c C0 hin hw hS ls hl
  have hl : lv_has ls 1 [(0, .ref (F (200 + t0)))] := hl
  generalize zAo F G sz = A at C0 hw hS ⊢
  obtain ⟨hx, hb, hml, hr, hown, hts, hK, hA, hlk, hN⟩ := id C0
  refine va_gets hx hb hN.2.2.2.2.2.2.1 hS hown (hts _ (List.mem_of_getElem? (i := 1) rfl)) (fun _ h => h) dJ0_coder_7d493_0 ?_
  refine lv_if_eq (tgt := 13) hx hb dJ0_coder_7d493_3 (by decide) (fun c1 => ?_) (fun c1 => ?_)
  · replace h := z_ifp c1 h
    refine lv_iconst (v := 1) hx hb dJ0_coder_7d493_13 (by decide) ?_
    exact z_retz C0 hw hS rfl (congrArg (fun z => (z, S)) (Option.some.inj h)) dJ0_coder_7d493_14
  · replace h := z_ifn c1 h
    refine lv_aload_n hx hb dJ0_coder_7d493_6 rfl (lv_at hl 0 rfl) ?_
    refine vk_getf (q := F (200 + t0)) (v := .int 0) hx hb (hN.2.2.2.1.1 t0 ht0).2.1 hS hown (hts _ (List.mem_of_getElem? (i := 2) rfl)) (fun _ h => h) dJ0_coder_7d493_7 ?_
    refine lv_goto (tgt := 14) hx hb dJ0_coder_7d493_10 (by decide) ?_
    exact z_retz C0 hw hS rfl (congrArg (fun z => (z, S)) (Option.some.inj h)) dJ0_coder_7d493_14
def M_J0_length_8abf5 (S : zSt) (t0 : Nat) : Option (Int32) :=
  Option.bind (M_J0_coder_7d493 S t0) (fun w1 => some (((Int32.ofNat (zLen.getD t0 0)) >>> (w1 &&& 31))))
set_option maxHeartbeats 4000000 in
set_option maxRecDepth 100000 in
theorem c_J0_length_8abf5 (l : Launch) (D : va_G) (Y : Nat → ClassId) (F : Nat → Nat) (G : zG) (S : zSt) (sz : Nat) (t0 : Nat) (ht0 : t0 < 6) (res : Int32) (h : M_J0_length_8abf5 S t0 = some res) : Met l yJ0_length_8abf5 wsJ0_length_8abf5 (zRm 1 20) (zPc D Y F G S sz [.ref (F (200 + t0))]) (zQi D Y F (zAo F G sz) G (res, S)) 0 0 (zAo F G sz) := by
  unfold M_J0_length_8abf5 at h
  refine zMet (cc := cJ0_length_8abf5) (maxL := 1) (ret := (some .int)) (own := RJ0) (by decide +kernel) rfl rfl (Nat.le_of_ble_eq_true rfl) ?_
  intro p e s m args below meth c C0 hin hw hS ls hl
  have hl : lv_has ls 1 [(0, .ref (F (200 + t0)))] := hl
  generalize zAo F G sz = A at C0 hw hS ⊢
  obtain ⟨hx, hb, hml, hr, hown, hts, hK, hA, hlk, hN⟩ := id C0
  refine lv_aload_n hx hb dJ0_length_8abf5_0 rfl (lv_at hl 0 rfl) ?_
  refine vk_getf (q := F (200 + t0)) (v := .ref (F (220 + t0))) hx hb (hN.2.2.2.1.1 t0 ht0).2.2.1 hS hown (hts _ (List.mem_of_getElem? (i := 1) rfl)) (fun _ h => h) dJ0_length_8abf5_1 ?_
  refine va_tlen (v := (Int32.ofNat (zLen.getD t0 0))) hx hb (hN.2.2.2.1.1 t0 ht0).2.2.2 hS rfl dJ0_length_8abf5_4 ?_
  refine lv_aload_n hx hb dJ0_length_8abf5_5 rfl (lv_at hl 0 rfl) ?_
  obtain ⟨w1, ew1, h⟩ := z_bd h
  refine z_goi C0 hw hS (res := (w1, S)) (rest := [.int ((Int32.ofNat (zLen.getD t0 0)))]) (arr := (Value.ref (F (200 + t0)) :: []).toArray) ?_ (fun H locs hw hS => ?_)
  · exact va_runV (z_fix C0) (c_J0_coder_7d493 l D Y F G S _ t0 ht0 w1 ew1) (cwV 0 hts gJ0_length_8abf5_J0_coder_7d493 rfl rfl rfl (by decide +kernel) ⟨Nat.le_of_ble_eq_true rfl, Nat.le_of_ble_eq_true rfl⟩) ⟨zPc_blind, vk_recv (i := t0) hN.2.2.2.1 ht0 hS, z_give C0 hw hS _⟩ rfl rfl hl.1 rfl (lv_room (Nat.le_of_ble_eq_true rfl)) dJ0_length_8abf5_6 ⟨Nat.zero_le _, Nat.zero_le _⟩
  refine lv_ishr hx hb dJ0_length_8abf5_9 ?_
  exact z_reti C0 hw hS (congrArg (fun z => (z, S)) (Option.some.inj h)) dJ0_length_8abf5_10
def M_J0_isLatin1_aae02 (S : zSt) (t0 : Nat) : Option (Int32) :=
  (if (1 : Int32) = 0 then some 0 else (if (0 : Int32) = 0 then some 1 else some 0))
set_option maxHeartbeats 4000000 in
set_option maxRecDepth 100000 in
theorem c_J0_isLatin1_aae02 (l : Launch) (D : va_G) (Y : Nat → ClassId) (F : Nat → Nat) (G : zG) (S : zSt) (sz : Nat) (t0 : Nat) (ht0 : t0 < 6) (res : Int32) (h : M_J0_isLatin1_aae02 S t0 = some res) : Met l yJ0_isLatin1_aae02 wsJ0_isLatin1_aae02 (zRm 0 0) (zPc D Y F G S sz [.ref (F (200 + t0))]) (zQi D Y F (zAo F G sz) G (res, S)) 0 0 (zAo F G sz) := by
  unfold M_J0_isLatin1_aae02 at h
  refine zMet (cc := cJ0_isLatin1_aae02) (maxL := 1) (ret := (some .boolean)) (own := RJ0) (by decide +kernel) rfl rfl (Nat.le_of_ble_eq_true rfl) ?_
  intro p e s m args below meth c C0 hin hw hS ls hl
  have hl : lv_has ls 1 [(0, .ref (F (200 + t0)))] := hl
  generalize zAo F G sz = A at C0 hw hS ⊢
  obtain ⟨hx, hb, hml, hr, hown, hts, hK, hA, hlk, hN⟩ := id C0
  refine va_gets hx hb hN.2.2.2.2.2.2.1 hS hown (hts _ (List.mem_of_getElem? (i := 1) rfl)) (fun _ h => h) dJ0_isLatin1_aae02_0 ?_
  refine lv_if_eq (tgt := 17) hx hb dJ0_isLatin1_aae02_3 (by decide) (fun c1 => ?_) (fun c1 => ?_)
  · replace h := z_ifp c1 h
    refine lv_iconst (v := 0) hx hb dJ0_isLatin1_aae02_17 (by decide) ?_
    exact z_retz C0 hw hS rfl (congrArg (fun z => (z, S)) (Option.some.inj h)) dJ0_isLatin1_aae02_18
  · replace h := z_ifn c1 h
    refine lv_aload_n hx hb dJ0_isLatin1_aae02_6 rfl (lv_at hl 0 rfl) ?_
    refine vk_getf (q := F (200 + t0)) (v := .int 0) hx hb (hN.2.2.2.1.1 t0 ht0).2.1 hS hown (hts _ (List.mem_of_getElem? (i := 2) rfl)) (fun _ h => h) dJ0_isLatin1_aae02_7 ?_
    refine lv_if_ne (tgt := 17) hx hb dJ0_isLatin1_aae02_10 (by decide) (fun c2 => ?_) (fun c2 => ?_)
    · replace h := z_ifn c2 h
      refine lv_iconst (v := 0) hx hb dJ0_isLatin1_aae02_17 (by decide) ?_
      exact z_retz C0 hw hS rfl (congrArg (fun z => (z, S)) (Option.some.inj h)) dJ0_isLatin1_aae02_18
    · replace h := z_ifp c2 h
      refine lv_iconst (v := 1) hx hb dJ0_isLatin1_aae02_13 (by decide) ?_
      refine lv_goto (tgt := 18) hx hb dJ0_isLatin1_aae02_14 (by decide) ?_
      exact z_retz C0 hw hS rfl (congrArg (fun z => (z, S)) (Option.some.inj h)) dJ0_isLatin1_aae02_18
def M_J3_checkIndex_8e157_B9 (S : zSt) (x0 : Int32) (x1 : Int32) : Option (Int32) :=
  zg false none
set_option maxHeartbeats 4000000 in
set_option maxRecDepth 100000 in
theorem t_J3_checkIndex_8e157_B9 {p : Program} {l : Launch} {e : Env} {s : State} {m : MethodId} {args : Array Value} {below : List Frame} {meth : Method} {c : Code} {D : va_G} {Y : Nat → ClassId} {F : Nat → Nat} {A : Nat → Prop} {G : zG} (C0 : zCx p s m args meth c D Y F A RJ3 cJ3_checkIndex_8e157 3 (some .int) wsJ3_checkIndex_8e157) (S : zSt) (o2 : Option Nat) (res : Int32) : ∀ (x0 : Int32) (x1 : Int32), M_J3_checkIndex_8e157_B9 S x0 x1 = some res → ∀ (H : Heap) (locs : List Loc) (ls : Array Slot), zH D Y F A G S H → va_S A s.heap H locs → lv_has ls 3 [(0, .int x0), (1, .int x1), (2, va_rf o2)] → W p l e (zRm 0 0) s m args below meth c H locs 0 0 (MQ below (zQi D Y F A G (res, S)) args s 0 0 A) (F0 m 9 ls []) := by
  obtain ⟨hx, hb, hml, hr, hown, hts, hK, hA, hlk, hN⟩ := id C0
  intro x0 x1 h H locs ls hw hS hl
  unfold M_J3_checkIndex_8e157_B9 at h
  exact absurd (z_gd h).1 (by decide)
def M_J3_checkIndex_8e157 (S : zSt) (x0 : Int32) (x1 : Int32) : Option (Int32) :=
  (if x0 < 0 then M_J3_checkIndex_8e157_B9 S x0 x1 else (if x0 < x1 then some x0 else M_J3_checkIndex_8e157_B9 S x0 x1))
set_option maxHeartbeats 4000000 in
set_option maxRecDepth 100000 in
theorem c_J3_checkIndex_8e157 (l : Launch) (D : va_G) (Y : Nat → ClassId) (F : Nat → Nat) (G : zG) (S : zSt) (sz : Nat) (o2 : Option Nat) (x0 : Int32) (x1 : Int32) (res : Int32) (h : M_J3_checkIndex_8e157 S x0 x1 = some res) : Met l yJ3_checkIndex_8e157 wsJ3_checkIndex_8e157 (zRm 0 0) (zPc D Y F G S sz [.int x0, .int x1, va_rf o2]) (zQi D Y F (zAo F G sz) G (res, S)) 0 0 (zAo F G sz) := by
  unfold M_J3_checkIndex_8e157 at h
  rcases o2 with _ | z1
  · refine zMet (cc := cJ3_checkIndex_8e157) (maxL := 3) (ret := (some .int)) (own := RJ3) (by decide +kernel) rfl rfl (Nat.le_of_ble_eq_true rfl) ?_
    intro p e s m args below meth c C0 hin hw hS ls hl
    have hl : lv_has ls 3 [(0, .int x0), (1, .int x1), (2, va_rf (none : Option Nat))] := hl
    generalize zAo F G sz = A at C0 hw hS ⊢
    obtain ⟨hx, hb, hml, hr, hown, hts, hK, hA, hlk, hN⟩ := id C0
    refine lv_iload_n hx hb dJ3_checkIndex_8e157_0 rfl (lv_at hl 0 rfl) ?_
    refine lv_if_lt (tgt := 9) hx hb dJ3_checkIndex_8e157_1 (by decide) (fun c2 => ?_) (fun c2 => ?_)
    · replace h := z_ifp c2 h
      exact t_J3_checkIndex_8e157_B9 C0 S (none : Option Nat) res x0 x1 h _ _ _ hw hS (lv_sub hl [0, 1, 2] rfl)
    · replace h := z_ifn c2 h
      refine lv_iload_n hx hb dJ3_checkIndex_8e157_4 rfl (lv_at hl 0 rfl) ?_
      refine lv_iload_n hx hb dJ3_checkIndex_8e157_5 rfl (lv_at hl 1 rfl) ?_
      refine lv_icmp_lt (tgt := 16) hx hb dJ3_checkIndex_8e157_6 (by decide) (fun c3 => ?_) (fun c3 => ?_)
      · replace h := z_ifp c3 h
        refine lv_iload_n hx hb dJ3_checkIndex_8e157_16 rfl (lv_at hl 0 rfl) ?_
        exact z_reti C0 hw hS (congrArg (fun z => (z, S)) (Option.some.inj h)) dJ3_checkIndex_8e157_17
      · replace h := z_ifn c3 h
        exact t_J3_checkIndex_8e157_B9 C0 S (none : Option Nat) res x0 x1 h _ _ _ hw hS (lv_sub hl [0, 1, 2] rfl)
  · refine zMet (cc := cJ3_checkIndex_8e157) (maxL := 3) (ret := (some .int)) (own := RJ3) (by decide +kernel) rfl rfl (Nat.le_of_ble_eq_true rfl) ?_
    intro p e s m args below meth c C0 hin hw hS ls hl
    have hl : lv_has ls 3 [(0, .int x0), (1, .int x1), (2, va_rf (some z1))] := hl
    generalize zAo F G sz = A at C0 hw hS ⊢
    obtain ⟨hx, hb, hml, hr, hown, hts, hK, hA, hlk, hN⟩ := id C0
    refine lv_iload_n hx hb dJ3_checkIndex_8e157_0 rfl (lv_at hl 0 rfl) ?_
    refine lv_if_lt (tgt := 9) hx hb dJ3_checkIndex_8e157_1 (by decide) (fun c4 => ?_) (fun c4 => ?_)
    · replace h := z_ifp c4 h
      exact t_J3_checkIndex_8e157_B9 C0 S (some z1) res x0 x1 h _ _ _ hw hS (lv_sub hl [0, 1, 2] rfl)
    · replace h := z_ifn c4 h
      refine lv_iload_n hx hb dJ3_checkIndex_8e157_4 rfl (lv_at hl 0 rfl) ?_
      refine lv_iload_n hx hb dJ3_checkIndex_8e157_5 rfl (lv_at hl 1 rfl) ?_
      refine lv_icmp_lt (tgt := 16) hx hb dJ3_checkIndex_8e157_6 (by decide) (fun c5 => ?_) (fun c5 => ?_)
      · replace h := z_ifp c5 h
        refine lv_iload_n hx hb dJ3_checkIndex_8e157_16 rfl (lv_at hl 0 rfl) ?_
        exact z_reti C0 hw hS (congrArg (fun z => (z, S)) (Option.some.inj h)) dJ3_checkIndex_8e157_17
      · replace h := z_ifn c5 h
        exact t_J3_checkIndex_8e157_B9 C0 S (some z1) res x0 x1 h _ _ _ hw hS (lv_sub hl [0, 1, 2] rfl)
def M_J0_checkIndex_df160 (S : zSt) (x0 : Int32) (x1 : Int32) : Option (zSt) :=
  Option.bind (M_J3_checkIndex_8e157 S x0 x1) (fun w2 => some S)
set_option maxHeartbeats 4000000 in
set_option maxRecDepth 100000 in
theorem c_J0_checkIndex_df160 (l : Launch) (D : va_G) (Y : Nat → ClassId) (F : Nat → Nat) (G : zG) (S : zSt) (sz : Nat) (x0 : Int32) (x1 : Int32) (res : zSt) (h : M_J0_checkIndex_df160 S x0 x1 = some res) : Met l yJ0_checkIndex_df160 wsJ0_checkIndex_df160 (zRm 1 22) (zPc D Y F G S sz [.int x0, .int x1]) (zQv D Y F (zAo F G sz) G res) 0 0 (zAo F G sz) := by
  unfold M_J0_checkIndex_df160 at h
  refine zMet (cc := cJ0_checkIndex_df160) (maxL := 2) (ret := none) (own := RJ0) (by decide +kernel) rfl rfl (Nat.le_of_ble_eq_true rfl) ?_
  intro p e s m args below meth c C0 hin hw hS ls hl
  have hl : lv_has ls 2 [(0, .int x0), (1, .int x1)] := hl
  generalize zAo F G sz = A at C0 hw hS ⊢
  obtain ⟨hx, hb, hml, hr, hown, hts, hK, hA, hlk, hN⟩ := id C0
  refine lv_iload_n hx hb dJ0_checkIndex_df160_0 rfl (lv_at hl 0 rfl) ?_
  refine lv_iload_n hx hb dJ0_checkIndex_df160_1 rfl (lv_at hl 1 rfl) ?_
  obtain ⟨o1, ho1⟩ := z_zq hN.2.2.2.2.2.2.2
  refine va_gets hx hb ho1 hS hown (hts _ (List.mem_of_getElem? (i := 1) rfl)) (fun _ h => h) dJ0_checkIndex_df160_2 ?_
  obtain ⟨w2, ew2, h⟩ := z_bd h
  refine z_goi C0 hw hS (res := (w2, S)) (rest := []) (arr := ([.int x0, .int x1, va_rf o1] : List Value).toArray) ?_ (fun H locs hw hS => ?_)
  · exact va_runS (z_fix C0) (c_J3_checkIndex_8e157 l D Y F G S _ o1 x0 x1 w2 ew2) (va_cwS 3 hts gJ0_checkIndex_df160_J3_checkIndex_8e157 rfl rfl rfl (by decide +kernel) ⟨Nat.le_of_ble_eq_true rfl, Nat.le_of_ble_eq_true rfl⟩) ⟨zPc_blind, z_give C0 hw hS _⟩ rfl rfl hl.1 rfl (lv_room (Nat.le_of_ble_eq_true rfl)) dJ0_checkIndex_df160_5 ⟨Nat.zero_le _, Nat.zero_le _⟩
  refine lv_pop hx hb dJ0_checkIndex_df160_8 rfl ?_
  exact z_retv C0 hw hS (Option.some.inj h) dJ0_checkIndex_df160_9
def M_J1_charAt_3b067 (S : zSt) (t0 : Nat) (x1 : Int32) : Option (Int32 × zSt) :=
  Option.bind (M_J0_checkIndex_df160 S x1 ((Int32.ofNat (zLen.getD t0 0)))) (fun w1 => zg (zin x1 (zLen.getD t0 0)) (zg (decide ((UInt32.toInt32 (UInt16.toUInt32 (UInt32.toUInt16 (Int32.toUInt32 ((UInt32.toInt32 (Int32.toUInt32 ((((zByt.getD t0 []).getD (Int32.toNatClampNeg x1) 0) &&& 255)) % 65536))))))) = (UInt32.toInt32 (Int32.toUInt32 ((((zByt.getD t0 []).getD (Int32.toNatClampNeg x1) 0) &&& 255)) % 65536)))) (some ((UInt32.toInt32 (Int32.toUInt32 ((((zByt.getD t0 []).getD (Int32.toNatClampNeg x1) 0) &&& 255)) % 65536)), w1))))
set_option maxHeartbeats 4000000 in
set_option maxRecDepth 100000 in
theorem c_J1_charAt_3b067 (l : Launch) (D : va_G) (Y : Nat → ClassId) (F : Nat → Nat) (G : zG) (S : zSt) (sz : Nat) (t0 : Nat) (ht0 : t0 < 6) (x1 : Int32) (res : Int32 × zSt) (h : M_J1_charAt_3b067 S t0 x1 = some res) : Met l yJ1_charAt_3b067 wsJ1_charAt_3b067 (zRm 2 43) (zPc D Y F G S sz [.ref (F (220 + t0)), .int x1]) (zQi D Y F (zAo F G sz) G res) 0 0 (zAo F G sz) := by
  unfold M_J1_charAt_3b067 at h
  refine zMet (cc := cJ1_charAt_3b067) (maxL := 2) (ret := (some .char)) (own := RJ1) (by decide +kernel) rfl rfl (Nat.le_of_ble_eq_true rfl) ?_
  intro p e s m args below meth c C0 hin hw hS ls hl
  have hl : lv_has ls 2 [(0, .ref (F (220 + t0))), (1, .int x1)] := hl
  generalize zAo F G sz = A at C0 hw hS ⊢
  obtain ⟨hx, hb, hml, hr, hown, hts, hK, hA, hlk, hN⟩ := id C0
  refine lv_iload_n hx hb dJ1_charAt_3b067_0 rfl (lv_at hl 1 rfl) ?_
  refine lv_aload_n hx hb dJ1_charAt_3b067_1 rfl (lv_at hl 0 rfl) ?_
  refine va_tlen (v := (Int32.ofNat (zLen.getD t0 0))) hx hb (hN.2.2.2.1.1 t0 ht0).2.2.2 hS rfl dJ1_charAt_3b067_2 ?_
  obtain ⟨w1, ew1, h⟩ := z_bd h
  refine z_gov C0 hw hS (res := w1) (rest := []) (arr := ([.int x1, .int ((Int32.ofNat (zLen.getD t0 0)))] : List Value).toArray) ?_ (fun H locs hw hS => ?_)
  · exact va_runS (z_fix C0) (c_J0_checkIndex_df160 l D Y F G S _ x1 ((Int32.ofNat (zLen.getD t0 0))) w1 ew1) (va_cwS 2 hts gJ1_charAt_3b067_J0_checkIndex_df160 rfl rfl rfl (by decide +kernel) ⟨Nat.le_of_ble_eq_true rfl, Nat.le_of_ble_eq_true rfl⟩) ⟨zPc_blind, z_give C0 hw hS _⟩ rfl rfl hl.1 rfl (lv_room (Nat.le_of_ble_eq_true rfl)) dJ1_charAt_3b067_3 ⟨Nat.zero_le _, Nat.zero_le _⟩
  refine lv_aload_n hx hb dJ1_charAt_3b067_6 rfl (lv_at hl 0 rfl) ?_
  refine lv_iload_n hx hb dJ1_charAt_3b067_7 rfl (lv_at hl 1 rfl) ?_
  obtain ⟨b2, h⟩ := z_gd h
  refine va_tb (v := .int ((zByt.getD t0 []).getD (Int32.toNatClampNeg x1) 0)) hx hb (hN.2.2.2.1.1 t0 ht0).2.2.2 hS (zin_in b2) rfl dJ1_charAt_3b067_8 ?_
  refine lv_sipush (v := 255) hx hb dJ1_charAt_3b067_9 (by decide) ?_
  refine lv_iand hx hb dJ1_charAt_3b067_12 ?_
  refine lv_i2c (v := (UInt32.toInt32 (Int32.toUInt32 ((((zByt.getD t0 []).getD (Int32.toNatClampNeg x1) 0) &&& 255)) % 65536))) hx hb dJ1_charAt_3b067_13 rfl ?_
  obtain ⟨b3, h⟩ := z_gd h
  exact z_retz C0 hw hS (congrArg Value.int (of_decide_eq_true b3)) (Option.some.inj h) dJ1_charAt_3b067_14
def M_J0_charAt_5068e (S : zSt) (t0 : Nat) (x1 : Int32) : Option (Int32 × zSt) :=
  Option.bind (M_J0_isLatin1_aae02 S t0) (fun w1 => (if w1 = 0 then zg false (none) else Option.bind (M_J1_charAt_3b067 S t0 x1) (fun w3 => zg (decide ((UInt32.toInt32 (UInt16.toUInt32 (UInt32.toUInt16 (Int32.toUInt32 w3.1)))) = w3.1)) (some (w3.1, w3.2)))))
set_option maxHeartbeats 4000000 in
set_option maxRecDepth 100000 in
theorem c_J0_charAt_5068e (l : Launch) (D : va_G) (Y : Nat → ClassId) (F : Nat → Nat) (G : zG) (S : zSt) (sz : Nat) (t0 : Nat) (ht0 : t0 < 6) (x1 : Int32) (res : Int32 × zSt) (h : M_J0_charAt_5068e S t0 x1 = some res) : Met l yJ0_charAt_5068e wsJ0_charAt_5068e (zRm 3 64) (zPc D Y F G S sz [.ref (F (200 + t0)), .int x1]) (zQi D Y F (zAo F G sz) G res) 0 0 (zAo F G sz) := by
  unfold M_J0_charAt_5068e at h
  refine zMet (cc := cJ0_charAt_5068e) (maxL := 2) (ret := (some .char)) (own := RJ0) (by decide +kernel) rfl rfl (Nat.le_of_ble_eq_true rfl) ?_
  intro p e s m args below meth c C0 hin hw hS ls hl
  have hl : lv_has ls 2 [(0, .ref (F (200 + t0))), (1, .int x1)] := hl
  generalize zAo F G sz = A at C0 hw hS ⊢
  obtain ⟨hx, hb, hml, hr, hown, hts, hK, hA, hlk, hN⟩ := id C0
  refine lv_aload_n hx hb dJ0_charAt_5068e_0 rfl (lv_at hl 0 rfl) ?_
  obtain ⟨w1, ew1, h⟩ := z_bd h
  refine z_goi C0 hw hS (res := (w1, S)) (rest := []) (arr := (Value.ref (F (200 + t0)) :: []).toArray) ?_ (fun H locs hw hS => ?_)
  · exact va_runV (z_fix C0) (c_J0_isLatin1_aae02 l D Y F G S _ t0 ht0 w1 ew1) (cwV 0 hts gJ0_charAt_5068e_J0_isLatin1_aae02 rfl rfl rfl (by decide +kernel) ⟨Nat.le_of_ble_eq_true rfl, Nat.le_of_ble_eq_true rfl⟩) ⟨zPc_blind, vk_recv (i := t0) hN.2.2.2.1 ht0 hS, z_give C0 hw hS _⟩ rfl rfl hl.1 rfl (lv_room (Nat.le_of_ble_eq_true rfl)) dJ0_charAt_5068e_1 ⟨Nat.zero_le _, Nat.zero_le _⟩
  refine lv_if_eq (tgt := 16) hx hb dJ0_charAt_5068e_4 (by decide) (fun c2 => ?_) (fun c2 => ?_)
  · replace h := z_ifp c2 h
    refine lv_aload_n hx hb dJ0_charAt_5068e_16 rfl (lv_at hl 0 rfl) ?_
    refine vk_getf (q := F (200 + t0)) (v := .ref (F (220 + t0))) hx hb (hN.2.2.2.1.1 t0 ht0).2.2.1 hS hown (hts _ (List.mem_of_getElem? (i := 1) rfl)) (fun _ h => h) dJ0_charAt_5068e_17 ?_
    refine lv_iload_n hx hb dJ0_charAt_5068e_20 rfl (lv_at hl 1 rfl) ?_
    exact absurd (z_gd h).1 (by decide)
  · replace h := z_ifn c2 h
    refine lv_aload_n hx hb dJ0_charAt_5068e_7 rfl (lv_at hl 0 rfl) ?_
    refine vk_getf (q := F (200 + t0)) (v := .ref (F (220 + t0))) hx hb (hN.2.2.2.1.1 t0 ht0).2.2.1 hS hown (hts _ (List.mem_of_getElem? (i := 1) rfl)) (fun _ h => h) dJ0_charAt_5068e_8 ?_
    refine lv_iload_n hx hb dJ0_charAt_5068e_11 rfl (lv_at hl 1 rfl) ?_
    obtain ⟨w3, ew3, h⟩ := z_bd h
    refine z_goi C0 hw hS (res := w3) (rest := []) (arr := ([.ref (F (220 + t0)), .int x1] : List Value).toArray) ?_ (fun H locs hw hS => ?_)
    · exact va_runS (z_fix C0) (c_J1_charAt_3b067 l D Y F G S _ t0 ht0 x1 w3 ew3) (va_cwS 2 hts gJ0_charAt_5068e_J1_charAt_3b067 rfl rfl rfl (by decide +kernel) ⟨Nat.le_of_ble_eq_true rfl, Nat.le_of_ble_eq_true rfl⟩) ⟨zPc_blind, z_give C0 hw hS _⟩ rfl rfl hl.1 rfl (lv_room (Nat.le_of_ble_eq_true rfl)) dJ0_charAt_5068e_12 ⟨Nat.zero_le _, Nat.zero_le _⟩
    obtain ⟨b4, h⟩ := z_gd h
    exact z_retz C0 hw hS (congrArg Value.int (of_decide_eq_true b4)) (Option.some.inj h) dJ0_charAt_5068e_15
