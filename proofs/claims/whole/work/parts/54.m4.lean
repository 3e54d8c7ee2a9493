set_option maxRecDepth 20000 in
theorem in_X12_again_X12 : ∀ w ∈ u_ws RX12 TX12 27, w ∈ wsX12_again := by decide +kernel
set_option maxRecDepth 20000 in
theorem in_X12_allDead_X12 : ∀ w ∈ u_ws RX12 TX12 27, w ∈ wsX12_allDead := by decide +kernel
set_option maxRecDepth 20000 in
theorem in_X12_allSmears_X12 : ∀ w ∈ u_ws RX12 TX12 27, w ∈ wsX12_allSmears := by decide +kernel
set_option maxRecDepth 20000 in
theorem in_X12_allStrength_X12 : ∀ w ∈ u_ws RX12 TX12 27, w ∈ wsX12_allStrength := by decide +kernel
set_option maxRecDepth 20000 in
theorem in_X12_behind_X12 : ∀ w ∈ u_ws RX12 TX12 27, w ∈ wsX12_behind := by decide +kernel
set_option maxRecDepth 20000 in
theorem in_X12_dies_X12 : ∀ w ∈ u_ws RX12 TX12 27, w ∈ wsX12_dies := by decide +kernel
set_option maxRecDepth 20000 in
theorem in_X12_done_X12 : ∀ w ∈ u_ws RX12 TX12 27, w ∈ wsX12_done := by decide +kernel
set_option maxRecDepth 20000 in
theorem in_X12_draw_X12 : ∀ w ∈ u_ws RX12 TX12 27, w ∈ wsX12_draw := by decide +kernel
set_option maxRecDepth 20000 in
theorem in_X12_happens_X12 : ∀ w ∈ u_ws RX12 TX12 27, w ∈ wsX12_happens := by decide +kernel
set_option maxRecDepth 20000 in
theorem in_X12_judge_X12 : ∀ w ∈ u_ws RX12 TX12 27, w ∈ wsX12_judge := by decide +kernel
set_option maxRecDepth 20000 in
theorem in_X12_keep_X12 : ∀ w ∈ u_ws RX12 TX12 27, w ∈ wsX12_keep := by decide +kernel
set_option maxRecDepth 20000 in
theorem in_X12_press_X12 : ∀ w ∈ u_ws RX12 TX12 27, w ∈ wsX12_press := by decide +kernel
set_option maxRecDepth 20000 in
theorem in_X12_straight_X12 : ∀ w ∈ u_ws RX12 TX12 27, w ∈ wsX12_straight := by decide +kernel
set_option maxRecDepth 20000 in
theorem in_X12_year_X12 : ∀ w ∈ u_ws RX12 TX12 27, w ∈ wsX12_year := by decide +kernel
def M_X12_straight_B94 (K44 : zSt → Int32 → Int32 → Int32 → Int32 → Int32 → Int32 → Int32 → Option (Int32 × zSt)) (S : zSt) (x1 : Int32) (x2 : Int32) (x3 : Int32) (x4 : Int32) (x5 : Int32) (x6 : Int32) (x7 : Int32) (x8 : Int32) : Option (Int32 × zSt) :=
  Option.bind (some ((x4 + (if 0 ≤ ((x8 - x6)) then (x8 - x6) else 0 - ((x8 - x6)))))) (fun v12 => K44 S x1 x2 x3 v12 x5 x8 ((x7 + 1)))
set_option maxHeartbeats 4000000 in
set_option maxRecDepth 100000 in
theorem t_X12_straight_B94 {p : Program} {l : Launch} {e : Env} {s : State} {m : MethodId} {args : Array Value} {below : List Frame} {meth : Method} {c : Code} {D : va_G} {Y : Nat → ClassId} {F : Nat → Nat} {A : Nat → Prop} {G : zG} (C0 : zCx p s m args meth c D Y F A RX12 cX12_straight 9 (some .int) wsX12_straight) (res : Int32 × zSt) (K44 : zSt → Int32 → Int32 → Int32 → Int32 → Int32 → Int32 → Int32 → Option (Int32 × zSt)) (hK44 : ∀ (S : zSt) (x1 : Int32) (x2 : Int32) (x3 : Int32) (x4 : Int32) (x5 : Int32) (x6 : Int32) (x7 : Int32), K44 S x1 x2 x3 x4 x5 x6 x7 = some res → ∀ (H : Heap) (locs : List Loc) (ls : Array Slot), zH D Y F A G S H → va_S A s.heap H locs → lv_has ls 9 [(0, .ref (F 0)), (1, .int x1), (2, .int x2), (3, .int x3), (4, .int x4), (5, .int x5), (6, .int x6), (7, .int x7)] → W p l e (zRm 2 43) s m args below meth c H locs 0 0 (MQ below (zQi D Y F A G res) args s 0 0 A) (F0 m 44 ls [])) : ∀ (S : zSt) (x1 : Int32) (x2 : Int32) (x3 : Int32) (x4 : Int32) (x5 : Int32) (x6 : Int32) (x7 : Int32) (x8 : Int32), M_X12_straight_B94 K44 S x1 x2 x3 x4 x5 x6 x7 x8 = some res → ∀ (H : Heap) (locs : List Loc) (ls : Array Slot), zH D Y F A G S H → va_S A s.heap H locs → lv_has ls 9 [(0, .ref (F 0)), (1, .int x1), (2, .int x2), (3, .int x3), (4, .int x4), (5, .int x5), (6, .int x6), (7, .int x7), (8, .int x8)] → W p l e (zRm 2 43) s m args below meth c H locs 0 0 (MQ below (zQi D Y F A G res) args s 0 0 A) (F0 m 94 ls []) := by
  obtain ⟨hx, hb, hml, hr, hown, hts, hK, hA, hlk, hN⟩ := id C0
  intro S x1 x2 x3 x4 x5 x6 x7 x8 h H locs ls hw hS hl
  unfold M_X12_straight_B94 at h
  refine lv_iload hx hb dX12_straight_94 (lv_at hl 4 rfl) ?_
  refine lv_iload hx hb dX12_straight_96 (lv_at hl 8 rfl) ?_
  refine lv_iload hx hb dX12_straight_98 (lv_at hl 6 rfl) ?_
  refine lv_isub hx hb dX12_straight_100 ?_
  refine va_mabs hx hb (hml.trans hl.1.symm) hown (hts _ (List.mem_of_getElem? (i := 2) rfl)) (hts _ (List.mem_of_getElem? (i := 3) rfl)) (hts _ (List.mem_of_getElem? (i := 4) rfl)) (hts _ (List.mem_of_getElem? (i := 5) rfl)) (Nat.le_of_ble_eq_true rfl) (Nat.le_of_ble_eq_true rfl) (Nat.zero_le _) (Nat.zero_le _) dX12_straight_101 ?_
  refine lv_iadd hx hb dX12_straight_104 ?_
  obtain ⟨v12, ev12, h⟩ := z_bd h
  refine z_top (Option.some.inj ev12) ?_
  refine lv_istore (lv' := [(4, .int v12), (0, .ref (F 0)), (1, .int x1), (2, .int x2), (3, .int x3), (5, .int x5), (6, .int x6), (7, .int x7), (8, .int x8)]) hx hb dX12_straight_105 hl (by decide) rfl (fun ls hl => ?_)
  refine lv_iload hx hb dX12_straight_107 (lv_at hl 8 rfl) ?_
  refine lv_istore (lv' := [(6, .int x8), (4, .int v12), (0, .ref (F 0)), (1, .int x1), (2, .int x2), (3, .int x3), (5, .int x5), (7, .int x7), (8, .int x8)]) hx hb dX12_straight_109 hl (by decide) rfl (fun ls hl => ?_)
  refine lv_iinc (v := (x7 + 1)) (lv' := [(7, .int ((x7 + 1))), (6, .int x8), (4, .int v12), (0, .ref (F 0)), (1, .int x1), (2, .int x2), (3, .int x3), (5, .int x5), (8, .int x8)]) hx hb dX12_straight_111 hl (k := 7) rfl rfl (by decide) rfl (fun ls hl => ?_)
  refine lv_goto (tgt := 44) hx hb dX12_straight_114 (by decide) ?_
  exact hK44 S x1 x2 x3 v12 x5 x8 ((x7 + 1)) h _ _ _ hw hS (lv_sub hl [3, 4, 5, 6, 2, 7, 1, 0] rfl)
def M_X12_straight_B77 (K44 : zSt → Int32 → Int32 → Int32 → Int32 → Int32 → Int32 → Int32 → Option (Int32 × zSt)) (S : zSt) (x1 : Int32) (x2 : Int32) (x3 : Int32) (x4 : Int32) (x5 : Int32) (x6 : Int32) (x7 : Int32) (x8 : Int32) : Option (Int32 × zSt) :=
  (if x8 = x6 then M_X12_straight_B94 K44 S x1 x2 x3 x4 x5 x6 x7 x8 else (if x5 = (-1) then M_X12_straight_B94 K44 S x1 x2 x3 x4 x7 x6 x7 x8 else M_X12_straight_B94 K44 S x1 x2 x3 x4 x5 x6 x7 x8))
set_option maxHeartbeats 4000000 in
set_option maxRecDepth 100000 in
theorem t_X12_straight_B77 {p : Program} {l : Launch} {e : Env} {s : State} {m : MethodId} {args : Array Value} {below : List Frame} {meth : Method} {c : Code} {D : va_G} {Y : Nat → ClassId} {F : Nat → Nat} {A : Nat → Prop} {G : zG} (C0 : zCx p s m args meth c D Y F A RX12 cX12_straight 9 (some .int) wsX12_straight) (res : Int32 × zSt) (K44 : zSt → Int32 → Int32 → Int32 → Int32 → Int32 → Int32 → Int32 → Option (Int32 × zSt)) (hK44 : ∀ (S : zSt) (x1 : Int32) (x2 : Int32) (x3 : Int32) (x4 : Int32) (x5 : Int32) (x6 : Int32) (x7 : Int32), K44 S x1 x2 x3 x4 x5 x6 x7 = some res → ∀ (H : Heap) (locs : List Loc) (ls : Array Slot), zH D Y F A G S H → va_S A s.heap H locs → lv_has ls 9 [(0, .ref (F 0)), (1, .int x1), (2, .int x2), (3, .int x3), (4, .int x4), (5, .int x5), (6, .int x6), (7, .int x7)] → W p l e (zRm 2 43) s m args below meth c H locs 0 0 (MQ below (zQi D Y F A G res) args s 0 0 A) (F0 m 44 ls [])) : ∀ (S : zSt) (x1 : Int32) (x2 : Int32) (x3 : Int32) (x4 : Int32) (x5 : Int32) (x6 : Int32) (x7 : Int32) (x8 : Int32), M_X12_straight_B77 K44 S x1 x2 x3 x4 x5 x6 x7 x8 = some res → ∀ (H : Heap) (locs : List Loc) (ls : Array Slot), zH D Y F A G S H → va_S A s.heap H locs → lv_has ls 9 [(0, .ref (F 0)), (1, .int x1), (2, .int x2), (3, .int x3), (4, .int x4), (5, .int x5), (6, .int x6), (7, .int x7), (8, .int x8)] → W p l e (zRm 2 43) s m args below meth c H locs 0 0 (MQ below (zQi D Y F A G res) args s 0 0 A) (F0 m 77 ls []) := by
  obtain ⟨hx, hb, hml, hr, hown, hts, hK, hA, hlk, hN⟩ := id C0
  intro S x1 x2 x3 x4 x5 x6 x7 x8 h H locs ls hw hS hl
  unfold M_X12_straight_B77 at h
  refine lv_iload hx hb dX12_straight_77 (lv_at hl 8 rfl) ?_
  refine lv_iload hx hb dX12_straight_79 (lv_at hl 6 rfl) ?_
  refine lv_icmp_eq (tgt := 94) hx hb dX12_straight_81 (by decide) (fun c11 => ?_) (fun c11 => ?_)
  · replace h := z_ifp c11 h
    exact t_X12_straight_B94 C0 res K44 hK44 S x1 x2 x3 x4 x5 x6 x7 x8 h _ _ _ hw hS (lv_sub hl [0, 1, 2, 3, 4, 5, 6, 7, 8] rfl)
  · replace h := z_ifn c11 h
    refine lv_iload hx hb dX12_straight_84 (lv_at hl 5 rfl) ?_
    refine lv_iconst (v := (-1)) hx hb dX12_straight_86 (by decide) ?_
    refine lv_icmp_ne (tgt := 94) hx hb dX12_straight_87 (by decide) (fun c13 => ?_) (fun c13 => ?_)
    · replace h := z_ifn c13 h
      exact t_X12_straight_B94 C0 res K44 hK44 S x1 x2 x3 x4 x5 x6 x7 x8 h _ _ _ hw hS (lv_sub hl [0, 1, 2, 3, 4, 5, 6, 7, 8] rfl)
    · replace h := z_ifp c13 h
      refine lv_iload hx hb dX12_straight_90 (lv_at hl 7 rfl) ?_
      refine lv_istore (lv' := [(5, .int x7), (0, .ref (F 0)), (1, .int x1), (2, .int x2), (3, .int x3), (4, .int x4), (6, .int x6), (7, .int x7), (8, .int x8)]) hx hb dX12_straight_92 hl (by decide) rfl (fun ls hl => ?_)
      exact t_X12_straight_B94 C0 res K44 hK44 S x1 x2 x3 x4 x7 x6 x7 x8 h _ _ _ hw hS (lv_sub hl [1, 2, 3, 4, 5, 0, 6, 7, 8] rfl)
def M_X12_straight_B44 : Nat → zSt → Int32 → Int32 → Int32 → Int32 → Int32 → Int32 → Int32 → Option (Int32 × zSt)
  | 0, _, _, _, _, _, _, _, _ => none
  | n + 1, S, x1, x2, x3, x4, x5, x6, x7 =>
  (if 6 ≤ x7 then (if x2 = 0 then some (x3, S) else (if x2 = 1 then some (x4, S) else some (x5, S))) else zg (zin ((((6 : Int32) * x1) + x7)) 36) (Option.bind (some ((zar S 9 (Int32.toNatClampNeg ((((6 : Int32) * x1) + x7)))))) (fun v9 => (if v9 = 0 then Option.bind (some ((x3 ||| ((1 : Int32) <<< (x7 &&& 31))))) (fun v14 => M_X12_straight_B77 (fun S_ x1_ x2_ x3_ x4_ x5_ x6_ x7_ => M_X12_straight_B44 n S_ x1_ x2_ x3_ x4_ x5_ x6_ x7_) S x1 x2 v14 x4 x5 x6 x7 v9) else M_X12_straight_B77 (fun S_ x1_ x2_ x3_ x4_ x5_ x6_ x7_ => M_X12_straight_B44 n S_ x1_ x2_ x3_ x4_ x5_ x6_ x7_) S x1 x2 x3 x4 x5 x6 x7 v9))))
set_option maxHeartbeats 4000000 in
set_option maxRecDepth 100000 in
theorem t_X12_straight_B44 {p : Program} {l : Launch} {e : Env} {s : State} {m : MethodId} {args : Array Value} {below : List Frame} {meth : Method} {c : Code} {D : va_G} {Y : Nat → ClassId} {F : Nat → Nat} {A : Nat → Prop} {G : zG} (C0 : zCx p s m args meth c D Y F A RX12 cX12_straight 9 (some .int) wsX12_straight) (res : Int32 × zSt) : ∀ (n : Nat), ∀ (S : zSt) (x1 : Int32) (x2 : Int32) (x3 : Int32) (x4 : Int32) (x5 : Int32) (x6 : Int32) (x7 : Int32), M_X12_straight_B44 n S x1 x2 x3 x4 x5 x6 x7 = some res → ∀ (H : Heap) (locs : List Loc) (ls : Array Slot), zH D Y F A G S H → va_S A s.heap H locs → lv_has ls 9 [(0, .ref (F 0)), (1, .int x1), (2, .int x2), (3, .int x3), (4, .int x4), (5, .int x5), (6, .int x6), (7, .int x7)] → W p l e (zRm 2 43) s m args below meth c H locs 0 0 (MQ below (zQi D Y F A G res) args s 0 0 A) (F0 m 44 ls []) := by
  obtain ⟨hx, hb, hml, hr, hown, hts, hK, hA, hlk, hN⟩ := id C0
  intro n
  induction n with
  | zero =>
    intro S x1 x2 x3 x4 x5 x6 x7 h
    unfold M_X12_straight_B44 at h
    cases h
  | succ n ih =>
    intro S x1 x2 x3 x4 x5 x6 x7 h H locs ls hw hS hl
    rw [M_X12_straight_B44] at h
    refine lv_iload hx hb dX12_straight_44 (lv_at hl 7 rfl) ?_
    refine lv_bipush (v := 6) hx hb dX12_straight_46 (by decide) ?_
    refine lv_icmp_ge (tgt := 117) hx hb dX12_straight_48 (by decide) (fun c5 => ?_) (fun c5 => ?_)
    · replace h := z_ifp c5 h
      refine lv_iload_n hx hb dX12_straight_117 rfl (lv_at hl 2 rfl) ?_
      refine lv_if_ne (tgt := 125) hx hb dX12_straight_118 (by decide) (fun c6 => ?_) (fun c6 => ?_)
      · replace h := z_ifn c6 h
        refine lv_iload_n hx hb dX12_straight_125 rfl (lv_at hl 2 rfl) ?_
        refine lv_iconst (v := 1) hx hb dX12_straight_126 (by decide) ?_
        refine lv_icmp_ne (tgt := 135) hx hb dX12_straight_127 (by decide) (fun c7 => ?_) (fun c7 => ?_)
        · replace h := z_ifn c7 h
          refine lv_iload hx hb dX12_straight_135 (lv_at hl 5 rfl) ?_
          exact z_reti C0 hw hS (Option.some.inj h) dX12_straight_137
        · replace h := z_ifp c7 h
          refine lv_iload hx hb dX12_straight_130 (lv_at hl 4 rfl) ?_
          refine lv_goto (tgt := 137) hx hb dX12_straight_132 (by decide) ?_
          exact z_reti C0 hw hS (Option.some.inj h) dX12_straight_137
      · replace h := z_ifp c6 h
        refine lv_iload_n hx hb dX12_straight_121 rfl (lv_at hl 3 rfl) ?_
        refine lv_goto (tgt := 137) hx hb dX12_straight_122 (by decide) ?_
        exact z_reti C0 hw hS (Option.some.inj h) dX12_straight_137
    · replace h := z_ifn c5 h
      refine lv_aload_n hx hb dX12_straight_51 rfl (lv_at hl 0 rfl) ?_
      refine z_get C0 in_X12_straight_X12 (C := RX12) (T := TX12) (N := 27) hw (k := 0) (ci := 12) (v := .ref (F 9)) rfl rfl rfl rfl 9 (by decide) rfl 1 rfl dX12_straight_52 ?_
      refine lv_bipush (v := 6) hx hb dX12_straight_55 (by decide) ?_
      refine lv_iload_n hx hb dX12_straight_57 rfl (lv_at hl 1 rfl) ?_
      refine lv_imul hx hb dX12_straight_58 ?_
      refine lv_iload hx hb dX12_straight_59 (lv_at hl 7 rfl) ?_
      refine lv_iadd hx hb dX12_straight_61 ?_
      obtain ⟨b8, h⟩ := z_gd h
      refine z_iald C0 hw 9 rfl rfl zri_9 (zin_in b8) dX12_straight_62 ?_
      obtain ⟨v9, ev9, h⟩ := z_bd h
      refine z_top (Option.some.inj ev9) ?_
      refine lv_istore (lv' := [(8, .int v9), (0, .ref (F 0)), (1, .int x1), (2, .int x2), (3, .int x3), (4, .int x4), (5, .int x5), (6, .int x6), (7, .int x7)]) hx hb dX12_straight_63 hl (by decide) rfl (fun ls hl => ?_)
      refine lv_iload hx hb dX12_straight_65 (lv_at hl 0 rfl) ?_
      refine lv_if_ne (tgt := 77) hx hb dX12_straight_67 (by decide) (fun c10 => ?_) (fun c10 => ?_)
      · replace h := z_ifn c10 h
        exact t_X12_straight_B77 C0 res (fun S_ x1_ x2_ x3_ x4_ x5_ x6_ x7_ => M_X12_straight_B44 n S_ x1_ x2_ x3_ x4_ x5_ x6_ x7_) ih S x1 x2 x3 x4 x5 x6 x7 v9 h _ _ _ hw hS (lv_sub hl [1, 2, 3, 4, 5, 6, 7, 8, 0] rfl)
      · replace h := z_ifp c10 h
        refine lv_iload_n hx hb dX12_straight_70 rfl (lv_at hl 4 rfl) ?_
        refine lv_iconst (v := 1) hx hb dX12_straight_71 (by decide) ?_
        refine lv_iload hx hb dX12_straight_72 (lv_at hl 8 rfl) ?_
        refine lv_ishl hx hb dX12_straight_74 ?_
        refine lv_ior hx hb dX12_straight_75 ?_
        obtain ⟨v14, ev14, h⟩ := z_bd h
        refine z_top (Option.some.inj ev14) ?_
        refine lv_istore_n (lv' := [(3, .int v14), (8, .int v9), (0, .ref (F 0)), (1, .int x1), (2, .int x2), (4, .int x4), (5, .int x5), (6, .int x6), (7, .int x7)]) hx hb dX12_straight_76 rfl hl (by decide) rfl (fun ls hl => ?_)
        exact t_X12_straight_B77 C0 res (fun S_ x1_ x2_ x3_ x4_ x5_ x6_ x7_ => M_X12_straight_B44 n S_ x1_ x2_ x3_ x4_ x5_ x6_ x7_) ih S x1 x2 v14 x4 x5 x6 x7 v9 h _ _ _ hw hS (lv_sub hl [2, 3, 4, 0, 5, 6, 7, 8, 1] rfl)
def M_X12_straight (S : zSt) (x1 : Int32) (x2 : Int32) : Option (Int32 × zSt) :=
  Option.bind (M_X12_isPerson S x1) (fun w1 => (if w1 = 0 then Option.bind (M_X12_no10 S (-1)) (fun w16 => some (w16.1, w16.2)) else Option.bind (M_X12_within S x2 0 2) (fun w3 => (if w3 = 0 then Option.bind (M_X12_no10 S (-5)) (fun w15 => some (w15.1, w15.2)) else M_X12_straight_B44 zF S x1 x2 0 0 (-1) 0 0))))
set_option maxHeartbeats 4000000 in
set_option maxRecDepth 100000 in
theorem c_X12_straight (l : Launch) (D : va_G) (Y : Nat → ClassId) (F : Nat → Nat) (G : zG) (S : zSt) (sz : Nat) (x1 : Int32) (x2 : Int32) (res : Int32 × zSt) (h : M_X12_straight S x1 x2 = some res) : Met l yX12_straight wsX12_straight (zRm 2 43) (zPc D Y F G S sz [.ref (F 0), .int x1, .int x2]) (zQi D Y F (zAo F G sz) G res) 0 0 (zAo F G sz) := by
  unfold M_X12_straight at h
  refine zMet (cc := cX12_straight) (maxL := 9) (ret := (some .int)) (own := RX12) (by decide +kernel) rfl rfl (Nat.le_of_ble_eq_true rfl) ?_
  intro p e s m args below meth c C0 hin hw hS ls hl
  have hl : lv_has ls 9 [(0, .ref (F 0)), (1, .int x1), (2, .int x2)] := hl
  generalize zAo F G sz = A at C0 hw hS ⊢
  obtain ⟨hx, hb, hml, hr, hown, hts, hK, hA, hlk, hN⟩ := id C0
  refine lv_aload_n hx hb dX12_straight_0 rfl (lv_at hl 0 rfl) ?_
  refine lv_iload_n hx hb dX12_straight_1 rfl (lv_at hl 1 rfl) ?_
  obtain ⟨w1, ew1, h⟩ := z_bd h
  refine z_callVip C0 hw hS (k := 0) (As := [.int x1]) (rest := []) rfl rfl rfl rfl (c_X12_isPerson l D Y F G S _ x1 w1 ew1) (cwV 1 hts gX12_straight_X12_isPerson rfl rfl rfl (by decide +kernel) ⟨Nat.le_of_ble_eq_true rfl, Nat.le_of_ble_eq_true rfl⟩) rfl hl.1 rfl (Nat.le_of_ble_eq_true rfl) dX12_straight_2 ⟨Nat.zero_le _, Nat.zero_le _⟩ (fun H locs hw hS => ?_)
  refine lv_if_ne (tgt := 14) hx hb dX12_straight_5 (by decide) (fun c2 => ?_) (fun c2 => ?_)
  · replace h := z_ifn c2 h
    refine lv_iload_n hx hb dX12_straight_14 rfl (lv_at hl 2 rfl) ?_
    refine lv_iconst (v := 0) hx hb dX12_straight_15 (by decide) ?_
    refine lv_iconst (v := 2) hx hb dX12_straight_16 (by decide) ?_
    obtain ⟨w3, ew3, h⟩ := z_bd h
    refine z_callSip C0 hw hS (As := [.int x2, .int 0, .int 2]) (rest := []) (c_X12_within l D Y F G S _ x2 0 2 w3 ew3) (va_cwS 3 hts gX12_straight_X12_within rfl rfl rfl (by decide +kernel) ⟨Nat.le_of_ble_eq_true rfl, Nat.le_of_ble_eq_true rfl⟩) rfl hl.1 rfl (Nat.le_of_ble_eq_true rfl) dX12_straight_17 ⟨Nat.zero_le _, Nat.zero_le _⟩ (fun H locs hw hS => ?_)
    refine lv_if_ne (tgt := 30) hx hb dX12_straight_20 (by decide) (fun c4 => ?_) (fun c4 => ?_)
    · replace h := z_ifn c4 h
      refine lv_iconst (v := 0) hx hb dX12_straight_30 (by decide) ?_
      refine lv_istore_n (lv' := [(3, .int 0), (0, .ref (F 0)), (1, .int x1), (2, .int x2)]) hx hb dX12_straight_31 rfl hl (by decide) rfl (fun ls hl => ?_)
      refine lv_iconst (v := 0) hx hb dX12_straight_32 (by decide) ?_
      refine lv_istore (lv' := [(4, .int 0), (3, .int 0), (0, .ref (F 0)), (1, .int x1), (2, .int x2)]) hx hb dX12_straight_33 hl (by decide) rfl (fun ls hl => ?_)
      refine lv_iconst (v := (-1)) hx hb dX12_straight_35 (by decide) ?_
      refine lv_istore (lv' := [(5, .int (-1)), (4, .int 0), (3, .int 0), (0, .ref (F 0)), (1, .int x1), (2, .int x2)]) hx hb dX12_straight_36 hl (by decide) rfl (fun ls hl => ?_)
      refine lv_iconst (v := 0) hx hb dX12_straight_38 (by decide) ?_
      refine lv_istore (lv' := [(6, .int 0), (5, .int (-1)), (4, .int 0), (3, .int 0), (0, .ref (F 0)), (1, .int x1), (2, .int x2)]) hx hb dX12_straight_39 hl (by decide) rfl (fun ls hl => ?_)
      refine lv_iconst (v := 0) hx hb dX12_straight_41 (by decide) ?_
      refine lv_istore (lv' := [(7, .int 0), (6, .int 0), (5, .int (-1)), (4, .int 0), (3, .int 0), (0, .ref (F 0)), (1, .int x1), (2, .int x2)]) hx hb dX12_straight_42 hl (by decide) rfl (fun ls hl => ?_)
      exact t_X12_straight_B44 C0 res zF S x1 x2 0 0 (-1) 0 0 h _ _ _ hw hS (lv_sub hl [5, 6, 7, 4, 3, 2, 1, 0] rfl)
    · replace h := z_ifp c4 h
      refine lv_aload_n hx hb dX12_straight_23 rfl (lv_at hl 0 rfl) ?_
      refine lv_bipush (v := (-5)) hx hb dX12_straight_24 (by decide) ?_
      obtain ⟨w15, ew15, h⟩ := z_bd h
      refine z_callVi0 C0 hw hS (k := 0) (As := [.int (-5)]) (rest := []) rfl rfl rfl rfl (c_X12_no10 l D Y F G S _ (-5) w15 ew15) (cwV 1 hts gX12_straight_X12_no10 rfl rfl rfl (by decide +kernel) ⟨Nat.le_of_ble_eq_true rfl, Nat.le_of_ble_eq_true rfl⟩) rfl hl.1 rfl (Nat.le_of_ble_eq_true rfl) dX12_straight_26 ⟨Nat.zero_le _, Nat.zero_le _⟩ (fun H locs hw hS => ?_)
      exact z_reti C0 hw hS (Option.some.inj h) dX12_straight_29
  · replace h := z_ifp c2 h
    refine lv_aload_n hx hb dX12_straight_8 rfl (lv_at hl 0 rfl) ?_
    refine lv_iconst (v := (-1)) hx hb dX12_straight_9 (by decide) ?_
    obtain ⟨w16, ew16, h⟩ := z_bd h
    refine z_callVi0 C0 hw hS (k := 0) (As := [.int (-1)]) (rest := []) rfl rfl rfl rfl (c_X12_no10 l D Y F G S _ (-1) w16 ew16) (cwV 1 hts gX12_straight_X12_no10 rfl rfl rfl (by decide +kernel) ⟨Nat.le_of_ble_eq_true rfl, Nat.le_of_ble_eq_true rfl⟩) rfl hl.1 rfl (Nat.le_of_ble_eq_true rfl) dX12_straight_10 ⟨Nat.zero_le _, Nat.zero_le _⟩ (fun H locs hw hS => ?_)
    exact z_reti C0 hw hS (Option.some.inj h) dX12_straight_13
def M_X12_happens_B148 (S : zSt) (x2 : Int32) (x3 : Int32) (x4 : Int32) (x5 : Int32) : Option (Int32 × zSt) :=
  (if x2 = 1 then Option.bind (M_X12_presses S x3 x4 x5) (fun w14 => some (1, w14.2)) else Option.bind (M_X12_rubs S x3 x4 x5) (fun w13 => some (1, w13.2)))
set_option maxHeartbeats 4000000 in
set_option maxRecDepth 100000 in
theorem t_X12_happens_B148 {p : Program} {l : Launch} {e : Env} {s : State} {m : MethodId} {args : Array Value} {below : List Frame} {meth : Method} {c : Code} {D : va_G} {Y : Nat → ClassId} {F : Nat → Nat} {A : Nat → Prop} {G : zG} (C0 : zCx p s m args meth c D Y F A RX12 cX12_happens 6 (some .boolean) wsX12_happens) (res : Int32 × zSt) : ∀ (S : zSt) (x2 : Int32) (x3 : Int32) (x4 : Int32) (x5 : Int32), M_X12_happens_B148 S x2 x3 x4 x5 = some res → ∀ (H : Heap) (locs : List Loc) (ls : Array Slot), zH D Y F A G S H → va_S A s.heap H locs → lv_has ls 6 [(0, .ref (F 0)), (2, .int x2), (3, .int x3), (4, .int x4), (5, .int x5)] → W p l e (zRm 3 75) s m args below meth c H locs 0 0 (MQ below (zQi D Y F A G res) args s 0 0 A) (F0 m 148 ls []) := by
  obtain ⟨hx, hb, hml, hr, hown, hts, hK, hA, hlk, hN⟩ := id C0
  intro S x2 x3 x4 x5 h H locs ls hw hS hl
  unfold M_X12_happens_B148 at h
  refine lv_iload_n hx hb dX12_happens_148 rfl (lv_at hl 1 rfl) ?_
  refine lv_iconst (v := 1) hx hb dX12_happens_149 (by decide) ?_
  refine lv_icmp_ne (tgt := 166) hx hb dX12_happens_150 (by decide) (fun c12 => ?_) (fun c12 => ?_)
  · replace h := z_ifn c12 h
    refine lv_aload_n hx hb dX12_happens_166 rfl (lv_at hl 0 rfl) ?_
    refine lv_iload_n hx hb dX12_happens_167 rfl (lv_at hl 2 rfl) ?_
    refine lv_iload hx hb dX12_happens_168 (lv_at hl 3 rfl) ?_
    refine lv_iload hx hb dX12_happens_170 (lv_at hl 4 rfl) ?_
    obtain ⟨w13, ew13, h⟩ := z_bd h
    refine z_callVi0 C0 hw hS (k := 0) (As := [.int x3, .int x4, .int x5]) (rest := []) rfl rfl rfl rfl (c_X12_rubs l D Y F G S _ x3 x4 x5 w13 ew13) (cwV 3 hts gX12_happens_X12_rubs rfl rfl rfl (by decide +kernel) ⟨Nat.le_of_ble_eq_true rfl, Nat.le_of_ble_eq_true rfl⟩) rfl hl.1 rfl (Nat.le_of_ble_eq_true rfl) dX12_happens_172 ⟨Nat.zero_le _, Nat.zero_le _⟩ (fun H locs hw hS => ?_)
    refine lv_pop hx hb dX12_happens_175 rfl ?_
    refine lv_iconst (v := 1) hx hb dX12_happens_176 (by decide) ?_
    exact z_retz C0 hw hS rfl (Option.some.inj h) dX12_happens_177
  · replace h := z_ifp c12 h
    refine lv_aload_n hx hb dX12_happens_153 rfl (lv_at hl 0 rfl) ?_
    refine lv_iload_n hx hb dX12_happens_154 rfl (lv_at hl 2 rfl) ?_
    refine lv_iload hx hb dX12_happens_155 (lv_at hl 3 rfl) ?_
    refine lv_iload hx hb dX12_happens_157 (lv_at hl 4 rfl) ?_
    obtain ⟨w14, ew14, h⟩ := z_bd h
    refine z_callVi0 C0 hw hS (k := 0) (As := [.int x3, .int x4, .int x5]) (rest := []) rfl rfl rfl rfl (c_X12_presses l D Y F G S _ x3 x4 x5 w14 ew14) (cwV 3 hts gX12_happens_X12_presses rfl rfl rfl (by decide +kernel) ⟨Nat.le_of_ble_eq_true rfl, Nat.le_of_ble_eq_true rfl⟩) rfl hl.1 rfl (Nat.le_of_ble_eq_true rfl) dX12_happens_159 ⟨Nat.zero_le _, Nat.zero_le _⟩ (fun H locs hw hS => ?_)
    refine lv_pop hx hb dX12_happens_162 rfl ?_
    refine lv_goto (tgt := 176) hx hb dX12_happens_163 (by decide) ?_
    refine lv_iconst (v := 1) hx hb dX12_happens_176 (by decide) ?_
    exact z_retz C0 hw hS rfl (Option.some.inj h) dX12_happens_177
def M_X12_happens (S : zSt) (x1 : Int32) : Option (Int32 × zSt) :=
  (if 10000 ≤ x1 then (if (x1 / 10000) = 3 then Option.bind (M_X12_isPerson S ((x1 - 30000))) (fun w19 => (if w19 = 0 then some (0, S) else zg (zin ((x1 - 30000)) 6) ((if (zar S 7 (Int32.toNatClampNeg ((x1 - 30000)))) = 6 then some (0, S) else zg (zin ((x1 - 30000)) 6) (zg (zin ((x1 - 30000)) 6) (some (1, (zAs S 7 (Int32.toNatClampNeg ((x1 - 30000))) (((zar S 7 (Int32.toNatClampNeg ((x1 - 30000)))) + 1)))))))))) else Option.bind (some (((x1 / 1000) - (x1 / 1000) / 10 * 10))) (fun v3 => Option.bind (some (((x1 / 100) - (x1 / 100) / 10 * 10))) (fun v4 => (if 2 < (x1 / 10000) then some (0, S) else Option.bind (M_X12_isPerson S v3) (fun w6 => (if w6 = 0 then some (0, S) else (if (x1 / 10000) = 1 then (if 7 < v4 then some (0, S) else (if (x1 - x1 / 100 * 100) = 0 then some (0, S) else zg (zin v3 6) ((if (zar S 7 (Int32.toNatClampNeg v3)) = 6 then some (0, S) else M_X12_happens_B148 S ((x1 / 10000)) v3 v4 ((x1 - x1 / 100 * 100)))))) else Option.bind (M_X12_lives S v3 v4) (fun w9 => (if w9 = 0 then some (0, S) else (if (x1 - x1 / 100 * 100) ≤ 7 then M_X12_happens_B148 S ((x1 / 10000)) v3 v4 ((x1 - x1 / 100 * 100)) else some (0, S))))))))))) else some (0, S))
set_option maxHeartbeats 4000000 in
set_option maxRecDepth 100000 in
theorem c_X12_happens (l : Launch) (D : va_G) (Y : Nat → ClassId) (F : Nat → Nat) (G : zG) (S : zSt) (sz : Nat) (x1 : Int32) (res : Int32 × zSt) (h : M_X12_happens S x1 = some res) : Met l yX12_happens wsX12_happens (zRm 3 75) (zPc D Y F G S sz [.ref (F 0), .int x1]) (zQi D Y F (zAo F G sz) G res) 0 0 (zAo F G sz) := by
  unfold M_X12_happens at h
  refine zMet (cc := cX12_happens) (maxL := 6) (ret := (some .boolean)) (own := RX12) (by decide +kernel) rfl rfl (Nat.le_of_ble_eq_true rfl) ?_
  intro p e s m args below meth c C0 hin hw hS ls hl
  have hl : lv_has ls 6 [(0, .ref (F 0)), (1, .int x1)] := hl
  generalize zAo F G sz = A at C0 hw hS ⊢
  obtain ⟨hx, hb, hml, hr, hown, hts, hK, hA, hlk, hN⟩ := id C0
  refine lv_iload_n hx hb dX12_happens_0 rfl (lv_at hl 1 rfl) ?_
  refine lv_sipush (v := 10000) hx hb dX12_happens_1 (by decide) ?_
  refine lv_icmp_ge (tgt := 9) hx hb dX12_happens_4 (by decide) (fun c1 => ?_) (fun c1 => ?_)
  · replace h := z_ifp c1 h
    refine lv_iload_n hx hb dX12_happens_9 rfl (lv_at hl 1 rfl) ?_
    refine lv_sipush (v := 10000) hx hb dX12_happens_10 (by decide) ?_
    refine lv_idiv hx hb dX12_happens_13 (by decide) ?_
    refine lv_istore_n (lv' := [(2, .int ((x1 / 10000))), (0, .ref (F 0)), (1, .int x1)]) hx hb dX12_happens_14 rfl hl (by decide) rfl (fun ls hl => ?_)
    refine lv_iload_n hx hb dX12_happens_15 rfl (lv_at hl 0 rfl) ?_
    refine lv_iconst (v := 3) hx hb dX12_happens_16 (by decide) ?_
    refine lv_icmp_ne (tgt := 59) hx hb dX12_happens_17 (by decide) (fun c2 => ?_) (fun c2 => ?_)
    · replace h := z_ifn c2 h
      refine lv_iload_n hx hb dX12_happens_59 rfl (lv_at hl 2 rfl) ?_
      refine lv_sipush (v := 1000) hx hb dX12_happens_60 (by decide) ?_
      refine lv_idiv hx hb dX12_happens_63 (by decide) ?_
      refine lv_bipush (v := 10) hx hb dX12_happens_64 (by decide) ?_
      refine lv_irem hx hb dX12_happens_66 (by decide) ?_
      obtain ⟨v3, ev3, h⟩ := z_bd h
      refine z_top (Option.some.inj ev3) ?_
      refine lv_istore_n (lv' := [(3, .int v3), (2, .int ((x1 / 10000))), (0, .ref (F 0)), (1, .int x1)]) hx hb dX12_happens_67 rfl hl (by decide) rfl (fun ls hl => ?_)
      refine lv_iload_n hx hb dX12_happens_68 rfl (lv_at hl 3 rfl) ?_
      refine lv_bipush (v := 100) hx hb dX12_happens_69 (by decide) ?_
      refine lv_idiv hx hb dX12_happens_71 (by decide) ?_
      refine lv_bipush (v := 10) hx hb dX12_happens_72 (by decide) ?_
      refine lv_irem hx hb dX12_happens_74 (by decide) ?_
      obtain ⟨v4, ev4, h⟩ := z_bd h
      refine z_top (Option.some.inj ev4) ?_
      refine lv_istore (lv' := [(4, .int v4), (3, .int v3), (2, .int ((x1 / 10000))), (0, .ref (F 0)), (1, .int x1)]) hx hb dX12_happens_75 hl (by decide) rfl (fun ls hl => ?_)
      refine lv_iload_n hx hb dX12_happens_77 rfl (lv_at hl 4 rfl) ?_
      refine lv_bipush (v := 100) hx hb dX12_happens_78 (by decide) ?_
      refine lv_irem hx hb dX12_happens_80 (by decide) ?_
      refine lv_istore (lv' := [(5, .int ((x1 - x1 / 100 * 100))), (4, .int v4), (3, .int v3), (2, .int ((x1 / 10000))), (0, .ref (F 0)), (1, .int x1)]) hx hb dX12_happens_81 hl (by decide) rfl (fun ls hl => ?_)
      refine lv_iload_n hx hb dX12_happens_83 rfl (lv_at hl 3 rfl) ?_
      refine lv_iconst (v := 2) hx hb dX12_happens_84 (by decide) ?_
      refine lv_icmp_gt (tgt := 96) hx hb dX12_happens_85 (by decide) (fun c5 => ?_) (fun c5 => ?_)
      · replace h := z_ifp c5 h
        refine lv_iconst (v := 0) hx hb dX12_happens_96 (by decide) ?_
        exact z_retz C0 hw hS rfl (Option.some.inj h) dX12_happens_97
      · replace h := z_ifn c5 h
        refine lv_aload_n hx hb dX12_happens_88 rfl (lv_at hl 4 rfl) ?_
        refine lv_iload_n hx hb dX12_happens_89 rfl (lv_at hl 2 rfl) ?_
        obtain ⟨w6, ew6, h⟩ := z_bd h
        refine z_callVip C0 hw hS (k := 0) (As := [.int v3]) (rest := []) rfl rfl rfl rfl (c_X12_isPerson l D Y F G S _ v3 w6 ew6) (cwV 1 hts gX12_happens_X12_isPerson rfl rfl rfl (by decide +kernel) ⟨Nat.le_of_ble_eq_true rfl, Nat.le_of_ble_eq_true rfl⟩) rfl hl.1 rfl (Nat.le_of_ble_eq_true rfl) dX12_happens_90 ⟨Nat.zero_le _, Nat.zero_le _⟩ (fun H locs hw hS => ?_)
        refine lv_if_ne (tgt := 98) hx hb dX12_happens_93 (by decide) (fun c7 => ?_) (fun c7 => ?_)
        · replace h := z_ifn c7 h
          refine lv_iload_n hx hb dX12_happens_98 rfl (lv_at hl 3 rfl) ?_
          refine lv_iconst (v := 1) hx hb dX12_happens_99 (by decide) ?_
          refine lv_icmp_ne (tgt := 129) hx hb dX12_happens_100 (by decide) (fun c8 => ?_) (fun c8 => ?_)
          · replace h := z_ifn c8 h
            refine lv_aload_n hx hb dX12_happens_129 rfl (lv_at hl 4 rfl) ?_
            refine lv_iload_n hx hb dX12_happens_130 rfl (lv_at hl 2 rfl) ?_
            refine lv_iload hx hb dX12_happens_131 (lv_at hl 1 rfl) ?_
            obtain ⟨w9, ew9, h⟩ := z_bd h
            refine z_callVip C0 hw hS (k := 0) (As := [.int v3, .int v4]) (rest := []) rfl rfl rfl rfl (c_X12_lives l D Y F G S _ v3 v4 w9 ew9) (cwV 2 hts gX12_happens_X12_lives rfl rfl rfl (by decide +kernel) ⟨Nat.le_of_ble_eq_true rfl, Nat.le_of_ble_eq_true rfl⟩) rfl hl.1 rfl (Nat.le_of_ble_eq_true rfl) dX12_happens_133 ⟨Nat.zero_le _, Nat.zero_le _⟩ (fun H locs hw hS => ?_)
            refine lv_if_eq (tgt := 146) hx hb dX12_happens_136 (by decide) (fun c10 => ?_) (fun c10 => ?_)
            · replace h := z_ifp c10 h
              refine lv_iconst (v := 0) hx hb dX12_happens_146 (by decide) ?_
              exact z_retz C0 hw hS rfl (Option.some.inj h) dX12_happens_147
            · replace h := z_ifn c10 h
              refine lv_iload hx hb dX12_happens_139 (lv_at hl 0 rfl) ?_
              refine lv_bipush (v := 7) hx hb dX12_happens_141 (by decide) ?_
              refine lv_icmp_le (tgt := 148) hx hb dX12_happens_143 (by decide) (fun c11 => ?_) (fun c11 => ?_)
              · replace h := z_ifp c11 h
                exact t_X12_happens_B148 C0 res S ((x1 / 10000)) v3 v4 ((x1 - x1 / 100 * 100)) h _ _ _ hw hS (lv_sub hl [4, 3, 2, 1, 0] rfl)
              · replace h := z_ifn c11 h
                refine lv_iconst (v := 0) hx hb dX12_happens_146 (by decide) ?_
                exact z_retz C0 hw hS rfl (Option.some.inj h) dX12_happens_147
          · replace h := z_ifp c8 h
            refine lv_iload hx hb dX12_happens_103 (lv_at hl 1 rfl) ?_
            refine lv_bipush (v := 7) hx hb dX12_happens_105 (by decide) ?_
            refine lv_icmp_gt (tgt := 146) hx hb dX12_happens_107 (by decide) (fun c15 => ?_) (fun c15 => ?_)
            · replace h := z_ifp c15 h
              refine lv_iconst (v := 0) hx hb dX12_happens_146 (by decide) ?_
              exact z_retz C0 hw hS rfl (Option.some.inj h) dX12_happens_147
            · replace h := z_ifn c15 h
              refine lv_iload hx hb dX12_happens_110 (lv_at hl 0 rfl) ?_
              refine lv_if_eq (tgt := 146) hx hb dX12_happens_112 (by decide) (fun c16 => ?_) (fun c16 => ?_)
              · replace h := z_ifp c16 h
                refine lv_iconst (v := 0) hx hb dX12_happens_146 (by decide) ?_
                exact z_retz C0 hw hS rfl (Option.some.inj h) dX12_happens_147
              · replace h := z_ifn c16 h
                refine lv_aload_n hx hb dX12_happens_115 rfl (lv_at hl 4 rfl) ?_
                refine z_get C0 in_X12_happens_X12 (C := RX12) (T := TX12) (N := 27) hw (k := 0) (ci := 12) (v := .ref (F 7)) rfl rfl rfl rfl 7 (by decide) rfl 1 rfl dX12_happens_116 ?_
                refine lv_iload_n hx hb dX12_happens_119 rfl (lv_at hl 2 rfl) ?_
                obtain ⟨b17, h⟩ := z_gd h
                refine z_iald C0 hw 7 rfl rfl zri_7 (zin_in b17) dX12_happens_120 ?_
                refine lv_bipush (v := 6) hx hb dX12_happens_121 (by decide) ?_
                refine lv_icmp_ne (tgt := 148) hx hb dX12_happens_123 (by decide) (fun c18 => ?_) (fun c18 => ?_)
                · replace h := z_ifn c18 h
                  exact t_X12_happens_B148 C0 res S ((x1 / 10000)) v3 v4 ((x1 - x1 / 100 * 100)) h _ _ _ hw hS (lv_sub hl [4, 3, 2, 1, 0] rfl)
                · replace h := z_ifp c18 h
                  refine lv_goto (tgt := 146) hx hb dX12_happens_126 (by decide) ?_
                  refine lv_iconst (v := 0) hx hb dX12_happens_146 (by decide) ?_
                  exact z_retz C0 hw hS rfl (Option.some.inj h) dX12_happens_147
        · replace h := z_ifp c7 h
          refine lv_iconst (v := 0) hx hb dX12_happens_96 (by decide) ?_
          exact z_retz C0 hw hS rfl (Option.some.inj h) dX12_happens_97
    · replace h := z_ifp c2 h
      refine lv_iload_n hx hb dX12_happens_20 rfl (lv_at hl 2 rfl) ?_
      refine lv_sipush (v := 30000) hx hb dX12_happens_21 (by decide) ?_
      refine lv_isub hx hb dX12_happens_24 ?_
      refine lv_istore_n (lv' := [(3, .int ((x1 - 30000))), (2, .int ((x1 / 10000))), (0, .ref (F 0)), (1, .int x1)]) hx hb dX12_happens_25 rfl hl (by decide) rfl (fun ls hl => ?_)
      refine lv_aload_n hx hb dX12_happens_26 rfl (lv_at hl 2 rfl) ?_
      refine lv_iload_n hx hb dX12_happens_27 rfl (lv_at hl 0 rfl) ?_
      obtain ⟨w19, ew19, h⟩ := z_bd h
      refine z_callVip C0 hw hS (k := 0) (As := [.int ((x1 - 30000))]) (rest := []) rfl rfl rfl rfl (c_X12_isPerson l D Y F G S _ ((x1 - 30000)) w19 ew19) (cwV 1 hts gX12_happens_X12_isPerson rfl rfl rfl (by decide +kernel) ⟨Nat.le_of_ble_eq_true rfl, Nat.le_of_ble_eq_true rfl⟩) rfl hl.1 rfl (Nat.le_of_ble_eq_true rfl) dX12_happens_28 ⟨Nat.zero_le _, Nat.zero_le _⟩ (fun H locs hw hS => ?_)
      refine lv_if_eq (tgt := 45) hx hb dX12_happens_31 (by decide) (fun c20 => ?_) (fun c20 => ?_)
      · replace h := z_ifp c20 h
        refine lv_iconst (v := 0) hx hb dX12_happens_45 (by decide) ?_
        exact z_retz C0 hw hS rfl (Option.some.inj h) dX12_happens_46
      · replace h := z_ifn c20 h
        refine lv_aload_n hx hb dX12_happens_34 rfl (lv_at hl 2 rfl) ?_
        refine z_get C0 in_X12_happens_X12 (C := RX12) (T := TX12) (N := 27) hw (k := 0) (ci := 12) (v := .ref (F 7)) rfl rfl rfl rfl 7 (by decide) rfl 1 rfl dX12_happens_35 ?_
        refine lv_iload_n hx hb dX12_happens_38 rfl (lv_at hl 0 rfl) ?_
        obtain ⟨b21, h⟩ := z_gd h
        refine z_iald C0 hw 7 rfl rfl zri_7 (zin_in b21) dX12_happens_39 ?_
        refine lv_bipush (v := 6) hx hb dX12_happens_40 (by decide) ?_
        refine lv_icmp_ne (tgt := 47) hx hb dX12_happens_42 (by decide) (fun c22 => ?_) (fun c22 => ?_)
        · replace h := z_ifn c22 h
          refine lv_aload_n hx hb dX12_happens_47 rfl (lv_at hl 2 rfl) ?_
          refine z_get C0 in_X12_happens_X12 (C := RX12) (T := TX12) (N := 27) hw (k := 0) (ci := 12) (v := .ref (F 7)) rfl rfl rfl rfl 7 (by decide) rfl 1 rfl dX12_happens_48 ?_
          refine lv_iload_n hx hb dX12_happens_51 rfl (lv_at hl 0 rfl) ?_
          refine lv_dup2_11 hx hb dX12_happens_52 rfl rfl ?_
          obtain ⟨b23, h⟩ := z_gd h
          refine z_iald C0 hw 7 rfl rfl zri_7 (zin_in b23) dX12_happens_53 ?_
          refine lv_iconst (v := 1) hx hb dX12_happens_54 (by decide) ?_
          refine lv_iadd hx hb dX12_happens_55 ?_
          obtain ⟨b24, h⟩ := z_gd h
          refine z_iasts C0 hw hS 7 rfl rfl zri_7 (zin_in b24) dX12_happens_56 (fun H locs hw hS => ?_)
          refine lv_iconst (v := 1) hx hb dX12_happens_57 (by decide) ?_
          exact z_retz C0 hw hS rfl (Option.some.inj h) dX12_happens_58
        · replace h := z_ifp c22 h
          refine lv_iconst (v := 0) hx hb dX12_happens_45 (by decide) ?_
          exact z_retz C0 hw hS rfl (Option.some.inj h) dX12_happens_46
  · replace h := z_ifn c1 h
    refine lv_iconst (v := 0) hx hb dX12_happens_7 (by decide) ?_
    exact z_retz C0 hw hS rfl (Option.some.inj h) dX12_happens_8
def M_X12_happen_B2 : Nat → zSt → Int32 → Int32 → Int32 → Option (Int32 × zSt)
  | 0, _, _, _, _ => none
  | n + 1, S, x1, x2, x3 =>
  (if x2 ≤ x3 then some ((-1), S) else Option.bind (M_X12_toldAt S x1 x3) (fun w2 => Option.bind (M_X12_happens S w2) (fun w3 => (if w3.1 = 0 then some (x3, w3.2) else M_X12_happen_B2 n w3.2 x1 x2 ((x3 + 1))))))
set_option maxHeartbeats 4000000 in
set_option maxRecDepth 100000 in
theorem t_X12_happen_B2 {p : Program} {l : Launch} {e : Env} {s : State} {m : MethodId} {args : Array Value} {below : List Frame} {meth : Method} {c : Code} {D : va_G} {Y : Nat → ClassId} {F : Nat → Nat} {A : Nat → Prop} {G : zG} (C0 : zCx p s m args meth c D Y F A RX12 cX12_happen 4 (some .int) wsX12_happen) (res : Int32 × zSt) : ∀ (n : Nat), ∀ (S : zSt) (x1 : Int32) (x2 : Int32) (x3 : Int32), M_X12_happen_B2 n S x1 x2 x3 = some res → ∀ (H : Heap) (locs : List Loc) (ls : Array Slot), zH D Y F A G S H → va_S A s.heap H locs → lv_has ls 4 [(0, .ref (F 0)), (1, .int x1), (2, .int x2), (3, .int x3)] → W p l e (zRm 4 100) s m args below meth c H locs 0 0 (MQ below (zQi D Y F A G res) args s 0 0 A) (F0 m 2 ls []) := by
  obtain ⟨hx, hb, hml, hr, hown, hts, hK, hA, hlk, hN⟩ := id C0
  intro n
  induction n with
  | zero =>
    intro S x1 x2 x3 h
    unfold M_X12_happen_B2 at h
    cases h
  | succ n ih =>
    intro S x1 x2 x3 h H locs ls hw hS hl
    rw [M_X12_happen_B2] at h
    refine lv_iload_n hx hb dX12_happen_2 rfl (lv_at hl 3 rfl) ?_
    refine lv_iload_n hx hb dX12_happen_3 rfl (lv_at hl 2 rfl) ?_
    refine lv_icmp_ge (tgt := 28) hx hb dX12_happen_4 (by decide) (fun c1 => ?_) (fun c1 => ?_)
    · replace h := z_ifp c1 h
      refine lv_iconst (v := (-1)) hx hb dX12_happen_28 (by decide) ?_
      exact z_reti C0 hw hS (Option.some.inj h) dX12_happen_29
    · replace h := z_ifn c1 h
      refine lv_aload_n hx hb dX12_happen_7 rfl (lv_at hl 0 rfl) ?_
      refine lv_aload_n hx hb dX12_happen_8 rfl (lv_at hl 0 rfl) ?_
      refine lv_iload_n hx hb dX12_happen_9 rfl (lv_at hl 1 rfl) ?_
      refine lv_iload_n hx hb dX12_happen_10 rfl (lv_at hl 3 rfl) ?_
      obtain ⟨w2, ew2, h⟩ := z_bd h
      refine z_callVip C0 hw hS (k := 0) (As := [.int x1, .int x3]) (rest := [.ref (F 0)]) rfl rfl rfl rfl (c_X12_toldAt l D Y F G S _ x1 x3 w2 ew2) (cwV 2 hts gX12_happen_X12_toldAt rfl rfl rfl (by decide +kernel) ⟨Nat.le_of_ble_eq_true rfl, Nat.le_of_ble_eq_true rfl⟩) rfl hl.1 rfl (Nat.le_of_ble_eq_true rfl) dX12_happen_11 ⟨Nat.zero_le _, Nat.zero_le _⟩ (fun H locs hw hS => ?_)
      obtain ⟨w3, ew3, h⟩ := z_bd h
      refine z_callVi0 C0 hw hS (k := 0) (As := [.int w2]) (rest := []) rfl rfl rfl rfl (c_X12_happens l D Y F G S _ w2 w3 ew3) (cwV 1 hts gX12_happen_X12_happens rfl rfl rfl (by decide +kernel) ⟨Nat.le_of_ble_eq_true rfl, Nat.le_of_ble_eq_true rfl⟩) rfl hl.1 rfl (Nat.le_of_ble_eq_true rfl) dX12_happen_14 ⟨Nat.zero_le _, Nat.zero_le _⟩ (fun H locs hw hS => ?_)
      refine lv_if_ne (tgt := 22) hx hb dX12_happen_17 (by decide) (fun c4 => ?_) (fun c4 => ?_)
      · replace h := z_ifn c4 h
        refine lv_iinc (v := (x3 + 1)) (lv' := [(3, .int ((x3 + 1))), (0, .ref (F 0)), (1, .int x1), (2, .int x2)]) hx hb dX12_happen_22 hl (k := 3) rfl rfl (by decide) rfl (fun ls hl => ?_)
        refine lv_goto (tgt := 2) hx hb dX12_happen_25 (by decide) ?_
        exact ih w3.2 x1 x2 ((x3 + 1)) h _ _ _ hw hS (lv_sub hl [1, 2, 3, 0] rfl)
      · replace h := z_ifp c4 h
        refine lv_iload_n hx hb dX12_happen_20 rfl (lv_at hl 3 rfl) ?_
        exact z_reti C0 hw hS (Option.some.inj h) dX12_happen_21
def M_X12_happen (S : zSt) (x1 : Int32) (x2 : Int32) : Option (Int32 × zSt) :=
  M_X12_happen_B2 zF S x1 x2 0
set_option maxHeartbeats 4000000 in
set_option maxRecDepth 100000 in
theorem c_X12_happen (l : Launch) (D : va_G) (Y : Nat → ClassId) (F : Nat → Nat) (G : zG) (S : zSt) (sz : Nat) (x1 : Int32) (x2 : Int32) (res : Int32 × zSt) (h : M_X12_happen S x1 x2 = some res) : Met l yX12_happen wsX12_happen (zRm 4 100) (zPc D Y F G S sz [.ref (F 0), .int x1, .int x2]) (zQi D Y F (zAo F G sz) G res) 0 0 (zAo F G sz) := by
  unfold M_X12_happen at h
  refine zMet (cc := cX12_happen) (maxL := 4) (ret := (some .int)) (own := RX12) (by decide +kernel) rfl rfl (Nat.le_of_ble_eq_true rfl) ?_
  intro p e s m args below meth c C0 hin hw hS ls hl
  have hl : lv_has ls 4 [(0, .ref (F 0)), (1, .int x1), (2, .int x2)] := hl
  generalize zAo F G sz = A at C0 hw hS ⊢
  obtain ⟨hx, hb, hml, hr, hown, hts, hK, hA, hlk, hN⟩ := id C0
  refine lv_iconst (v := 0) hx hb dX12_happen_0 (by decide) ?_
  refine lv_istore_n (lv' := [(3, .int 0), (0, .ref (F 0)), (1, .int x1), (2, .int x2)]) hx hb dX12_happen_1 rfl hl (by decide) rfl (fun ls hl => ?_)
  exact t_X12_happen_B2 C0 res zF S x1 x2 0 h _ _ _ hw hS (lv_sub hl [1, 2, 3, 0] rfl)
def M_X12_keep_B99 (k1 : Nat) : Nat → zSt → Int32 → Option (zSt)
  | 0, _, _ => none
  | n + 1, S, x2 =>
  (if 288 ≤ x2 then zg (zin 384 387) (zg (zin 385 387) (zg (zin 386 387) (some ((zAs ((zAs ((zAs S k1 (Int32.toNatClampNeg 384) ((zsc S 0 3)))) k1 (Int32.toNatClampNeg 385) ((zsc ((zAs S k1 (Int32.toNatClampNeg 384) ((zsc S 0 3)))) 0 11)))) k1 (Int32.toNatClampNeg 386) ((zsc ((zAs ((zAs S k1 (Int32.toNatClampNeg 384) ((zsc S 0 3)))) k1 (Int32.toNatClampNeg 385) ((zsc ((zAs S k1 (Int32.toNatClampNeg 384) ((zsc S 0 3)))) 0 11)))) 0 12))))))) else zg (zin x2 288) (zg (zin (((96 : Int32) + x2)) 387) (M_X12_keep_B99 k1 n ((zAs S k1 (Int32.toNatClampNeg (((96 : Int32) + x2))) ((zar S 10 (Int32.toNatClampNeg x2))))) ((x2 + 1)))))
set_option maxHeartbeats 4000000 in
set_option maxRecDepth 100000 in
theorem t_X12_keep_B99 {p : Program} {l : Launch} {e : Env} {s : State} {m : MethodId} {args : Array Value} {below : List Frame} {meth : Method} {c : Code} {D : va_G} {Y : Nat → ClassId} {F : Nat → Nat} {A : Nat → Prop} {G : zG} (C0 : zCx p s m args meth c D Y F A RX12 cX12_keep 3 none wsX12_keep) (k1 : Nat) (hk1 : k1 = 14 ∨ k1 = 15) (res : zSt) : ∀ (n : Nat), ∀ (S : zSt) (x2 : Int32), M_X12_keep_B99 k1 n S x2 = some res → ∀ (H : Heap) (locs : List Loc) (ls : Array Slot), zH D Y F A G S H → va_S A s.heap H locs → lv_has ls 3 [(0, .ref (F 0)), (1, .ref (F k1)), (2, .int x2)] → W p l e (zRm 0 0) s m args below meth c H locs 0 0 (MQ below (zQv D Y F A G res) args s 0 0 A) (F0 m 99 ls []) := by
  obtain ⟨hx, hb, hml, hr, hown, hts, hK, hA, hlk, hN⟩ := id C0
  intro n
  induction n with
  | zero =>
    intro S x2 h
    unfold M_X12_keep_B99 at h
    cases h
  | succ n ih =>
    intro S x2 h H locs ls hw hS hl
    rw [M_X12_keep_B99] at h
    refine lv_iload_n hx hb dX12_keep_99 rfl (lv_at hl 2 rfl) ?_
    refine lv_sipush (v := 288) hx hb dX12_keep_100 (by decide) ?_
    refine lv_icmp_ge (tgt := 124) hx hb dX12_keep_103 (by decide) (fun c3 => ?_) (fun c3 => ?_)
    · replace h := z_ifp c3 h
      refine lv_aload_n hx hb dX12_keep_124 rfl (lv_at hl 1 rfl) ?_
      refine lv_sipush (v := 384) hx hb dX12_keep_125 (by decide) ?_
      refine lv_aload_n hx hb dX12_keep_128 rfl (lv_at hl 0 rfl) ?_
      refine z_get C0 in_X12_keep_X12 (C := RX12) (T := TX12) (N := 27) hw (k := 0) (ci := 12) (v := .int ((zsc S 0 3))) rfl rfl rfl rfl 3 (by decide) rfl 8 rfl dX12_keep_129 ?_
      obtain ⟨b4, h⟩ := z_gd h
      refine z_iasts C0 hw hS k1 (zk1_E hk1) (zk1_a hk1) (zk1_R hk1) (zin_in b4) dX12_keep_132 (fun H locs hw hS => ?_)
      refine lv_aload_n hx hb dX12_keep_133 rfl (lv_at hl 1 rfl) ?_
      refine lv_sipush (v := 385) hx hb dX12_keep_134 (by decide) ?_
      refine lv_aload_n hx hb dX12_keep_137 rfl (lv_at hl 0 rfl) ?_
      refine z_get C0 in_X12_keep_X12 (C := RX12) (T := TX12) (N := 27) hw (k := 0) (ci := 12) (v := .int ((zsc ((zAs S k1 (Int32.toNatClampNeg 384) ((zsc S 0 3)))) 0 11))) rfl rfl rfl rfl 11 (by decide) rfl 9 rfl dX12_keep_138 ?_
      obtain ⟨b5, h⟩ := z_gd h
      refine z_iasts C0 hw hS k1 (zk1_E hk1) (zk1_a hk1) (zk1_R hk1) (zin_in b5) dX12_keep_141 (fun H locs hw hS => ?_)
      refine lv_aload_n hx hb dX12_keep_142 rfl (lv_at hl 1 rfl) ?_
      refine lv_sipush (v := 386) hx hb dX12_keep_143 (by decide) ?_
      refine lv_aload_n hx hb dX12_keep_146 rfl (lv_at hl 0 rfl) ?_
      refine z_get C0 in_X12_keep_X12 (C := RX12) (T := TX12) (N := 27) hw (k := 0) (ci := 12) (v := .int ((zsc ((zAs ((zAs S k1 (Int32.toNatClampNeg 384) ((zsc S 0 3)))) k1 (Int32.toNatClampNeg 385) ((zsc ((zAs S k1 (Int32.toNatClampNeg 384) ((zsc S 0 3)))) 0 11)))) 0 12))) rfl rfl rfl rfl 12 (by decide) rfl 10 rfl dX12_keep_147 ?_
      obtain ⟨b6, h⟩ := z_gd h
      refine z_iasts C0 hw hS k1 (zk1_E hk1) (zk1_a hk1) (zk1_R hk1) (zin_in b6) dX12_keep_150 (fun H locs hw hS => ?_)
      exact z_retv C0 hw hS (Option.some.inj h) dX12_keep_151
    · replace h := z_ifn c3 h
      refine lv_aload_n hx hb dX12_keep_106 rfl (lv_at hl 1 rfl) ?_
      refine lv_bipush (v := 96) hx hb dX12_keep_107 (by decide) ?_
      refine lv_iload_n hx hb dX12_keep_109 rfl (lv_at hl 2 rfl) ?_
      refine lv_iadd hx hb dX12_keep_110 ?_
      refine lv_aload_n hx hb dX12_keep_111 rfl (lv_at hl 0 rfl) ?_
      refine z_get C0 in_X12_keep_X12 (C := RX12) (T := TX12) (N := 27) hw (k := 0) (ci := 12) (v := .ref (F 10)) rfl rfl rfl rfl 10 (by decide) rfl 7 rfl dX12_keep_112 ?_
      refine lv_iload_n hx hb dX12_keep_115 rfl (lv_at hl 2 rfl) ?_
      obtain ⟨b7, h⟩ := z_gd h
      refine z_iald C0 hw 10 rfl rfl zri_10 (zin_in b7) dX12_keep_116 ?_
      obtain ⟨b8, h⟩ := z_gd h
      refine z_iasts C0 hw hS k1 (zk1_E hk1) (zk1_a hk1) (zk1_R hk1) (zin_in b8) dX12_keep_117 (fun H locs hw hS => ?_)
      refine lv_iinc (v := (x2 + 1)) (lv' := [(2, .int ((x2 + 1))), (0, .ref (F 0)), (1, .ref (F k1))]) hx hb dX12_keep_118 hl (k := 2) rfl rfl (by decide) rfl (fun ls hl => ?_)
      refine lv_goto (tgt := 99) hx hb dX12_keep_121 (by decide) ?_
      exact ih ((zAs S k1 (Int32.toNatClampNeg (((96 : Int32) + x2))) ((zar S 10 (Int32.toNatClampNeg x2))))) ((x2 + 1)) h _ _ _ hw hS (lv_sub hl [1, 2, 0] rfl)
def M_X12_keep_B61 (k1 : Nat) : Nat → zSt → Int32 → Option (zSt)
  | 0, _, _ => none
  | n + 1, S, x2 =>
  (if 36 ≤ x2 then M_X12_keep_B99 k1 zF S 0 else zg (zin x2 36) (zg (zin (((24 : Int32) + x2)) 387) (zg (zin x2 36) (zg (zin (((60 : Int32) + x2)) 387) (M_X12_keep_B61 k1 n ((zAs ((zAs S k1 (Int32.toNatClampNeg (((24 : Int32) + x2))) ((zar S 8 (Int32.toNatClampNeg x2))))) k1 (Int32.toNatClampNeg (((60 : Int32) + x2))) ((zar ((zAs S k1 (Int32.toNatClampNeg (((24 : Int32) + x2))) ((zar S 8 (Int32.toNatClampNeg x2))))) 9 (Int32.toNatClampNeg x2))))) ((x2 + 1)))))))
set_option maxHeartbeats 4000000 in
set_option maxRecDepth 100000 in
theorem t_X12_keep_B61 {p : Program} {l : Launch} {e : Env} {s : State} {m : MethodId} {args : Array Value} {below : List Frame} {meth : Method} {c : Code} {D : va_G} {Y : Nat → ClassId} {F : Nat → Nat} {A : Nat → Prop} {G : zG} (C0 : zCx p s m args meth c D Y F A RX12 cX12_keep 3 none wsX12_keep) (k1 : Nat) (hk1 : k1 = 14 ∨ k1 = 15) (res : zSt) : ∀ (n : Nat), ∀ (S : zSt) (x2 : Int32), M_X12_keep_B61 k1 n S x2 = some res → ∀ (H : Heap) (locs : List Loc) (ls : Array Slot), zH D Y F A G S H → va_S A s.heap H locs → lv_has ls 3 [(0, .ref (F 0)), (1, .ref (F k1)), (2, .int x2)] → W p l e (zRm 0 0) s m args below meth c H locs 0 0 (MQ below (zQv D Y F A G res) args s 0 0 A) (F0 m 61 ls []) := by
  obtain ⟨hx, hb, hml, hr, hown, hts, hK, hA, hlk, hN⟩ := id C0
  intro n
  induction n with
  | zero =>
    intro S x2 h
    unfold M_X12_keep_B61 at h
    cases h
  | succ n ih =>
    intro S x2 h H locs ls hw hS hl
    rw [M_X12_keep_B61] at h
    refine lv_iload_n hx hb dX12_keep_61 rfl (lv_at hl 2 rfl) ?_
    refine lv_bipush (v := 36) hx hb dX12_keep_62 (by decide) ?_
    refine lv_icmp_ge (tgt := 97) hx hb dX12_keep_64 (by decide) (fun c2 => ?_) (fun c2 => ?_)
    · replace h := z_ifp c2 h
      refine lv_iconst (v := 0) hx hb dX12_keep_97 (by decide) ?_
      refine lv_istore_n (lv' := [(2, .int 0), (0, .ref (F 0)), (1, .ref (F k1))]) hx hb dX12_keep_98 rfl hl (by decide) rfl (fun ls hl => ?_)
      exact t_X12_keep_B99 C0 k1 hk1 res zF S 0 h _ _ _ hw hS (lv_sub hl [1, 2, 0] rfl)
    · replace h := z_ifn c2 h
      refine lv_aload_n hx hb dX12_keep_67 rfl (lv_at hl 1 rfl) ?_
      refine lv_bipush (v := 24) hx hb dX12_keep_68 (by decide) ?_
      refine lv_iload_n hx hb dX12_keep_70 rfl (lv_at hl 2 rfl) ?_
      refine lv_iadd hx hb dX12_keep_71 ?_
      refine lv_aload_n hx hb dX12_keep_72 rfl (lv_at hl 0 rfl) ?_
      refine z_get C0 in_X12_keep_X12 (C := RX12) (T := TX12) (N := 27) hw (k := 0) (ci := 12) (v := .ref (F 8)) rfl rfl rfl rfl 8 (by decide) rfl 5 rfl dX12_keep_73 ?_
      refine lv_iload_n hx hb dX12_keep_76 rfl (lv_at hl 2 rfl) ?_
      obtain ⟨b9, h⟩ := z_gd h
      refine z_iald C0 hw 8 rfl rfl zri_8 (zin_in b9) dX12_keep_77 ?_
      obtain ⟨b10, h⟩ := z_gd h
      refine z_iasts C0 hw hS k1 (zk1_E hk1) (zk1_a hk1) (zk1_R hk1) (zin_in b10) dX12_keep_78 (fun H locs hw hS => ?_)
      refine lv_aload_n hx hb dX12_keep_79 rfl (lv_at hl 1 rfl) ?_
      refine lv_bipush (v := 60) hx hb dX12_keep_80 (by decide) ?_
      refine lv_iload_n hx hb dX12_keep_82 rfl (lv_at hl 2 rfl) ?_
      refine lv_iadd hx hb dX12_keep_83 ?_
      refine lv_aload_n hx hb dX12_keep_84 rfl (lv_at hl 0 rfl) ?_
      refine z_get C0 in_X12_keep_X12 (C := RX12) (T := TX12) (N := 27) hw (k := 0) (ci := 12) (v := .ref (F 9)) rfl rfl rfl rfl 9 (by decide) rfl 6 rfl dX12_keep_85 ?_
      refine lv_iload_n hx hb dX12_keep_88 rfl (lv_at hl 2 rfl) ?_
      obtain ⟨b11, h⟩ := z_gd h
      refine z_iald C0 hw 9 rfl rfl zri_9 (zin_in b11) dX12_keep_89 ?_
      obtain ⟨b12, h⟩ := z_gd h
      refine z_iasts C0 hw hS k1 (zk1_E hk1) (zk1_a hk1) (zk1_R hk1) (zin_in b12) dX12_keep_90 (fun H locs hw hS => ?_)
      refine lv_iinc (v := (x2 + 1)) (lv' := [(2, .int ((x2 + 1))), (0, .ref (F 0)), (1, .ref (F k1))]) hx hb dX12_keep_91 hl (k := 2) rfl rfl (by decide) rfl (fun ls hl => ?_)
      refine lv_goto (tgt := 61) hx hb dX12_keep_94 (by decide) ?_
      exact ih ((zAs ((zAs S k1 (Int32.toNatClampNeg (((24 : Int32) + x2))) ((zar S 8 (Int32.toNatClampNeg x2))))) k1 (Int32.toNatClampNeg (((60 : Int32) + x2))) ((zar ((zAs S k1 (Int32.toNatClampNeg (((24 : Int32) + x2))) ((zar S 8 (Int32.toNatClampNeg x2))))) 9 (Int32.toNatClampNeg x2))))) ((x2 + 1)) h _ _ _ hw hS (lv_sub hl [1, 2, 0] rfl)
def M_X12_keep_B2 (k1 : Nat) : Nat → zSt → Int32 → Option (zSt)
  | 0, _, _ => none
  | n + 1, S, x2 =>
  (if 6 ≤ x2 then M_X12_keep_B61 k1 zF S 0 else zg (zin x2 6) (zg (zin x2 387) (zg (zin x2 6) (zg (zin (((6 : Int32) + x2)) 387) (zg (zin x2 6) (zg (zin (((12 : Int32) + x2)) 387) (zg (zin x2 6) (zg (zin (((18 : Int32) + x2)) 387) (M_X12_keep_B2 k1 n ((zAs ((zAs ((zAs ((zAs S k1 (Int32.toNatClampNeg x2) ((zar S 4 (Int32.toNatClampNeg x2))))) k1 (Int32.toNatClampNeg (((6 : Int32) + x2))) ((zar ((zAs S k1 (Int32.toNatClampNeg x2) ((zar S 4 (Int32.toNatClampNeg x2))))) 5 (Int32.toNatClampNeg x2))))) k1 (Int32.toNatClampNeg (((12 : Int32) + x2))) ((zar ((zAs ((zAs S k1 (Int32.toNatClampNeg x2) ((zar S 4 (Int32.toNatClampNeg x2))))) k1 (Int32.toNatClampNeg (((6 : Int32) + x2))) ((zar ((zAs S k1 (Int32.toNatClampNeg x2) ((zar S 4 (Int32.toNatClampNeg x2))))) 5 (Int32.toNatClampNeg x2))))) 6 (Int32.toNatClampNeg x2))))) k1 (Int32.toNatClampNeg (((18 : Int32) + x2))) ((zar ((zAs ((zAs ((zAs S k1 (Int32.toNatClampNeg x2) ((zar S 4 (Int32.toNatClampNeg x2))))) k1 (Int32.toNatClampNeg (((6 : Int32) + x2))) ((zar ((zAs S k1 (Int32.toNatClampNeg x2) ((zar S 4 (Int32.toNatClampNeg x2))))) 5 (Int32.toNatClampNeg x2))))) k1 (Int32.toNatClampNeg (((12 : Int32) + x2))) ((zar ((zAs ((zAs S k1 (Int32.toNatClampNeg x2) ((zar S 4 (Int32.toNatClampNeg x2))))) k1 (Int32.toNatClampNeg (((6 : Int32) + x2))) ((zar ((zAs S k1 (Int32.toNatClampNeg x2) ((zar S 4 (Int32.toNatClampNeg x2))))) 5 (Int32.toNatClampNeg x2))))) 6 (Int32.toNatClampNeg x2))))) 7 (Int32.toNatClampNeg x2))))) ((x2 + 1)))))))))))
set_option maxHeartbeats 4000000 in
set_option maxRecDepth 100000 in
theorem t_X12_keep_B2 {p : Program} {l : Launch} {e : Env} {s : State} {m : MethodId} {args : Array Value} {below : List Frame} {meth : Method} {c : Code} {D : va_G} {Y : Nat → ClassId} {F : Nat → Nat} {A : Nat → Prop} {G : zG} (C0 : zCx p s m args meth c D Y F A RX12 cX12_keep 3 none wsX12_keep) (k1 : Nat) (hk1 : k1 = 14 ∨ k1 = 15) (res : zSt) : ∀ (n : Nat), ∀ (S : zSt) (x2 : Int32), M_X12_keep_B2 k1 n S x2 = some res → ∀ (H : Heap) (locs : List Loc) (ls : Array Slot), zH D Y F A G S H → va_S A s.heap H locs → lv_has ls 3 [(0, .ref (F 0)), (1, .ref (F k1)), (2, .int x2)] → W p l e (zRm 0 0) s m args below meth c H locs 0 0 (MQ below (zQv D Y F A G res) args s 0 0 A) (F0 m 2 ls []) := by
  obtain ⟨hx, hb, hml, hr, hown, hts, hK, hA, hlk, hN⟩ := id C0
  intro n
  induction n with
  | zero =>
    intro S x2 h
    unfold M_X12_keep_B2 at h
    cases h
  | succ n ih =>
    intro S x2 h H locs ls hw hS hl
    rw [M_X12_keep_B2] at h
    refine lv_iload_n hx hb dX12_keep_2 rfl (lv_at hl 2 rfl) ?_
    refine lv_bipush (v := 6) hx hb dX12_keep_3 (by decide) ?_
    refine lv_icmp_ge (tgt := 59) hx hb dX12_keep_5 (by decide) (fun c1 => ?_) (fun c1 => ?_)
    · replace h := z_ifp c1 h
      refine lv_iconst (v := 0) hx hb dX12_keep_59 (by decide) ?_
      refine lv_istore_n (lv' := [(2, .int 0), (0, .ref (F 0)), (1, .ref (F k1))]) hx hb dX12_keep_60 rfl hl (by decide) rfl (fun ls hl => ?_)
      exact t_X12_keep_B61 C0 k1 hk1 res zF S 0 h _ _ _ hw hS (lv_sub hl [1, 2, 0] rfl)
    · replace h := z_ifn c1 h
      refine lv_aload_n hx hb dX12_keep_8 rfl (lv_at hl 1 rfl) ?_
      refine lv_iload_n hx hb dX12_keep_9 rfl (lv_at hl 2 rfl) ?_
      refine lv_aload_n hx hb dX12_keep_10 rfl (lv_at hl 0 rfl) ?_
      refine z_get C0 in_X12_keep_X12 (C := RX12) (T := TX12) (N := 27) hw (k := 0) (ci := 12) (v := .ref (F 4)) rfl rfl rfl rfl 4 (by decide) rfl 1 rfl dX12_keep_11 ?_
      refine lv_iload_n hx hb dX12_keep_14 rfl (lv_at hl 2 rfl) ?_
      obtain ⟨b13, h⟩ := z_gd h
      refine z_iald C0 hw 4 rfl rfl zri_4 (zin_in b13) dX12_keep_15 ?_
      obtain ⟨b14, h⟩ := z_gd h
      refine z_iasts C0 hw hS k1 (zk1_E hk1) (zk1_a hk1) (zk1_R hk1) (zin_in b14) dX12_keep_16 (fun H locs hw hS => ?_)
      refine lv_aload_n hx hb dX12_keep_17 rfl (lv_at hl 1 rfl) ?_
      refine lv_bipush (v := 6) hx hb dX12_keep_18 (by decide) ?_
      refine lv_iload_n hx hb dX12_keep_20 rfl (lv_at hl 2 rfl) ?_
      refine lv_iadd hx hb dX12_keep_21 ?_
      refine lv_aload_n hx hb dX12_keep_22 rfl (lv_at hl 0 rfl) ?_
      refine z_get C0 in_X12_keep_X12 (C := RX12) (T := TX12) (N := 27) hw (k := 0) (ci := 12) (v := .ref (F 5)) rfl rfl rfl rfl 5 (by decide) rfl 2 rfl dX12_keep_23 ?_
      refine lv_iload_n hx hb dX12_keep_26 rfl (lv_at hl 2 rfl) ?_
      obtain ⟨b15, h⟩ := z_gd h
      refine z_iald C0 hw 5 rfl rfl zri_5 (zin_in b15) dX12_keep_27 ?_
      obtain ⟨b16, h⟩ := z_gd h
      refine z_iasts C0 hw hS k1 (zk1_E hk1) (zk1_a hk1) (zk1_R hk1) (zin_in b16) dX12_keep_28 (fun H locs hw hS => ?_)
      refine lv_aload_n hx hb dX12_keep_29 rfl (lv_at hl 1 rfl) ?_
      refine lv_bipush (v := 12) hx hb dX12_keep_30 (by decide) ?_
      refine lv_iload_n hx hb dX12_keep_32 rfl (lv_at hl 2 rfl) ?_
      refine lv_iadd hx hb dX12_keep_33 ?_
      refine lv_aload_n hx hb dX12_keep_34 rfl (lv_at hl 0 rfl) ?_
      refine z_get C0 in_X12_keep_X12 (C := RX12) (T := TX12) (N := 27) hw (k := 0) (ci := 12) (v := .ref (F 6)) rfl rfl rfl rfl 6 (by decide) rfl 3 rfl dX12_keep_35 ?_
      refine lv_iload_n hx hb dX12_keep_38 rfl (lv_at hl 2 rfl) ?_
      obtain ⟨b17, h⟩ := z_gd h
      refine z_iald C0 hw 6 rfl rfl zri_6 (zin_in b17) dX12_keep_39 ?_
      obtain ⟨b18, h⟩ := z_gd h
      refine z_iasts C0 hw hS k1 (zk1_E hk1) (zk1_a hk1) (zk1_R hk1) (zin_in b18) dX12_keep_40 (fun H locs hw hS => ?_)
      refine lv_aload_n hx hb dX12_keep_41 rfl (lv_at hl 1 rfl) ?_
      refine lv_bipush (v := 18) hx hb dX12_keep_42 (by decide) ?_
      refine lv_iload_n hx hb dX12_keep_44 rfl (lv_at hl 2 rfl) ?_
      refine lv_iadd hx hb dX12_keep_45 ?_
      refine lv_aload_n hx hb dX12_keep_46 rfl (lv_at hl 0 rfl) ?_
      refine z_get C0 in_X12_keep_X12 (C := RX12) (T := TX12) (N := 27) hw (k := 0) (ci := 12) (v := .ref (F 7)) rfl rfl rfl rfl 7 (by decide) rfl 4 rfl dX12_keep_47 ?_
      refine lv_iload_n hx hb dX12_keep_50 rfl (lv_at hl 2 rfl) ?_
      obtain ⟨b19, h⟩ := z_gd h
      refine z_iald C0 hw 7 rfl rfl zri_7 (zin_in b19) dX12_keep_51 ?_
      obtain ⟨b20, h⟩ := z_gd h
      refine z_iasts C0 hw hS k1 (zk1_E hk1) (zk1_a hk1) (zk1_R hk1) (zin_in b20) dX12_keep_52 (fun H locs hw hS => ?_)
      refine lv_iinc (v := (x2 + 1)) (lv' := [(2, .int ((x2 + 1))), (0, .ref (F 0)), (1, .ref (F k1))]) hx hb dX12_keep_53 hl (k := 2) rfl rfl (by decide) rfl (fun ls hl => ?_)
      refine lv_goto (tgt := 2) hx hb dX12_keep_56 (by decide) ?_
      exact ih ((zAs ((zAs ((zAs ((zAs S k1 (Int32.toNatClampNeg x2) ((zar S 4 (Int32.toNatClampNeg x2))))) k1 (Int32.toNatClampNeg (((6 : Int32) + x2))) ((zar ((zAs S k1 (Int32.toNatClampNeg x2) ((zar S 4 (Int32.toNatClampNeg x2))))) 5 (Int32.toNatClampNeg x2))))) k1 (Int32.toNatClampNeg (((12 : Int32) + x2))) ((zar ((zAs ((zAs S k1 (Int32.toNatClampNeg x2) ((zar S 4 (Int32.toNatClampNeg x2))))) k1 (Int32.toNatClampNeg (((6 : Int32) + x2))) ((zar ((zAs S k1 (Int32.toNatClampNeg x2) ((zar S 4 (Int32.toNatClampNeg x2))))) 5 (Int32.toNatClampNeg x2))))) 6 (Int32.toNatClampNeg x2))))) k1 (Int32.toNatClampNeg (((18 : Int32) + x2))) ((zar ((zAs ((zAs ((zAs S k1 (Int32.toNatClampNeg x2) ((zar S 4 (Int32.toNatClampNeg x2))))) k1 (Int32.toNatClampNeg (((6 : Int32) + x2))) ((zar ((zAs S k1 (Int32.toNatClampNeg x2) ((zar S 4 (Int32.toNatClampNeg x2))))) 5 (Int32.toNatClampNeg x2))))) k1 (Int32.toNatClampNeg (((12 : Int32) + x2))) ((zar ((zAs ((zAs S k1 (Int32.toNatClampNeg x2) ((zar S 4 (Int32.toNatClampNeg x2))))) k1 (Int32.toNatClampNeg (((6 : Int32) + x2))) ((zar ((zAs S k1 (Int32.toNatClampNeg x2) ((zar S 4 (Int32.toNatClampNeg x2))))) 5 (Int32.toNatClampNeg x2))))) 6 (Int32.toNatClampNeg x2))))) 7 (Int32.toNatClampNeg x2))))) ((x2 + 1)) h _ _ _ hw hS (lv_sub hl [1, 2, 0] rfl)
def M_X12_keep (S : zSt) (k1 : Nat) : Option (zSt) :=
  M_X12_keep_B2 k1 zF S 0
set_option maxHeartbeats 4000000 in
set_option maxRecDepth 100000 in
theorem c_X12_keep (l : Launch) (D : va_G) (Y : Nat → ClassId) (F : Nat → Nat) (G : zG) (S : zSt) (sz : Nat) (k1 : Nat) (hk1 : k1 = 14 ∨ k1 = 15) (res : zSt) (h : M_X12_keep S k1 = some res) : Met l yX12_keep wsX12_keep (zRm 0 0) (zPc D Y F G S sz [.ref (F 0), .ref (F k1)]) (zQv D Y F (zAo F G sz) G res) 0 0 (zAo F G sz) := by
  unfold M_X12_keep at h
  refine zMet (cc := cX12_keep) (maxL := 3) (ret := none) (own := RX12) (by decide +kernel) rfl rfl (Nat.le_of_ble_eq_true rfl) ?_
  intro p e s m args below meth c C0 hin hw hS ls hl
  have hl : lv_has ls 3 [(0, .ref (F 0)), (1, .ref (F k1))] := hl
  generalize zAo F G sz = A at C0 hw hS ⊢
  obtain ⟨hx, hb, hml, hr, hown, hts, hK, hA, hlk, hN⟩ := id C0
  refine lv_iconst (v := 0) hx hb dX12_keep_0 (by decide) ?_
  refine lv_istore_n (lv' := [(2, .int 0), (0, .ref (F 0)), (1, .ref (F k1))]) hx hb dX12_keep_1 rfl hl (by decide) rfl (fun ls hl => ?_)
  exact t_X12_keep_B2 C0 k1 hk1 res zF S 0 h _ _ _ hw hS (lv_sub hl [1, 2, 0] rfl)
def M_X12_again_B99 (k1 : Nat) : Nat → zSt → Int32 → Option (zSt)
  | 0, _, _ => none
  | n + 1, S, x2 =>
  (if 288 ≤ x2 then zg (zin 384 387) (zg (zin 385 387) (zg (zin 386 387) (some ((zP ((zP ((zP S 0 3 ((zar S k1 (Int32.toNatClampNeg 384))))) 0 11 ((zar ((zP S 0 3 ((zar S k1 (Int32.toNatClampNeg 384))))) k1 (Int32.toNatClampNeg 385))))) 0 12 ((zar ((zP ((zP S 0 3 ((zar S k1 (Int32.toNatClampNeg 384))))) 0 11 ((zar ((zP S 0 3 ((zar S k1 (Int32.toNatClampNeg 384))))) k1 (Int32.toNatClampNeg 385))))) k1 (Int32.toNatClampNeg 386)))))))) else zg (zin (((96 : Int32) + x2)) 387) (zg (zin x2 288) (M_X12_again_B99 k1 n ((zAs S 10 (Int32.toNatClampNeg x2) ((zar S k1 (Int32.toNatClampNeg (((96 : Int32) + x2))))))) ((x2 + 1)))))
set_option maxHeartbeats 4000000 in
set_option maxRecDepth 100000 in
theorem t_X12_again_B99 {p : Program} {l : Launch} {e : Env} {s : State} {m : MethodId} {args : Array Value} {below : List Frame} {meth : Method} {c : Code} {D : va_G} {Y : Nat → ClassId} {F : Nat → Nat} {A : Nat → Prop} {G : zG} (C0 : zCx p s m args meth c D Y F A RX12 cX12_again 3 none wsX12_again) (k1 : Nat) (hk1 : k1 = 14 ∨ k1 = 15) (res : zSt) : ∀ (n : Nat), ∀ (S : zSt) (x2 : Int32), M_X12_again_B99 k1 n S x2 = some res → ∀ (H : Heap) (locs : List Loc) (ls : Array Slot), zH D Y F A G S H → va_S A s.heap H locs → lv_has ls 3 [(0, .ref (F 0)), (1, .ref (F k1)), (2, .int x2)] → W p l e (zRm 0 0) s m args below meth c H locs 0 0 (MQ below (zQv D Y F A G res) args s 0 0 A) (F0 m 99 ls []) := by
  obtain ⟨hx, hb, hml, hr, hown, hts, hK, hA, hlk, hN⟩ := id C0
  intro n
  induction n with
  | zero =>
    intro S x2 h
    unfold M_X12_again_B99 at h
    cases h
  | succ n ih =>
    intro S x2 h H locs ls hw hS hl
    rw [M_X12_again_B99] at h
    refine lv_iload_n hx hb dX12_again_99 rfl (lv_at hl 2 rfl) ?_
    refine lv_sipush (v := 288) hx hb dX12_again_100 (by decide) ?_
    refine lv_icmp_ge (tgt := 124) hx hb dX12_again_103 (by decide) (fun c3 => ?_) (fun c3 => ?_)
    · replace h := z_ifp c3 h
      refine lv_aload_n hx hb dX12_again_124 rfl (lv_at hl 0 rfl) ?_
      refine lv_aload_n hx hb dX12_again_125 rfl (lv_at hl 1 rfl) ?_
      refine lv_sipush (v := 384) hx hb dX12_again_126 (by decide) ?_
      obtain ⟨b4, h⟩ := z_gd h
      refine z_iald C0 hw k1 (zk1_E hk1) (zk1_a hk1) (zk1_R hk1) (zin_in b4) dX12_again_129 ?_
      refine z_put C0 in_X12_again_X12 tyX12 tyX12_ok nmX12 (C := RX12) (T := TX12) (N := 27) hw hS (k := 0) (ci := 12) (v := (zar S k1 (Int32.toNatClampNeg 384))) (ty := .int) rfl rfl rfl rfl 3 (by decide) 8 rfl rfl rfl rfl rfl (Nat.le_of_ble_eq_true rfl) rfl dX12_again_130 (fun H locs hw hS => ?_)
      refine lv_aload_n hx hb dX12_again_133 rfl (lv_at hl 0 rfl) ?_
      refine lv_aload_n hx hb dX12_again_134 rfl (lv_at hl 1 rfl) ?_
      refine lv_sipush (v := 385) hx hb dX12_again_135 (by decide) ?_
      obtain ⟨b5, h⟩ := z_gd h
      refine z_iald C0 hw k1 (zk1_E hk1) (zk1_a hk1) (zk1_R hk1) (zin_in b5) dX12_again_138 ?_
      refine z_put C0 in_X12_again_X12 tyX12 tyX12_ok nmX12 (C := RX12) (T := TX12) (N := 27) hw hS (k := 0) (ci := 12) (v := (zar ((zP S 0 3 ((zar S k1 (Int32.toNatClampNeg 384))))) k1 (Int32.toNatClampNeg 385))) (ty := .int) rfl rfl rfl rfl 11 (by decide) 9 rfl rfl rfl rfl rfl (Nat.le_of_ble_eq_true rfl) rfl dX12_again_139 (fun H locs hw hS => ?_)
      refine lv_aload_n hx hb dX12_again_142 rfl (lv_at hl 0 rfl) ?_
      refine lv_aload_n hx hb dX12_again_143 rfl (lv_at hl 1 rfl) ?_
      refine lv_sipush (v := 386) hx hb dX12_again_144 (by decide) ?_
      obtain ⟨b6, h⟩ := z_gd h
      refine z_iald C0 hw k1 (zk1_E hk1) (zk1_a hk1) (zk1_R hk1) (zin_in b6) dX12_again_147 ?_
      refine z_put C0 in_X12_again_X12 tyX12 tyX12_ok nmX12 (C := RX12) (T := TX12) (N := 27) hw hS (k := 0) (ci := 12) (v := (zar ((zP ((zP S 0 3 ((zar S k1 (Int32.toNatClampNeg 384))))) 0 11 ((zar ((zP S 0 3 ((zar S k1 (Int32.toNatClampNeg 384))))) k1 (Int32.toNatClampNeg 385))))) k1 (Int32.toNatClampNeg 386))) (ty := .int) rfl rfl rfl rfl 12 (by decide) 10 rfl rfl rfl rfl rfl (Nat.le_of_ble_eq_true rfl) rfl dX12_again_148 (fun H locs hw hS => ?_)
      exact z_retv C0 hw hS (Option.some.inj h) dX12_again_151
    · replace h := z_ifn c3 h
      refine lv_aload_n hx hb dX12_again_106 rfl (lv_at hl 0 rfl) ?_
      refine z_get C0 in_X12_again_X12 (C := RX12) (T := TX12) (N := 27) hw (k := 0) (ci := 12) (v := .ref (F 10)) rfl rfl rfl rfl 10 (by decide) rfl 7 rfl dX12_again_107 ?_
      refine lv_iload_n hx hb dX12_again_110 rfl (lv_at hl 2 rfl) ?_
      refine lv_aload_n hx hb dX12_again_111 rfl (lv_at hl 1 rfl) ?_
      refine lv_bipush (v := 96) hx hb dX12_again_112 (by decide) ?_
      refine lv_iload_n hx hb dX12_again_114 rfl (lv_at hl 2 rfl) ?_
      refine lv_iadd hx hb dX12_again_115 ?_
      obtain ⟨b7, h⟩ := z_gd h
      refine z_iald C0 hw k1 (zk1_E hk1) (zk1_a hk1) (zk1_R hk1) (zin_in b7) dX12_again_116 ?_
      obtain ⟨b8, h⟩ := z_gd h
      refine z_iasts C0 hw hS 10 rfl rfl zri_10 (zin_in b8) dX12_again_117 (fun H locs hw hS => ?_)
      refine lv_iinc (v := (x2 + 1)) (lv' := [(2, .int ((x2 + 1))), (0, .ref (F 0)), (1, .ref (F k1))]) hx hb dX12_again_118 hl (k := 2) rfl rfl (by decide) rfl (fun ls hl => ?_)
      refine lv_goto (tgt := 99) hx hb dX12_again_121 (by decide) ?_
      exact ih ((zAs S 10 (Int32.toNatClampNeg x2) ((zar S k1 (Int32.toNatClampNeg (((96 : Int32) + x2))))))) ((x2 + 1)) h _ _ _ hw hS (lv_sub hl [1, 2, 0] rfl)
def M_X12_again_B61 (k1 : Nat) : Nat → zSt → Int32 → Option (zSt)
  | 0, _, _ => none
  | n + 1, S, x2 =>
  (if 36 ≤ x2 then M_X12_again_B99 k1 zF S 0 else zg (zin (((24 : Int32) + x2)) 387) (zg (zin x2 36) (zg (zin (((60 : Int32) + x2)) 387) (zg (zin x2 36) (M_X12_again_B61 k1 n ((zAs ((zAs S 8 (Int32.toNatClampNeg x2) ((zar S k1 (Int32.toNatClampNeg (((24 : Int32) + x2))))))) 9 (Int32.toNatClampNeg x2) ((zar ((zAs S 8 (Int32.toNatClampNeg x2) ((zar S k1 (Int32.toNatClampNeg (((24 : Int32) + x2))))))) k1 (Int32.toNatClampNeg (((60 : Int32) + x2))))))) ((x2 + 1)))))))
set_option maxHeartbeats 4000000 in
set_option maxRecDepth 100000 in
theorem t_X12_again_B61 {p : Program} {l : Launch} {e : Env} {s : State} {m : MethodId} {args : Array Value} {below : List Frame} {meth : Method} {c : Code} {D : va_G} {Y : Nat → ClassId} {F : Nat → Nat} {A : Nat → Prop} {G : zG} (C0 : zCx p s m args meth c D Y F A RX12 cX12_again 3 none wsX12_again) (k1 : Nat) (hk1 : k1 = 14 ∨ k1 = 15) (res : zSt) : ∀ (n : Nat), ∀ (S : zSt) (x2 : Int32), M_X12_again_B61 k1 n S x2 = some res → ∀ (H : Heap) (locs : List Loc) (ls : Array Slot), zH D Y F A G S H → va_S A s.heap H locs → lv_has ls 3 [(0, .ref (F 0)), (1, .ref (F k1)), (2, .int x2)] → W p l e (zRm 0 0) s m args below meth c H locs 0 0 (MQ below (zQv D Y F A G res) args s 0 0 A) (F0 m 61 ls []) := by
  obtain ⟨hx, hb, hml, hr, hown, hts, hK, hA, hlk, hN⟩ := id C0
  intro n
  induction n with
  | zero =>
    intro S x2 h
    unfold M_X12_again_B61 at h
    cases h
  | succ n ih =>
    intro S x2 h H locs ls hw hS hl
    rw [M_X12_again_B61] at h
    refine lv_iload_n hx hb dX12_again_61 rfl (lv_at hl 2 rfl) ?_
    refine lv_bipush (v := 36) hx hb dX12_again_62 (by decide) ?_
    refine lv_icmp_ge (tgt := 97) hx hb dX12_again_64 (by decide) (fun c2 => ?_) (fun c2 => ?_)
    · replace h := z_ifp c2 h
      refine lv_iconst (v := 0) hx hb dX12_again_97 (by decide) ?_
      refine lv_istore_n (lv' := [(2, .int 0), (0, .ref (F 0)), (1, .ref (F k1))]) hx hb dX12_again_98 rfl hl (by decide) rfl (fun ls hl => ?_)
      exact t_X12_again_B99 C0 k1 hk1 res zF S 0 h _ _ _ hw hS (lv_sub hl [1, 2, 0] rfl)
    · replace h := z_ifn c2 h
      refine lv_aload_n hx hb dX12_again_67 rfl (lv_at hl 0 rfl) ?_
      refine z_get C0 in_X12_again_X12 (C := RX12) (T := TX12) (N := 27) hw (k := 0) (ci := 12) (v := .ref (F 8)) rfl rfl rfl rfl 8 (by decide) rfl 5 rfl dX12_again_68 ?_
      refine lv_iload_n hx hb dX12_again_71 rfl (lv_at hl 2 rfl) ?_
      refine lv_aload_n hx hb dX12_again_72 rfl (lv_at hl 1 rfl) ?_
      refine lv_bipush (v := 24) hx hb dX12_again_73 (by decide) ?_
      refine lv_iload_n hx hb dX12_again_75 rfl (lv_at hl 2 rfl) ?_
      refine lv_iadd hx hb dX12_again_76 ?_
      obtain ⟨b9, h⟩ := z_gd h
      refine z_iald C0 hw k1 (zk1_E hk1) (zk1_a hk1) (zk1_R hk1) (zin_in b9) dX12_again_77 ?_
      obtain ⟨b10, h⟩ := z_gd h
      refine z_iasts C0 hw hS 8 rfl rfl zri_8 (zin_in b10) dX12_again_78 (fun H locs hw hS => ?_)
      refine lv_aload_n hx hb dX12_again_79 rfl (lv_at hl 0 rfl) ?_
      refine z_get C0 in_X12_again_X12 (C := RX12) (T := TX12) (N := 27) hw (k := 0) (ci := 12) (v := .ref (F 9)) rfl rfl rfl rfl 9 (by decide) rfl 6 rfl dX12_again_80 ?_
      refine lv_iload_n hx hb dX12_again_83 rfl (lv_at hl 2 rfl) ?_
      refine lv_aload_n hx hb dX12_again_84 rfl (lv_at hl 1 rfl) ?_
      refine lv_bipush (v := 60) hx hb dX12_again_85 (by decide) ?_
      refine lv_iload_n hx hb dX12_again_87 rfl (lv_at hl 2 rfl) ?_
      refine lv_iadd hx hb dX12_again_88 ?_
      obtain ⟨b11, h⟩ := z_gd h
      refine z_iald C0 hw k1 (zk1_E hk1) (zk1_a hk1) (zk1_R hk1) (zin_in b11) dX12_again_89 ?_
      obtain ⟨b12, h⟩ := z_gd h
      refine z_iasts C0 hw hS 9 rfl rfl zri_9 (zin_in b12) dX12_again_90 (fun H locs hw hS => ?_)
      refine lv_iinc (v := (x2 + 1)) (lv' := [(2, .int ((x2 + 1))), (0, .ref (F 0)), (1, .ref (F k1))]) hx hb dX12_again_91 hl (k := 2) rfl rfl (by decide) rfl (fun ls hl => ?_)
      refine lv_goto (tgt := 61) hx hb dX12_again_94 (by decide) ?_
      exact ih ((zAs ((zAs S 8 (Int32.toNatClampNeg x2) ((zar S k1 (Int32.toNatClampNeg (((24 : Int32) + x2))))))) 9 (Int32.toNatClampNeg x2) ((zar ((zAs S 8 (Int32.toNatClampNeg x2) ((zar S k1 (Int32.toNatClampNeg (((24 : Int32) + x2))))))) k1 (Int32.toNatClampNeg (((60 : Int32) + x2))))))) ((x2 + 1)) h _ _ _ hw hS (lv_sub hl [1, 2, 0] rfl)
def M_X12_again_B2 (k1 : Nat) : Nat → zSt → Int32 → Option (zSt)
  | 0, _, _ => none
  | n + 1, S, x2 =>
  (if 6 ≤ x2 then M_X12_again_B61 k1 zF S 0 else zg (zin x2 387) (zg (zin x2 6) (zg (zin (((6 : Int32) + x2)) 387) (zg (zin x2 6) (zg (zin (((12 : Int32) + x2)) 387) (zg (zin x2 6) (zg (zin (((18 : Int32) + x2)) 387) (zg (zin x2 6) (M_X12_again_B2 k1 n ((zAs ((zAs ((zAs ((zAs S 4 (Int32.toNatClampNeg x2) ((zar S k1 (Int32.toNatClampNeg x2))))) 5 (Int32.toNatClampNeg x2) ((zar ((zAs S 4 (Int32.toNatClampNeg x2) ((zar S k1 (Int32.toNatClampNeg x2))))) k1 (Int32.toNatClampNeg (((6 : Int32) + x2))))))) 6 (Int32.toNatClampNeg x2) ((zar ((zAs ((zAs S 4 (Int32.toNatClampNeg x2) ((zar S k1 (Int32.toNatClampNeg x2))))) 5 (Int32.toNatClampNeg x2) ((zar ((zAs S 4 (Int32.toNatClampNeg x2) ((zar S k1 (Int32.toNatClampNeg x2))))) k1 (Int32.toNatClampNeg (((6 : Int32) + x2))))))) k1 (Int32.toNatClampNeg (((12 : Int32) + x2))))))) 7 (Int32.toNatClampNeg x2) ((zar ((zAs ((zAs ((zAs S 4 (Int32.toNatClampNeg x2) ((zar S k1 (Int32.toNatClampNeg x2))))) 5 (Int32.toNatClampNeg x2) ((zar ((zAs S 4 (Int32.toNatClampNeg x2) ((zar S k1 (Int32.toNatClampNeg x2))))) k1 (Int32.toNatClampNeg (((6 : Int32) + x2))))))) 6 (Int32.toNatClampNeg x2) ((zar ((zAs ((zAs S 4 (Int32.toNatClampNeg x2) ((zar S k1 (Int32.toNatClampNeg x2))))) 5 (Int32.toNatClampNeg x2) ((zar ((zAs S 4 (Int32.toNatClampNeg x2) ((zar S k1 (Int32.toNatClampNeg x2))))) k1 (Int32.toNatClampNeg (((6 : Int32) + x2))))))) k1 (Int32.toNatClampNeg (((12 : Int32) + x2))))))) k1 (Int32.toNatClampNeg (((18 : Int32) + x2))))))) ((x2 + 1)))))))))))
set_option maxHeartbeats 4000000 in
set_option maxRecDepth 100000 in
theorem t_X12_again_B2 {p : Program} {l : Launch} {e : Env} {s : State} {m : MethodId} {args : Array Value} {below : List Frame} {meth : Method} {c : Code} {D : va_G} {Y : Nat → ClassId} {F : Nat → Nat} {A : Nat → Prop} {G : zG} (C0 : zCx p s m args meth c D Y F A RX12 cX12_again 3 none wsX12_again) (k1 : Nat) (hk1 : k1 = 14 ∨ k1 = 15) (res : zSt) : ∀ (n : Nat), ∀ (S : zSt) (x2 : Int32), M_X12_again_B2 k1 n S x2 = some res → ∀ (H : Heap) (locs : List Loc) (ls : Array Slot), zH D Y F A G S H → va_S A s.heap H locs → lv_has ls 3 [(0, .ref (F 0)), (1, .ref (F k1)), (2, .int x2)] → W p l e (zRm 0 0) s m args below meth c H locs 0 0 (MQ below (zQv D Y F A G res) args s 0 0 A) (F0 m 2 ls []) := by
  obtain ⟨hx, hb, hml, hr, hown, hts, hK, hA, hlk, hN⟩ := id C0
  intro n
  induction n with
  | zero =>
    intro S x2 h
    unfold M_X12_again_B2 at h
    cases h
  | succ n ih =>
    intro S x2 h H locs ls hw hS hl
    rw [M_X12_again_B2] at h
    refine lv_iload_n hx hb dX12_again_2 rfl (lv_at hl 2 rfl) ?_
    refine lv_bipush (v := 6) hx hb dX12_again_3 (by decide) ?_
    refine lv_icmp_ge (tgt := 59) hx hb dX12_again_5 (by decide) (fun c1 => ?_) (fun c1 => ?_)
    · replace h := z_ifp c1 h
      refine lv_iconst (v := 0) hx hb dX12_again_59 (by decide) ?_
      refine lv_istore_n (lv' := [(2, .int 0), (0, .ref (F 0)), (1, .ref (F k1))]) hx hb dX12_again_60 rfl hl (by decide) rfl (fun ls hl => ?_)
      exact t_X12_again_B61 C0 k1 hk1 res zF S 0 h _ _ _ hw hS (lv_sub hl [1, 2, 0] rfl)
    · replace h := z_ifn c1 h
      refine lv_aload_n hx hb dX12_again_8 rfl (lv_at hl 0 rfl) ?_
      refine z_get C0 in_X12_again_X12 (C := RX12) (T := TX12) (N := 27) hw (k := 0) (ci := 12) (v := .ref (F 4)) rfl rfl rfl rfl 4 (by decide) rfl 1 rfl dX12_again_9 ?_
      refine lv_iload_n hx hb dX12_again_12 rfl (lv_at hl 2 rfl) ?_
      refine lv_aload_n hx hb dX12_again_13 rfl (lv_at hl 1 rfl) ?_
      refine lv_iload_n hx hb dX12_again_14 rfl (lv_at hl 2 rfl) ?_
      obtain ⟨b13, h⟩ := z_gd h
      refine z_iald C0 hw k1 (zk1_E hk1) (zk1_a hk1) (zk1_R hk1) (zin_in b13) dX12_again_15 ?_
      obtain ⟨b14, h⟩ := z_gd h
      refine z_iasts C0 hw hS 4 rfl rfl zri_4 (zin_in b14) dX12_again_16 (fun H locs hw hS => ?_)
      refine lv_aload_n hx hb dX12_again_17 rfl (lv_at hl 0 rfl) ?_
      refine z_get C0 in_X12_again_X12 (C := RX12) (T := TX12) (N := 27) hw (k := 0) (ci := 12) (v := .ref (F 5)) rfl rfl rfl rfl 5 (by decide) rfl 2 rfl dX12_again_18 ?_
      refine lv_iload_n hx hb dX12_again_21 rfl (lv_at hl 2 rfl) ?_
      refine lv_aload_n hx hb dX12_again_22 rfl (lv_at hl 1 rfl) ?_
      refine lv_bipush (v := 6) hx hb dX12_again_23 (by decide) ?_
      refine lv_iload_n hx hb dX12_again_25 rfl (lv_at hl 2 rfl) ?_
      refine lv_iadd hx hb dX12_again_26 ?_
      obtain ⟨b15, h⟩ := z_gd h
      refine z_iald C0 hw k1 (zk1_E hk1) (zk1_a hk1) (zk1_R hk1) (zin_in b15) dX12_again_27 ?_
      obtain ⟨b16, h⟩ := z_gd h
      refine z_iasts C0 hw hS 5 rfl rfl zri_5 (zin_in b16) dX12_again_28 (fun H locs hw hS => ?_)
      refine lv_aload_n hx hb dX12_again_29 rfl (lv_at hl 0 rfl) ?_
      refine z_get C0 in_X12_again_X12 (C := RX12) (T := TX12) (N := 27) hw (k := 0) (ci := 12) (v := .ref (F 6)) rfl rfl rfl rfl 6 (by decide) rfl 3 rfl dX12_again_30 ?_
      refine lv_iload_n hx hb dX12_again_33 rfl (lv_at hl 2 rfl) ?_
      refine lv_aload_n hx hb dX12_again_34 rfl (lv_at hl 1 rfl) ?_
      refine lv_bipush (v := 12) hx hb dX12_again_35 (by decide) ?_
      refine lv_iload_n hx hb dX12_again_37 rfl (lv_at hl 2 rfl) ?_
      refine lv_iadd hx hb dX12_again_38 ?_
      obtain ⟨b17, h⟩ := z_gd h
      refine z_iald C0 hw k1 (zk1_E hk1) (zk1_a hk1) (zk1_R hk1) (zin_in b17) dX12_again_39 ?_
      obtain ⟨b18, h⟩ := z_gd h
      refine z_iasts C0 hw hS 6 rfl rfl zri_6 (zin_in b18) dX12_again_40 (fun H locs hw hS => ?_)
      refine lv_aload_n hx hb dX12_again_41 rfl (lv_at hl 0 rfl) ?_
      refine z_get C0 in_X12_again_X12 (C := RX12) (T := TX12) (N := 27) hw (k := 0) (ci := 12) (v := .ref (F 7)) rfl rfl rfl rfl 7 (by decide) rfl 4 rfl dX12_again_42 ?_
      refine lv_iload_n hx hb dX12_again_45 rfl (lv_at hl 2 rfl) ?_
      refine lv_aload_n hx hb dX12_again_46 rfl (lv_at hl 1 rfl) ?_
      refine lv_bipush (v := 18) hx hb dX12_again_47 (by decide) ?_
      refine lv_iload_n hx hb dX12_again_49 rfl (lv_at hl 2 rfl) ?_
      refine lv_iadd hx hb dX12_again_50 ?_
      obtain ⟨b19, h⟩ := z_gd h
      refine z_iald C0 hw k1 (zk1_E hk1) (zk1_a hk1) (zk1_R hk1) (zin_in b19) dX12_again_51 ?_
      obtain ⟨b20, h⟩ := z_gd h
      refine z_iasts C0 hw hS 7 rfl rfl zri_7 (zin_in b20) dX12_again_52 (fun H locs hw hS => ?_)
      refine lv_iinc (v := (x2 + 1)) (lv' := [(2, .int ((x2 + 1))), (0, .ref (F 0)), (1, .ref (F k1))]) hx hb dX12_again_53 hl (k := 2) rfl rfl (by decide) rfl (fun ls hl => ?_)
      refine lv_goto (tgt := 2) hx hb dX12_again_56 (by decide) ?_
      exact ih ((zAs ((zAs ((zAs ((zAs S 4 (Int32.toNatClampNeg x2) ((zar S k1 (Int32.toNatClampNeg x2))))) 5 (Int32.toNatClampNeg x2) ((zar ((zAs S 4 (Int32.toNatClampNeg x2) ((zar S k1 (Int32.toNatClampNeg x2))))) k1 (Int32.toNatClampNeg (((6 : Int32) + x2))))))) 6 (Int32.toNatClampNeg x2) ((zar ((zAs ((zAs S 4 (Int32.toNatClampNeg x2) ((zar S k1 (Int32.toNatClampNeg x2))))) 5 (Int32.toNatClampNeg x2) ((zar ((zAs S 4 (Int32.toNatClampNeg x2) ((zar S k1 (Int32.toNatClampNeg x2))))) k1 (Int32.toNatClampNeg (((6 : Int32) + x2))))))) k1 (Int32.toNatClampNeg (((12 : Int32) + x2))))))) 7 (Int32.toNatClampNeg x2) ((zar ((zAs ((zAs ((zAs S 4 (Int32.toNatClampNeg x2) ((zar S k1 (Int32.toNatClampNeg x2))))) 5 (Int32.toNatClampNeg x2) ((zar ((zAs S 4 (Int32.toNatClampNeg x2) ((zar S k1 (Int32.toNatClampNeg x2))))) k1 (Int32.toNatClampNeg (((6 : Int32) + x2))))))) 6 (Int32.toNatClampNeg x2) ((zar ((zAs ((zAs S 4 (Int32.toNatClampNeg x2) ((zar S k1 (Int32.toNatClampNeg x2))))) 5 (Int32.toNatClampNeg x2) ((zar ((zAs S 4 (Int32.toNatClampNeg x2) ((zar S k1 (Int32.toNatClampNeg x2))))) k1 (Int32.toNatClampNeg (((6 : Int32) + x2))))))) k1 (Int32.toNatClampNeg (((12 : Int32) + x2))))))) k1 (Int32.toNatClampNeg (((18 : Int32) + x2))))))) ((x2 + 1)) h _ _ _ hw hS (lv_sub hl [1, 2, 0] rfl)
def M_X12_again (S : zSt) (k1 : Nat) : Option (zSt) :=
  M_X12_again_B2 k1 zF S 0
set_option maxHeartbeats 4000000 in
set_option maxRecDepth 100000 in
theorem c_X12_again (l : Launch) (D : va_G) (Y : Nat → ClassId) (F : Nat → Nat) (G : zG) (S : zSt) (sz : Nat) (k1 : Nat) (hk1 : k1 = 14 ∨ k1 = 15) (res : zSt) (h : M_X12_again S k1 = some res) : Met l yX12_again wsX12_again (zRm 0 0) (zPc D Y F G S sz [.ref (F 0), .ref (F k1)]) (zQv D Y F (zAo F G sz) G res) 0 0 (zAo F G sz) := by
  unfold M_X12_again at h
  refine zMet (cc := cX12_again) (maxL := 3) (ret := none) (own := RX12) (by decide +kernel) rfl rfl (Nat.le_of_ble_eq_true rfl) ?_
  intro p e s m args below meth c C0 hin hw hS ls hl
  have hl : lv_has ls 3 [(0, .ref (F 0)), (1, .ref (F k1))] := hl
  generalize zAo F G sz = A at C0 hw hS ⊢
  obtain ⟨hx, hb, hml, hr, hown, hts, hK, hA, hlk, hN⟩ := id C0
  refine lv_iconst (v := 0) hx hb dX12_again_0 (by decide) ?_
  refine lv_istore_n (lv' := [(2, .int 0), (0, .ref (F 0)), (1, .ref (F k1))]) hx hb dX12_again_1 rfl hl (by decide) rfl (fun ls hl => ?_)
  exact t_X12_again_B2 C0 k1 hk1 res zF S 0 h _ _ _ hw hS (lv_sub hl [1, 2, 0] rfl)
def M_X12_judge (S : zSt) (x1 : Int32) (x2 : Int32) : Option (Int32 × zSt) :=
  Option.bind (M_X12_noTold S x1 x2 0 40) (fun w1 => (if 0 ≤ w1 then Option.bind (M_X12_keep S 15) (fun w3 => Option.bind (M_X12_happen w3 x1 x2) (fun w4 => Option.bind (M_X12_again w4.2 15) (fun w5 => some (w4.1, w5)))) else Option.bind (M_X12_no10 S w1) (fun w6 => some (w6.1, w6.2))))
set_option maxHeartbeats 4000000 in
set_option maxRecDepth 100000 in
theorem c_X12_judge (l : Launch) (D : va_G) (Y : Nat → ClassId) (F : Nat → Nat) (G : zG) (S : zSt) (sz : Nat) (x1 : Int32) (x2 : Int32) (res : Int32 × zSt) (h : M_X12_judge S x1 x2 = some res) : Met l yX12_judge wsX12_judge (zRm 5 123) (zPc D Y F G S sz [.ref (F 0), .int x1, .int x2]) (zQi D Y F (zAo F G sz) G res) 0 0 (zAo F G sz) := by
  unfold M_X12_judge at h
  refine zMet (cc := cX12_judge) (maxL := 5) (ret := (some .int)) (own := RX12) (by decide +kernel) rfl rfl (Nat.le_of_ble_eq_true rfl) ?_
  intro p e s m args below meth c C0 hin hw hS ls hl
  have hl : lv_has ls 5 [(0, .ref (F 0)), (1, .int x1), (2, .int x2)] := hl
  generalize zAo F G sz = A at C0 hw hS ⊢
  obtain ⟨hx, hb, hml, hr, hown, hts, hK, hA, hlk, hN⟩ := id C0
  refine lv_aload_n hx hb dX12_judge_0 rfl (lv_at hl 0 rfl) ?_
  refine lv_iload_n hx hb dX12_judge_1 rfl (lv_at hl 1 rfl) ?_
  refine lv_iload_n hx hb dX12_judge_2 rfl (lv_at hl 2 rfl) ?_
  refine lv_iconst (v := 0) hx hb dX12_judge_3 (by decide) ?_
  refine lv_bipush (v := 40) hx hb dX12_judge_4 (by decide) ?_
  obtain ⟨w1, ew1, h⟩ := z_bd h
  refine z_callVip C0 hw hS (k := 0) (As := [.int x1, .int x2, .int 0, .int 40]) (rest := []) rfl rfl rfl rfl (c_X12_noTold l D Y F G S _ x1 x2 0 40 w1 ew1) (cwV 4 hts gX12_judge_X12_noTold rfl rfl rfl (by decide +kernel) ⟨Nat.le_of_ble_eq_true rfl, Nat.le_of_ble_eq_true rfl⟩) rfl hl.1 rfl (Nat.le_of_ble_eq_true rfl) dX12_judge_6 ⟨Nat.zero_le _, Nat.zero_le _⟩ (fun H locs hw hS => ?_)
  refine lv_istore_n (lv' := [(3, .int w1), (0, .ref (F 0)), (1, .int x1), (2, .int x2)]) hx hb dX12_judge_9 rfl hl (by decide) rfl (fun ls hl => ?_)
  refine lv_iload_n hx hb dX12_judge_10 rfl (lv_at hl 0 rfl) ?_
  refine lv_if_ge (tgt := 20) hx hb dX12_judge_11 (by decide) (fun c2 => ?_) (fun c2 => ?_)
  · replace h := z_ifp c2 h
    refine lv_aload_n hx hb dX12_judge_20 rfl (lv_at hl 1 rfl) ?_
    refine lv_aload_n hx hb dX12_judge_21 rfl (lv_at hl 1 rfl) ?_
    refine z_get C0 in_X12_judge_X12 (C := RX12) (T := TX12) (N := 27) hw (k := 0) (ci := 12) (v := .ref (F 15)) rfl rfl rfl rfl 22 (by decide) rfl 1 rfl dX12_judge_22 ?_
    obtain ⟨w3, ew3, h⟩ := z_bd h
    refine z_callVv0 C0 hw hS (k := 0) (As := [.ref (F 15)]) (rest := []) rfl rfl rfl rfl (c_X12_keep l D Y F G S _ 15 (Or.inr rfl) w3 ew3) (cwV 1 hts gX12_judge_X12_keep rfl rfl rfl (by decide +kernel) ⟨Nat.le_of_ble_eq_true rfl, Nat.le_of_ble_eq_true rfl⟩) rfl hl.1 rfl (Nat.le_of_ble_eq_true rfl) dX12_judge_25 ⟨Nat.zero_le _, Nat.zero_le _⟩ (fun H locs hw hS => ?_)
    refine lv_aload_n hx hb dX12_judge_28 rfl (lv_at hl 1 rfl) ?_
    refine lv_iload_n hx hb dX12_judge_29 rfl (lv_at hl 2 rfl) ?_
    refine lv_iload_n hx hb dX12_judge_30 rfl (lv_at hl 3 rfl) ?_
    obtain ⟨w4, ew4, h⟩ := z_bd h
    refine z_callVi0 C0 hw hS (k := 0) (As := [.int x1, .int x2]) (rest := []) rfl rfl rfl rfl (c_X12_happen l D Y F G w3 _ x1 x2 w4 ew4) (cwV 2 hts gX12_judge_X12_happen rfl rfl rfl (by decide +kernel) ⟨Nat.le_of_ble_eq_true rfl, Nat.le_of_ble_eq_true rfl⟩) rfl hl.1 rfl (Nat.le_of_ble_eq_true rfl) dX12_judge_31 ⟨Nat.zero_le _, Nat.zero_le _⟩ (fun H locs hw hS => ?_)
    refine lv_istore (lv' := [(4, .int w4.1), (3, .int w1), (0, .ref (F 0)), (1, .int x1), (2, .int x2)]) hx hb dX12_judge_34 hl (by decide) rfl (fun ls hl => ?_)
    refine lv_aload_n hx hb dX12_judge_36 rfl (lv_at hl 2 rfl) ?_
    refine lv_aload_n hx hb dX12_judge_37 rfl (lv_at hl 2 rfl) ?_
    refine z_get C0 in_X12_judge_X12 (C := RX12) (T := TX12) (N := 27) hw (k := 0) (ci := 12) (v := .ref (F 15)) rfl rfl rfl rfl 22 (by decide) rfl 1 rfl dX12_judge_38 ?_
    obtain ⟨w5, ew5, h⟩ := z_bd h
    refine z_callVv0 C0 hw hS (k := 0) (As := [.ref (F 15)]) (rest := []) rfl rfl rfl rfl (c_X12_again l D Y F G w4.2 _ 15 (Or.inr rfl) w5 ew5) (cwV 1 hts gX12_judge_X12_again rfl rfl rfl (by decide +kernel) ⟨Nat.le_of_ble_eq_true rfl, Nat.le_of_ble_eq_true rfl⟩) rfl hl.1 rfl (Nat.le_of_ble_eq_true rfl) dX12_judge_41 ⟨Nat.zero_le _, Nat.zero_le _⟩ (fun H locs hw hS => ?_)
    refine lv_iload hx hb dX12_judge_44 (lv_at hl 0 rfl) ?_
    exact z_reti C0 hw hS (Option.some.inj h) dX12_judge_46
  · replace h := z_ifn c2 h
    refine lv_aload_n hx hb dX12_judge_14 rfl (lv_at hl 1 rfl) ?_
    refine lv_iload_n hx hb dX12_judge_15 rfl (lv_at hl 0 rfl) ?_
    obtain ⟨w6, ew6, h⟩ := z_bd h
    refine z_callVi0 C0 hw hS (k := 0) (As := [.int w1]) (rest := []) rfl rfl rfl rfl (c_X12_no10 l D Y F G S _ w1 w6 ew6) (cwV 1 hts gX12_judge_X12_no10 rfl rfl rfl (by decide +kernel) ⟨Nat.le_of_ble_eq_true rfl, Nat.le_of_ble_eq_true rfl⟩) rfl hl.1 rfl (Nat.le_of_ble_eq_true rfl) dX12_judge_16 ⟨Nat.zero_le _, Nat.zero_le _⟩ (fun H locs hw hS => ?_)
    exact z_reti C0 hw hS (Option.some.inj h) dX12_judge_19
def M_X12_allDead_B4 (S : zSt) : Nat → Int32 → Int32 → Option (Int32)
  | 0, _, _ => none
  | n + 1, x1, x2 =>
  (if (zsc S 0 3) ≤ x2 then some x1 else zg (zin x2 6) (Option.bind (some ((x1 + (zar S 7 (Int32.toNatClampNeg x2))))) (fun v3 => M_X12_allDead_B4 S n v3 ((x2 + 1)))))
set_option maxHeartbeats 4000000 in
set_option maxRecDepth 100000 in
theorem t_X12_allDead_B4 {p : Program} {l : Launch} {e : Env} {s : State} {m : MethodId} {args : Array Value} {below : List Frame} {meth : Method} {c : Code} {D : va_G} {Y : Nat → ClassId} {F : Nat → Nat} {A : Nat → Prop} {G : zG} (C0 : zCx p s m args meth c D Y F A RX12 cX12_allDead 3 (some .int) wsX12_allDead) (S : zSt) (res : Int32) : ∀ (n : Nat), ∀ (x1 : Int32) (x2 : Int32), M_X12_allDead_B4 S n x1 x2 = some res → ∀ (H : Heap) (locs : List Loc) (ls : Array Slot), zH D Y F A G S H → va_S A s.heap H locs → lv_has ls 3 [(0, .ref (F 0)), (1, .int x1), (2, .int x2)] → W p l e (zRm 0 0) s m args below meth c H locs 0 0 (MQ below (zQi D Y F A G (res, S)) args s 0 0 A) (F0 m 4 ls []) := by
  obtain ⟨hx, hb, hml, hr, hown, hts, hK, hA, hlk, hN⟩ := id C0
  intro n
  induction n with
  | zero =>
    intro x1 x2 h
    unfold M_X12_allDead_B4 at h
    cases h
  | succ n ih =>
    intro x1 x2 h H locs ls hw hS hl
    rw [M_X12_allDead_B4] at h
    refine lv_iload_n hx hb dX12_allDead_4 rfl (lv_at hl 2 rfl) ?_
    refine lv_aload_n hx hb dX12_allDead_5 rfl (lv_at hl 0 rfl) ?_
    refine z_get C0 in_X12_allDead_X12 (C := RX12) (T := TX12) (N := 27) hw (k := 0) (ci := 12) (v := .int ((zsc S 0 3))) rfl rfl rfl rfl 3 (by decide) rfl 1 rfl dX12_allDead_6 ?_
    refine lv_icmp_ge (tgt := 27) hx hb dX12_allDead_9 (by decide) (fun c1 => ?_) (fun c1 => ?_)
    · replace h := z_ifp c1 h
      refine lv_iload_n hx hb dX12_allDead_27 rfl (lv_at hl 1 rfl) ?_
      exact z_reti C0 hw hS (congrArg (fun z => (z, S)) (Option.some.inj h)) dX12_allDead_28
    · replace h := z_ifn c1 h
      refine lv_iload_n hx hb dX12_allDead_12 rfl (lv_at hl 1 rfl) ?_
      refine lv_aload_n hx hb dX12_allDead_13 rfl (lv_at hl 0 rfl) ?_
      refine z_get C0 in_X12_allDead_X12 (C := RX12) (T := TX12) (N := 27) hw (k := 0) (ci := 12) (v := .ref (F 7)) rfl rfl rfl rfl 7 (by decide) rfl 2 rfl dX12_allDead_14 ?_
      refine lv_iload_n hx hb dX12_allDead_17 rfl (lv_at hl 2 rfl) ?_
      obtain ⟨b2, h⟩ := z_gd h
      refine z_iald C0 hw 7 rfl rfl zri_7 (zin_in b2) dX12_allDead_18 ?_
      refine lv_iadd hx hb dX12_allDead_19 ?_
      obtain ⟨v3, ev3, h⟩ := z_bd h
      refine z_top (Option.some.inj ev3) ?_
      refine lv_istore_n (lv' := [(1, .int v3), (0, .ref (F 0)), (2, .int x2)]) hx hb dX12_allDead_20 rfl hl (by decide) rfl (fun ls hl => ?_)
      refine lv_iinc (v := (x2 + 1)) (lv' := [(2, .int ((x2 + 1))), (1, .int v3), (0, .ref (F 0))]) hx hb dX12_allDead_21 hl (k := 2) rfl rfl (by decide) rfl (fun ls hl => ?_)
      refine lv_goto (tgt := 4) hx hb dX12_allDead_24 (by decide) ?_
      exact ih v3 ((x2 + 1)) h _ _ _ hw hS (lv_sub hl [2, 1, 0] rfl)
def M_X12_allDead (S : zSt) : Option (Int32) :=
  M_X12_allDead_B4 S zF 0 0
set_option maxHeartbeats 4000000 in
set_option maxRecDepth 100000 in
theorem c_X12_allDead (l : Launch) (D : va_G) (Y : Nat → ClassId) (F : Nat → Nat) (G : zG) (S : zSt) (sz : Nat) (res : Int32) (h : M_X12_allDead S = some res) : Met l yX12_allDead wsX12_allDead (zRm 0 0) (zPc D Y F G S sz [.ref (F 0)]) (zQi D Y F (zAo F G sz) G (res, S)) 0 0 (zAo F G sz) := by
  unfold M_X12_allDead at h
  refine zMet (cc := cX12_allDead) (maxL := 3) (ret := (some .int)) (own := RX12) (by decide +kernel) rfl rfl (Nat.le_of_ble_eq_true rfl) ?_
  intro p e s m args below meth c C0 hin hw hS ls hl
  have hl : lv_has ls 3 [(0, .ref (F 0))] := hl
  generalize zAo F G sz = A at C0 hw hS ⊢
  obtain ⟨hx, hb, hml, hr, hown, hts, hK, hA, hlk, hN⟩ := id C0
  refine lv_iconst (v := 0) hx hb dX12_allDead_0 (by decide) ?_
  refine lv_istore_n (lv' := [(1, .int 0), (0, .ref (F 0))]) hx hb dX12_allDead_1 rfl hl (by decide) rfl (fun ls hl => ?_)
  refine lv_iconst (v := 0) hx hb dX12_allDead_2 (by decide) ?_
  refine lv_istore_n (lv' := [(2, .int 0), (1, .int 0), (0, .ref (F 0))]) hx hb dX12_allDead_3 rfl hl (by decide) rfl (fun ls hl => ?_)
  exact t_X12_allDead_B4 C0 S res zF 0 0 h _ _ _ hw hS (lv_sub hl [2, 1, 0] rfl)
def M_X12_allStrength_B4 (S : zSt) : Nat → Int32 → Int32 → Option (Int32)
  | 0, _, _ => none
  | n + 1, x1, x2 =>
  (if ((48 : Int32) * (zsc S 0 3)) ≤ x2 then some x1 else zg (zin x2 288) (Option.bind (some ((x1 + (zar S 10 (Int32.toNatClampNeg x2))))) (fun v3 => M_X12_allStrength_B4 S n v3 ((x2 + 1)))))
set_option maxHeartbeats 4000000 in
set_option maxRecDepth 100000 in
theorem t_X12_allStrength_B4 {p : Program} {l : Launch} {e : Env} {s : State} {m : MethodId} {args : Array Value} {below : List Frame} {meth : Method} {c : Code} {D : va_G} {Y : Nat → ClassId} {F : Nat → Nat} {A : Nat → Prop} {G : zG} (C0 : zCx p s m args meth c D Y F A RX12 cX12_allStrength 3 (some .int) wsX12_allStrength) (S : zSt) (res : Int32) : ∀ (n : Nat), ∀ (x1 : Int32) (x2 : Int32), M_X12_allStrength_B4 S n x1 x2 = some res → ∀ (H : Heap) (locs : List Loc) (ls : Array Slot), zH D Y F A G S H → va_S A s.heap H locs → lv_has ls 3 [(0, .ref (F 0)), (1, .int x1), (2, .int x2)] → W p l e (zRm 0 0) s m args below meth c H locs 0 0 (MQ below (zQi D Y F A G (res, S)) args s 0 0 A) (F0 m 4 ls []) := by
  obtain ⟨hx, hb, hml, hr, hown, hts, hK, hA, hlk, hN⟩ := id C0
  intro n
  induction n with
  | zero =>
    intro x1 x2 h
    unfold M_X12_allStrength_B4 at h
    cases h
  | succ n ih =>
    intro x1 x2 h H locs ls hw hS hl
    rw [M_X12_allStrength_B4] at h
    refine lv_iload_n hx hb dX12_allStrength_4 rfl (lv_at hl 2 rfl) ?_
    refine lv_bipush (v := 48) hx hb dX12_allStrength_5 (by decide) ?_
    refine lv_aload_n hx hb dX12_allStrength_7 rfl (lv_at hl 0 rfl) ?_
    refine z_get C0 in_X12_allStrength_X12 (C := RX12) (T := TX12) (N := 27) hw (k := 0) (ci := 12) (v := .int ((zsc S 0 3))) rfl rfl rfl rfl 3 (by decide) rfl 1 rfl dX12_allStrength_8 ?_
    refine lv_imul hx hb dX12_allStrength_11 ?_
    refine lv_icmp_ge (tgt := 30) hx hb dX12_allStrength_12 (by decide) (fun c1 => ?_) (fun c1 => ?_)
    · replace h := z_ifp c1 h
      refine lv_iload_n hx hb dX12_allStrength_30 rfl (lv_at hl 1 rfl) ?_
      exact z_reti C0 hw hS (congrArg (fun z => (z, S)) (Option.some.inj h)) dX12_allStrength_31
    · replace h := z_ifn c1 h
      refine lv_iload_n hx hb dX12_allStrength_15 rfl (lv_at hl 1 rfl) ?_
      refine lv_aload_n hx hb dX12_allStrength_16 rfl (lv_at hl 0 rfl) ?_
      refine z_get C0 in_X12_allStrength_X12 (C := RX12) (T := TX12) (N := 27) hw (k := 0) (ci := 12) (v := .ref (F 10)) rfl rfl rfl rfl 10 (by decide) rfl 2 rfl dX12_allStrength_17 ?_
      refine lv_iload_n hx hb dX12_allStrength_20 rfl (lv_at hl 2 rfl) ?_
      obtain ⟨b2, h⟩ := z_gd h
      refine z_iald C0 hw 10 rfl rfl zri_10 (zin_in b2) dX12_allStrength_21 ?_
      refine lv_iadd hx hb dX12_allStrength_22 ?_
      obtain ⟨v3, ev3, h⟩ := z_bd h
      refine z_top (Option.some.inj ev3) ?_
      refine lv_istore_n (lv' := [(1, .int v3), (0, .ref (F 0)), (2, .int x2)]) hx hb dX12_allStrength_23 rfl hl (by decide) rfl (fun ls hl => ?_)
      refine lv_iinc (v := (x2 + 1)) (lv' := [(2, .int ((x2 + 1))), (1, .int v3), (0, .ref (F 0))]) hx hb dX12_allStrength_24 hl (k := 2) rfl rfl (by decide) rfl (fun ls hl => ?_)
      refine lv_goto (tgt := 4) hx hb dX12_allStrength_27 (by decide) ?_
      exact ih v3 ((x2 + 1)) h _ _ _ hw hS (lv_sub hl [2, 1, 0] rfl)
def M_X12_allStrength (S : zSt) : Option (Int32) :=
  M_X12_allStrength_B4 S zF 0 0
set_option maxHeartbeats 4000000 in
set_option maxRecDepth 100000 in
theorem c_X12_allStrength (l : Launch) (D : va_G) (Y : Nat → ClassId) (F : Nat → Nat) (G : zG) (S : zSt) (sz : Nat) (res : Int32) (h : M_X12_allStrength S = some res) : Met l yX12_allStrength wsX12_allStrength (zRm 0 0) (zPc D Y F G S sz [.ref (F 0)]) (zQi D Y F (zAo F G sz) G (res, S)) 0 0 (zAo F G sz) := by
  unfold M_X12_allStrength at h
  refine zMet (cc := cX12_allStrength) (maxL := 3) (ret := (some .int)) (own := RX12) (by decide +kernel) rfl rfl (Nat.le_of_ble_eq_true rfl) ?_
  intro p e s m args below meth c C0 hin hw hS ls hl
  have hl : lv_has ls 3 [(0, .ref (F 0))] := hl
  generalize zAo F G sz = A at C0 hw hS ⊢
  obtain ⟨hx, hb, hml, hr, hown, hts, hK, hA, hlk, hN⟩ := id C0
  refine lv_iconst (v := 0) hx hb dX12_allStrength_0 (by decide) ?_
  refine lv_istore_n (lv' := [(1, .int 0), (0, .ref (F 0))]) hx hb dX12_allStrength_1 rfl hl (by decide) rfl (fun ls hl => ?_)
  refine lv_iconst (v := 0) hx hb dX12_allStrength_2 (by decide) ?_
  refine lv_istore_n (lv' := [(2, .int 0), (1, .int 0), (0, .ref (F 0))]) hx hb dX12_allStrength_3 rfl hl (by decide) rfl (fun ls hl => ?_)
  exact t_X12_allStrength_B4 C0 S res zF 0 0 h _ _ _ hw hS (lv_sub hl [2, 1, 0] rfl)
def M_X12_allSmears_B4 (S : zSt) : Nat → Int32 → Int32 → Option (Int32)
  | 0, _, _ => none
  | n + 1, x1, x2 =>
  (if (zsc S 0 3) ≤ x2 then some x1 else Option.bind (M_X12_rubbed S x2) (fun w2 => M_X12_allSmears_B4 S n ((x1 + w2)) ((x2 + 1))))
set_option maxHeartbeats 4000000 in
set_option maxRecDepth 100000 in
theorem t_X12_allSmears_B4 {p : Program} {l : Launch} {e : Env} {s : State} {m : MethodId} {args : Array Value} {below : List Frame} {meth : Method} {c : Code} {D : va_G} {Y : Nat → ClassId} {F : Nat → Nat} {A : Nat → Prop} {G : zG} (C0 : zCx p s m args meth c D Y F A RX12 cX12_allSmears 3 (some .int) wsX12_allSmears) (S : zSt) (res : Int32) : ∀ (n : Nat), ∀ (x1 : Int32) (x2 : Int32), M_X12_allSmears_B4 S n x1 x2 = some res → ∀ (H : Heap) (locs : List Loc) (ls : Array Slot), zH D Y F A G S H → va_S A s.heap H locs → lv_has ls 3 [(0, .ref (F 0)), (1, .int x1), (2, .int x2)] → W p l e (zRm 1 23) s m args below meth c H locs 0 0 (MQ below (zQi D Y F A G (res, S)) args s 0 0 A) (F0 m 4 ls []) := by
  obtain ⟨hx, hb, hml, hr, hown, hts, hK, hA, hlk, hN⟩ := id C0
  intro n
  induction n with
  | zero =>
    intro x1 x2 h
    unfold M_X12_allSmears_B4 at h
    cases h
  | succ n ih =>
    intro x1 x2 h H locs ls hw hS hl
    rw [M_X12_allSmears_B4] at h
    refine lv_iload_n hx hb dX12_allSmears_4 rfl (lv_at hl 2 rfl) ?_
    refine lv_aload_n hx hb dX12_allSmears_5 rfl (lv_at hl 0 rfl) ?_
    refine z_get C0 in_X12_allSmears_X12 (C := RX12) (T := TX12) (N := 27) hw (k := 0) (ci := 12) (v := .int ((zsc S 0 3))) rfl rfl rfl rfl 3 (by decide) rfl 1 rfl dX12_allSmears_6 ?_
    refine lv_icmp_ge (tgt := 26) hx hb dX12_allSmears_9 (by decide) (fun c1 => ?_) (fun c1 => ?_)
    · replace h := z_ifp c1 h
      refine lv_iload_n hx hb dX12_allSmears_26 rfl (lv_at hl 1 rfl) ?_
      exact z_reti C0 hw hS (congrArg (fun z => (z, S)) (Option.some.inj h)) dX12_allSmears_27
    · replace h := z_ifn c1 h
      refine lv_iload_n hx hb dX12_allSmears_12 rfl (lv_at hl 1 rfl) ?_
      refine lv_aload_n hx hb dX12_allSmears_13 rfl (lv_at hl 0 rfl) ?_
      refine lv_iload_n hx hb dX12_allSmears_14 rfl (lv_at hl 2 rfl) ?_
      obtain ⟨w2, ew2, h⟩ := z_bd h
      refine z_callVip C0 hw hS (k := 0) (As := [.int x2]) (rest := [.int x1]) rfl rfl rfl rfl (c_X12_rubbed l D Y F G S _ x2 w2 ew2) (cwV 1 hts gX12_allSmears_X12_rubbed rfl rfl rfl (by decide +kernel) ⟨Nat.le_of_ble_eq_true rfl, Nat.le_of_ble_eq_true rfl⟩) rfl hl.1 rfl (Nat.le_of_ble_eq_true rfl) dX12_allSmears_15 ⟨Nat.zero_le _, Nat.zero_le _⟩ (fun H locs hw hS => ?_)
      refine lv_iadd hx hb dX12_allSmears_18 ?_
      refine lv_istore_n (lv' := [(1, .int ((x1 + w2))), (0, .ref (F 0)), (2, .int x2)]) hx hb dX12_allSmears_19 rfl hl (by decide) rfl (fun ls hl => ?_)
      refine lv_iinc (v := (x2 + 1)) (lv' := [(2, .int ((x2 + 1))), (1, .int ((x1 + w2))), (0, .ref (F 0))]) hx hb dX12_allSmears_20 hl (k := 2) rfl rfl (by decide) rfl (fun ls hl => ?_)
      refine lv_goto (tgt := 4) hx hb dX12_allSmears_23 (by decide) ?_
      exact ih ((x1 + w2)) ((x2 + 1)) h _ _ _ hw hS (lv_sub hl [2, 1, 0] rfl)
def M_X12_allSmears (S : zSt) : Option (Int32) :=
  M_X12_allSmears_B4 S zF 0 0
set_option maxHeartbeats 4000000 in
set_option maxRecDepth 100000 in
theorem c_X12_allSmears (l : Launch) (D : va_G) (Y : Nat → ClassId) (F : Nat → Nat) (G : zG) (S : zSt) (sz : Nat) (res : Int32) (h : M_X12_allSmears S = some res) : Met l yX12_allSmears wsX12_allSmears (zRm 1 23) (zPc D Y F G S sz [.ref (F 0)]) (zQi D Y F (zAo F G sz) G (res, S)) 0 0 (zAo F G sz) := by
  unfold M_X12_allSmears at h
  refine zMet (cc := cX12_allSmears) (maxL := 3) (ret := (some .int)) (own := RX12) (by decide +kernel) rfl rfl (Nat.le_of_ble_eq_true rfl) ?_
  intro p e s m args below meth c C0 hin hw hS ls hl
  have hl : lv_has ls 3 [(0, .ref (F 0))] := hl
  generalize zAo F G sz = A at C0 hw hS ⊢
  obtain ⟨hx, hb, hml, hr, hown, hts, hK, hA, hlk, hN⟩ := id C0
  refine lv_iconst (v := 0) hx hb dX12_allSmears_0 (by decide) ?_
  refine lv_istore_n (lv' := [(1, .int 0), (0, .ref (F 0))]) hx hb dX12_allSmears_1 rfl hl (by decide) rfl (fun ls hl => ?_)
  refine lv_iconst (v := 0) hx hb dX12_allSmears_2 (by decide) ?_
  refine lv_istore_n (lv' := [(2, .int 0), (1, .int 0), (0, .ref (F 0))]) hx hb dX12_allSmears_3 rfl hl (by decide) rfl (fun ls hl => ?_)
  exact t_X12_allSmears_B4 C0 S res zF 0 0 h _ _ _ hw hS (lv_sub hl [2, 1, 0] rfl)
def M_X12_behind_B91 (S : zSt) (x5 : Int32) (y0 : Int32) : Option (Int32 × zSt) :=
  Option.bind (M_X12_again S 15) (fun w11 => (if x5 = (-1) then some (y0, w11) else Option.bind (M_X12_no w11 (-6)) (fun w13 => some (w13.1, w13.2))))
set_option maxHeartbeats 4000000 in
set_option maxRecDepth 100000 in
theorem t_X12_behind_B91 {p : Program} {l : Launch} {e : Env} {s : State} {m : MethodId} {args : Array Value} {below : List Frame} {meth : Method} {c : Code} {D : va_G} {Y : Nat → ClassId} {F : Nat → Nat} {A : Nat → Prop} {G : zG} (C0 : zCx p s m args meth c D Y F A RX12 cX12_behind 7 (some .int) wsX12_behind) (res : Int32 × zSt) : ∀ (S : zSt) (x5 : Int32) (y0 : Int32), M_X12_behind_B91 S x5 y0 = some res → ∀ (H : Heap) (locs : List Loc) (ls : Array Slot), zH D Y F A G S H → va_S A s.heap H locs → lv_has ls 7 [(0, .ref (F 0)), (5, .int x5)] → W p l e (zRm 5 123) s m args below meth c H locs 0 0 (MQ below (zQi D Y F A G res) args s 0 0 A) (F0 m 91 ls [.int y0]) := by
  obtain ⟨hx, hb, hml, hr, hown, hts, hK, hA, hlk, hN⟩ := id C0
  intro S x5 y0 h H locs ls hw hS hl
  unfold M_X12_behind_B91 at h
  refine lv_istore (lv' := [(6, .int y0), (0, .ref (F 0)), (5, .int x5)]) hx hb dX12_behind_91 hl (by decide) rfl (fun ls hl => ?_)
  refine lv_aload_n hx hb dX12_behind_93 rfl (lv_at hl 1 rfl) ?_
  refine lv_aload_n hx hb dX12_behind_94 rfl (lv_at hl 1 rfl) ?_
  refine z_get C0 in_X12_behind_X12 (C := RX12) (T := TX12) (N := 27) hw (k := 0) (ci := 12) (v := .ref (F 15)) rfl rfl rfl rfl 22 (by decide) rfl 1 rfl dX12_behind_95 ?_
  obtain ⟨w11, ew11, h⟩ := z_bd h
  refine z_callVv0 C0 hw hS (k := 0) (As := [.ref (F 15)]) (rest := []) rfl rfl rfl rfl (c_X12_again l D Y F G S _ 15 (Or.inr rfl) w11 ew11) (cwV 1 hts gX12_behind_X12_again rfl rfl rfl (by decide +kernel) ⟨Nat.le_of_ble_eq_true rfl, Nat.le_of_ble_eq_true rfl⟩) rfl hl.1 rfl (Nat.le_of_ble_eq_true rfl) dX12_behind_98 ⟨Nat.zero_le _, Nat.zero_le _⟩ (fun H locs hw hS => ?_)
  refine lv_iload hx hb dX12_behind_101 (lv_at hl 2 rfl) ?_
  refine lv_iconst (v := (-1)) hx hb dX12_behind_103 (by decide) ?_
  refine lv_icmp_ne (tgt := 112) hx hb dX12_behind_104 (by decide) (fun c12 => ?_) (fun c12 => ?_)
  · replace h := z_ifn c12 h
    refine lv_aload_n hx hb dX12_behind_112 rfl (lv_at hl 1 rfl) ?_
    refine lv_bipush (v := (-6)) hx hb dX12_behind_113 (by decide) ?_
    obtain ⟨w13, ew13, h⟩ := z_bd h
    refine z_callVi0 C0 hw hS (k := 0) (As := [.int (-6)]) (rest := []) rfl rfl rfl rfl (c_X12_no l D Y F G w11 _ (-6) w13 ew13) (cwV 1 hts gX12_behind_X12_no rfl rfl rfl (by decide +kernel) ⟨Nat.le_of_ble_eq_true rfl, Nat.le_of_ble_eq_true rfl⟩) rfl hl.1 rfl (Nat.le_of_ble_eq_true rfl) dX12_behind_115 ⟨Nat.zero_le _, Nat.zero_le _⟩ (fun H locs hw hS => ?_)
    exact z_reti C0 hw hS (Option.some.inj h) dX12_behind_118
  · replace h := z_ifp c12 h
    refine lv_iload hx hb dX12_behind_107 (lv_at hl 0 rfl) ?_
    refine lv_goto (tgt := 118) hx hb dX12_behind_109 (by decide) ?_
    exact z_reti C0 hw hS (Option.some.inj h) dX12_behind_118
def M_X12_behind_B36 (S : zSt) (x1 : Int32) (x2 : Int32) (x3 : Int32) (x4 : Int32) : Option (Int32 × zSt) :=
  (if 0 ≤ x4 then Option.bind (M_X12_keep S 15) (fun w6 => Option.bind (M_X12_happen w6 x1 x2) (fun w7 => (if x3 = 0 then Option.bind (M_X12_allStrength w7.2) (fun w15 => M_X12_behind_B91 w7.2 w7.1 w15) else (if x3 = 1 then Option.bind (M_X12_allDead w7.2) (fun w14 => M_X12_behind_B91 w7.2 w7.1 w14) else Option.bind (M_X12_allSmears w7.2) (fun w10 => M_X12_behind_B91 w7.2 w7.1 w10))))) else Option.bind (M_X12_no S x4) (fun w16 => some (w16.1, w16.2)))
set_option maxHeartbeats 4000000 in
set_option maxRecDepth 100000 in
theorem t_X12_behind_B36 {p : Program} {l : Launch} {e : Env} {s : State} {m : MethodId} {args : Array Value} {below : List Frame} {meth : Method} {c : Code} {D : va_G} {Y : Nat → ClassId} {F : Nat → Nat} {A : Nat → Prop} {G : zG} (C0 : zCx p s m args meth c D Y F A RX12 cX12_behind 7 (some .int) wsX12_behind) (res : Int32 × zSt) : ∀ (S : zSt) (x1 : Int32) (x2 : Int32) (x3 : Int32) (x4 : Int32), M_X12_behind_B36 S x1 x2 x3 x4 = some res → ∀ (H : Heap) (locs : List Loc) (ls : Array Slot), zH D Y F A G S H → va_S A s.heap H locs → lv_has ls 7 [(0, .ref (F 0)), (1, .int x1), (2, .int x2), (3, .int x3), (4, .int x4)] → W p l e (zRm 5 123) s m args below meth c H locs 0 0 (MQ below (zQi D Y F A G res) args s 0 0 A) (F0 m 36 ls []) := by
  obtain ⟨hx, hb, hml, hr, hown, hts, hK, hA, hlk, hN⟩ := id C0
  intro S x1 x2 x3 x4 h H locs ls hw hS hl
  unfold M_X12_behind_B36 at h
  refine lv_iload hx hb dX12_behind_36 (lv_at hl 4 rfl) ?_
  refine lv_if_ge (tgt := 48) hx hb dX12_behind_38 (by decide) (fun c5 => ?_) (fun c5 => ?_)
  · replace h := z_ifp c5 h
    refine lv_aload_n hx hb dX12_behind_48 rfl (lv_at hl 0 rfl) ?_
    refine lv_aload_n hx hb dX12_behind_49 rfl (lv_at hl 0 rfl) ?_
    refine z_get C0 in_X12_behind_X12 (C := RX12) (T := TX12) (N := 27) hw (k := 0) (ci := 12) (v := .ref (F 15)) rfl rfl rfl rfl 22 (by decide) rfl 1 rfl dX12_behind_50 ?_
    obtain ⟨w6, ew6, h⟩ := z_bd h
    refine z_callVv0 C0 hw hS (k := 0) (As := [.ref (F 15)]) (rest := []) rfl rfl rfl rfl (c_X12_keep l D Y F G S _ 15 (Or.inr rfl) w6 ew6) (cwV 1 hts gX12_behind_X12_keep rfl rfl rfl (by decide +kernel) ⟨Nat.le_of_ble_eq_true rfl, Nat.le_of_ble_eq_true rfl⟩) rfl hl.1 rfl (Nat.le_of_ble_eq_true rfl) dX12_behind_53 ⟨Nat.zero_le _, Nat.zero_le _⟩ (fun H locs hw hS => ?_)
    refine lv_aload_n hx hb dX12_behind_56 rfl (lv_at hl 0 rfl) ?_
    refine lv_iload_n hx hb dX12_behind_57 rfl (lv_at hl 1 rfl) ?_
    refine lv_iload_n hx hb dX12_behind_58 rfl (lv_at hl 2 rfl) ?_
    obtain ⟨w7, ew7, h⟩ := z_bd h
    refine z_callVi0 C0 hw hS (k := 0) (As := [.int x1, .int x2]) (rest := []) rfl rfl rfl rfl (c_X12_happen l D Y F G w6 _ x1 x2 w7 ew7) (cwV 2 hts gX12_behind_X12_happen rfl rfl rfl (by decide +kernel) ⟨Nat.le_of_ble_eq_true rfl, Nat.le_of_ble_eq_true rfl⟩) rfl hl.1 rfl (Nat.le_of_ble_eq_true rfl) dX12_behind_59 ⟨Nat.zero_le _, Nat.zero_le _⟩ (fun H locs hw hS => ?_)
    refine lv_istore (lv' := [(5, .int w7.1), (0, .ref (F 0)), (1, .int x1), (2, .int x2), (3, .int x3), (4, .int x4)]) hx hb dX12_behind_62 hl (by decide) rfl (fun ls hl => ?_)
    refine lv_iload_n hx hb dX12_behind_64 rfl (lv_at hl 4 rfl) ?_
    refine lv_if_ne (tgt := 75) hx hb dX12_behind_65 (by decide) (fun c8 => ?_) (fun c8 => ?_)
    · replace h := z_ifn c8 h
      refine lv_iload_n hx hb dX12_behind_75 rfl (lv_at hl 4 rfl) ?_
      refine lv_iconst (v := 1) hx hb dX12_behind_76 (by decide) ?_
      refine lv_icmp_ne (tgt := 87) hx hb dX12_behind_77 (by decide) (fun c9 => ?_) (fun c9 => ?_)
      · replace h := z_ifn c9 h
        refine lv_aload_n hx hb dX12_behind_87 rfl (lv_at hl 1 rfl) ?_
        obtain ⟨w10, ew10, h⟩ := z_bd h
        refine z_callVip C0 hw hS (k := 0) (As := []) (rest := []) rfl rfl rfl rfl (c_X12_allSmears l D Y F G w7.2 _ w10 ew10) (cwV 0 hts gX12_behind_X12_allSmears rfl rfl rfl (by decide +kernel) ⟨Nat.le_of_ble_eq_true rfl, Nat.le_of_ble_eq_true rfl⟩) rfl hl.1 rfl (Nat.le_of_ble_eq_true rfl) dX12_behind_88 ⟨Nat.zero_le _, Nat.zero_le _⟩ (fun H locs hw hS => ?_)
        exact t_X12_behind_B91 C0 res w7.2 w7.1 w10 h _ _ _ hw hS (lv_sub hl [1, 0] rfl)
      · replace h := z_ifp c9 h
        refine lv_aload_n hx hb dX12_behind_80 rfl (lv_at hl 1 rfl) ?_
        obtain ⟨w14, ew14, h⟩ := z_bd h
        refine z_callVip C0 hw hS (k := 0) (As := []) (rest := []) rfl rfl rfl rfl (c_X12_allDead l D Y F G w7.2 _ w14 ew14) (cwV 0 hts gX12_behind_X12_allDead rfl rfl rfl (by decide +kernel) ⟨Nat.le_of_ble_eq_true rfl, Nat.le_of_ble_eq_true rfl⟩) rfl hl.1 rfl (Nat.le_of_ble_eq_true rfl) dX12_behind_81 ⟨Nat.zero_le _, Nat.zero_le _⟩ (fun H locs hw hS => ?_)
        refine lv_goto (tgt := 91) hx hb dX12_behind_84 (by decide) ?_
        exact t_X12_behind_B91 C0 res w7.2 w7.1 w14 h _ _ _ hw hS (lv_sub hl [1, 0] rfl)
    · replace h := z_ifp c8 h
      refine lv_aload_n hx hb dX12_behind_68 rfl (lv_at hl 1 rfl) ?_
      obtain ⟨w15, ew15, h⟩ := z_bd h
      refine z_callVip C0 hw hS (k := 0) (As := []) (rest := []) rfl rfl rfl rfl (c_X12_allStrength l D Y F G w7.2 _ w15 ew15) (cwV 0 hts gX12_behind_X12_allStrength rfl rfl rfl (by decide +kernel) ⟨Nat.le_of_ble_eq_true rfl, Nat.le_of_ble_eq_true rfl⟩) rfl hl.1 rfl (Nat.le_of_ble_eq_true rfl) dX12_behind_69 ⟨Nat.zero_le _, Nat.zero_le _⟩ (fun H locs hw hS => ?_)
      refine lv_goto (tgt := 91) hx hb dX12_behind_72 (by decide) ?_
      exact t_X12_behind_B91 C0 res w7.2 w7.1 w15 h _ _ _ hw hS (lv_sub hl [1, 0] rfl)
  · replace h := z_ifn c5 h
    refine lv_aload_n hx hb dX12_behind_41 rfl (lv_at hl 0 rfl) ?_
    refine lv_iload hx hb dX12_behind_42 (lv_at hl 4 rfl) ?_
    obtain ⟨w16, ew16, h⟩ := z_bd h
    refine z_callVi0 C0 hw hS (k := 0) (As := [.int x4]) (rest := []) rfl rfl rfl rfl (c_X12_no l D Y F G S _ x4 w16 ew16) (cwV 1 hts gX12_behind_X12_no rfl rfl rfl (by decide +kernel) ⟨Nat.le_of_ble_eq_true rfl, Nat.le_of_ble_eq_true rfl⟩) rfl hl.1 rfl (Nat.le_of_ble_eq_true rfl) dX12_behind_44 ⟨Nat.zero_le _, Nat.zero_le _⟩ (fun H locs hw hS => ?_)
    exact z_reti C0 hw hS (Option.some.inj h) dX12_behind_47
def M_X12_behind_B23 (S : zSt) (x1 : Int32) (x2 : Int32) (x3 : Int32) (x4 : Int32) : Option (Int32 × zSt) :=
  Option.bind (M_X12_within S x3 0 2) (fun w3 => (if w3 = 0 then M_X12_behind_B36 S x1 x2 x3 (-5) else M_X12_behind_B36 S x1 x2 x3 x4))
set_option maxHeartbeats 4000000 in
set_option maxRecDepth 100000 in
theorem t_X12_behind_B23 {p : Program} {l : Launch} {e : Env} {s : State} {m : MethodId} {args : Array Value} {below : List Frame} {meth : Method} {c : Code} {D : va_G} {Y : Nat → ClassId} {F : Nat → Nat} {A : Nat → Prop} {G : zG} (C0 : zCx p s m args meth c D Y F A RX12 cX12_behind 7 (some .int) wsX12_behind) (res : Int32 × zSt) : ∀ (S : zSt) (x1 : Int32) (x2 : Int32) (x3 : Int32) (x4 : Int32), M_X12_behind_B23 S x1 x2 x3 x4 = some res → ∀ (H : Heap) (locs : List Loc) (ls : Array Slot), zH D Y F A G S H → va_S A s.heap H locs → lv_has ls 7 [(0, .ref (F 0)), (1, .int x1), (2, .int x2), (3, .int x3), (4, .int x4)] → W p l e (zRm 5 123) s m args below meth c H locs 0 0 (MQ below (zQi D Y F A G res) args s 0 0 A) (F0 m 23 ls []) := by
  obtain ⟨hx, hb, hml, hr, hown, hts, hK, hA, hlk, hN⟩ := id C0
  intro S x1 x2 x3 x4 h H locs ls hw hS hl
  unfold M_X12_behind_B23 at h
  refine lv_iload_n hx hb dX12_behind_23 rfl (lv_at hl 3 rfl) ?_
  refine lv_iconst (v := 0) hx hb dX12_behind_24 (by decide) ?_
  refine lv_iconst (v := 2) hx hb dX12_behind_25 (by decide) ?_
  obtain ⟨w3, ew3, h⟩ := z_bd h
  refine z_callSip C0 hw hS (As := [.int x3, .int 0, .int 2]) (rest := []) (c_X12_within l D Y F G S _ x3 0 2 w3 ew3) (va_cwS 3 hts gX12_behind_X12_within rfl rfl rfl (by decide +kernel) ⟨Nat.le_of_ble_eq_true rfl, Nat.le_of_ble_eq_true rfl⟩) rfl hl.1 rfl (Nat.le_of_ble_eq_true rfl) dX12_behind_26 ⟨Nat.zero_le _, Nat.zero_le _⟩ (fun H locs hw hS => ?_)
  refine lv_if_ne (tgt := 36) hx hb dX12_behind_29 (by decide) (fun c4 => ?_) (fun c4 => ?_)
  · replace h := z_ifn c4 h
    exact t_X12_behind_B36 C0 res S x1 x2 x3 x4 h _ _ _ hw hS (lv_sub hl [0, 1, 2, 3, 4] rfl)
  · replace h := z_ifp c4 h
    refine lv_bipush (v := (-5)) hx hb dX12_behind_32 (by decide) ?_
    refine lv_istore (lv' := [(4, .int (-5)), (0, .ref (F 0)), (1, .int x1), (2, .int x2), (3, .int x3)]) hx hb dX12_behind_34 hl (by decide) rfl (fun ls hl => ?_)
    exact t_X12_behind_B36 C0 res S x1 x2 x3 (-5) h _ _ _ hw hS (lv_sub hl [1, 2, 3, 4, 0] rfl)
def M_X12_behind (S : zSt) (x1 : Int32) (x2 : Int32) (x3 : Int32) : Option (Int32 × zSt) :=
  Option.bind (M_X12_noTold S x1 x2 0 40) (fun w1 => (if w1 = 0 then M_X12_behind_B23 S x1 x2 x3 w1 else (if w1 = (-6) then M_X12_behind_B23 S x1 x2 x3 w1 else M_X12_behind_B36 S x1 x2 x3 w1)))
set_option maxHeartbeats 4000000 in
set_option maxRecDepth 100000 in
theorem c_X12_behind (l : Launch) (D : va_G) (Y : Nat → ClassId) (F : Nat → Nat) (G : zG) (S : zSt) (sz : Nat) (x1 : Int32) (x2 : Int32) (x3 : Int32) (res : Int32 × zSt) (h : M_X12_behind S x1 x2 x3 = some res) : Met l yX12_behind wsX12_behind (zRm 5 123) (zPc D Y F G S sz [.ref (F 0), .int x1, .int x2, .int x3]) (zQi D Y F (zAo F G sz) G res) 0 0 (zAo F G sz) := by
  unfold M_X12_behind at h
  refine zMet (cc := cX12_behind) (maxL := 7) (ret := (some .int)) (own := RX12) (by decide +kernel) rfl rfl (Nat.le_of_ble_eq_true rfl) ?_
  intro p e s m args below meth c C0 hin hw hS ls hl
  have hl : lv_has ls 7 [(0, .ref (F 0)), (1, .int x1), (2, .int x2), (3, .int x3)] := hl
  generalize zAo F G sz = A at C0 hw hS ⊢
  obtain ⟨hx, hb, hml, hr, hown, hts, hK, hA, hlk, hN⟩ := id C0
  refine lv_aload_n hx hb dX12_behind_0 rfl (lv_at hl 0 rfl) ?_
  refine lv_iload_n hx hb dX12_behind_1 rfl (lv_at hl 1 rfl) ?_
  refine lv_iload_n hx hb dX12_behind_2 rfl (lv_at hl 2 rfl) ?_
  refine lv_iconst (v := 0) hx hb dX12_behind_3 (by decide) ?_
  refine lv_bipush (v := 40) hx hb dX12_behind_4 (by decide) ?_
  obtain ⟨w1, ew1, h⟩ := z_bd h
  refine z_callVip C0 hw hS (k := 0) (As := [.int x1, .int x2, .int 0, .int 40]) (rest := []) rfl rfl rfl rfl (c_X12_noTold l D Y F G S _ x1 x2 0 40 w1 ew1) (cwV 4 hts gX12_behind_X12_noTold rfl rfl rfl (by decide +kernel) ⟨Nat.le_of_ble_eq_true rfl, Nat.le_of_ble_eq_true rfl⟩) rfl hl.1 rfl (Nat.le_of_ble_eq_true rfl) dX12_behind_6 ⟨Nat.zero_le _, Nat.zero_le _⟩ (fun H locs hw hS => ?_)
  refine lv_istore (lv' := [(4, .int w1), (0, .ref (F 0)), (1, .int x1), (2, .int x2), (3, .int x3)]) hx hb dX12_behind_9 hl (by decide) rfl (fun ls hl => ?_)
  refine lv_iload hx hb dX12_behind_11 (lv_at hl 0 rfl) ?_
  refine lv_if_eq (tgt := 23) hx hb dX12_behind_13 (by decide) (fun c2 => ?_) (fun c2 => ?_)
  · replace h := z_ifp c2 h
    exact t_X12_behind_B23 C0 res S x1 x2 x3 w1 h _ _ _ hw hS (lv_sub hl [1, 2, 3, 4, 0] rfl)
  · replace h := z_ifn c2 h
    refine lv_iload hx hb dX12_behind_16 (lv_at hl 0 rfl) ?_
    refine lv_bipush (v := (-6)) hx hb dX12_behind_18 (by decide) ?_
    refine lv_icmp_ne (tgt := 36) hx hb dX12_behind_20 (by decide) (fun c17 => ?_) (fun c17 => ?_)
    · replace h := z_ifn c17 h
      exact t_X12_behind_B36 C0 res S x1 x2 x3 w1 h _ _ _ hw hS (lv_sub hl [1, 2, 3, 4, 0] rfl)
    · replace h := z_ifp c17 h
      exact t_X12_behind_B23 C0 res S x1 x2 x3 w1 h _ _ _ hw hS (lv_sub hl [1, 2, 3, 4, 0] rfl)
def M_X12_done (S : zSt) (x1 : Int32) (x2 : Int32) : Option (Int32 × zSt) :=
  Option.bind (M_X12_noTold S x1 x2 0 40) (fun w1 => (if 0 ≤ w1 then Option.bind (M_X12_keep S 15) (fun w3 => Option.bind (M_X12_happen w3 x1 x2) (fun w4 => (if w4.1 = (-1) then Option.bind (M_X12_allDead w4.2) (fun w8 => some (w8, w4.2)) else Option.bind (M_X12_again w4.2 15) (fun w6 => Option.bind (M_X12_no w6 (-6)) (fun w7 => some (w7.1, w7.2)))))) else Option.bind (M_X12_no S w1) (fun w9 => some (w9.1, w9.2))))
set_option maxHeartbeats 4000000 in
set_option maxRecDepth 100000 in
theorem c_X12_done (l : Launch) (D : va_G) (Y : Nat → ClassId) (F : Nat → Nat) (G : zG) (S : zSt) (sz : Nat) (x1 : Int32) (x2 : Int32) (res : Int32 × zSt) (h : M_X12_done S x1 x2 = some res) : Met l yX12_done wsX12_done (zRm 5 123) (zPc D Y F G S sz [.ref (F 0), .int x1, .int x2]) (zQi D Y F (zAo F G sz) G res) 0 0 (zAo F G sz) := by
  unfold M_X12_done at h
  refine zMet (cc := cX12_done) (maxL := 4) (ret := (some .int)) (own := RX12) (by decide +kernel) rfl rfl (Nat.le_of_ble_eq_true rfl) ?_
  intro p e s m args below meth c C0 hin hw hS ls hl
  have hl : lv_has ls 4 [(0, .ref (F 0)), (1, .int x1), (2, .int x2)] := hl
  generalize zAo F G sz = A at C0 hw hS ⊢
  obtain ⟨hx, hb, hml, hr, hown, hts, hK, hA, hlk, hN⟩ := id C0
  refine lv_aload_n hx hb dX12_done_0 rfl (lv_at hl 0 rfl) ?_
  refine lv_iload_n hx hb dX12_done_1 rfl (lv_at hl 1 rfl) ?_
  refine lv_iload_n hx hb dX12_done_2 rfl (lv_at hl 2 rfl) ?_
  refine lv_iconst (v := 0) hx hb dX12_done_3 (by decide) ?_
  refine lv_bipush (v := 40) hx hb dX12_done_4 (by decide) ?_
  obtain ⟨w1, ew1, h⟩ := z_bd h
  refine z_callVip C0 hw hS (k := 0) (As := [.int x1, .int x2, .int 0, .int 40]) (rest := []) rfl rfl rfl rfl (c_X12_noTold l D Y F G S _ x1 x2 0 40 w1 ew1) (cwV 4 hts gX12_done_X12_noTold rfl rfl rfl (by decide +kernel) ⟨Nat.le_of_ble_eq_true rfl, Nat.le_of_ble_eq_true rfl⟩) rfl hl.1 rfl (Nat.le_of_ble_eq_true rfl) dX12_done_6 ⟨Nat.zero_le _, Nat.zero_le _⟩ (fun H locs hw hS => ?_)
  refine lv_istore_n (lv' := [(3, .int w1), (0, .ref (F 0)), (1, .int x1), (2, .int x2)]) hx hb dX12_done_9 rfl hl (by decide) rfl (fun ls hl => ?_)
  refine lv_iload_n hx hb dX12_done_10 rfl (lv_at hl 0 rfl) ?_
  refine lv_if_ge (tgt := 20) hx hb dX12_done_11 (by decide) (fun c2 => ?_) (fun c2 => ?_)
  · replace h := z_ifp c2 h
    refine lv_aload_n hx hb dX12_done_20 rfl (lv_at hl 1 rfl) ?_
    refine lv_aload_n hx hb dX12_done_21 rfl (lv_at hl 1 rfl) ?_
    refine z_get C0 in_X12_done_X12 (C := RX12) (T := TX12) (N := 27) hw (k := 0) (ci := 12) (v := .ref (F 15)) rfl rfl rfl rfl 22 (by decide) rfl 1 rfl dX12_done_22 ?_
    obtain ⟨w3, ew3, h⟩ := z_bd h
    refine z_callVv0 C0 hw hS (k := 0) (As := [.ref (F 15)]) (rest := []) rfl rfl rfl rfl (c_X12_keep l D Y F G S _ 15 (Or.inr rfl) w3 ew3) (cwV 1 hts gX12_done_X12_keep rfl rfl rfl (by decide +kernel) ⟨Nat.le_of_ble_eq_true rfl, Nat.le_of_ble_eq_true rfl⟩) rfl hl.1 rfl (Nat.le_of_ble_eq_true rfl) dX12_done_25 ⟨Nat.zero_le _, Nat.zero_le _⟩ (fun H locs hw hS => ?_)
    refine lv_aload_n hx hb dX12_done_28 rfl (lv_at hl 1 rfl) ?_
    refine lv_iload_n hx hb dX12_done_29 rfl (lv_at hl 2 rfl) ?_
    refine lv_iload_n hx hb dX12_done_30 rfl (lv_at hl 3 rfl) ?_
    obtain ⟨w4, ew4, h⟩ := z_bd h
    refine z_callVi0 C0 hw hS (k := 0) (As := [.int x1, .int x2]) (rest := []) rfl rfl rfl rfl (c_X12_happen l D Y F G w3 _ x1 x2 w4 ew4) (cwV 2 hts gX12_done_X12_happen rfl rfl rfl (by decide +kernel) ⟨Nat.le_of_ble_eq_true rfl, Nat.le_of_ble_eq_true rfl⟩) rfl hl.1 rfl (Nat.le_of_ble_eq_true rfl) dX12_done_31 ⟨Nat.zero_le _, Nat.zero_le _⟩ (fun H locs hw hS => ?_)
    refine lv_iconst (v := (-1)) hx hb dX12_done_34 (by decide) ?_
    refine lv_icmp_ne (tgt := 43) hx hb dX12_done_35 (by decide) (fun c5 => ?_) (fun c5 => ?_)
    · replace h := z_ifn c5 h
      refine lv_aload_n hx hb dX12_done_43 rfl (lv_at hl 1 rfl) ?_
      refine lv_aload_n hx hb dX12_done_44 rfl (lv_at hl 1 rfl) ?_
      refine z_get C0 in_X12_done_X12 (C := RX12) (T := TX12) (N := 27) hw (k := 0) (ci := 12) (v := .ref (F 15)) rfl rfl rfl rfl 22 (by decide) rfl 1 rfl dX12_done_45 ?_
      obtain ⟨w6, ew6, h⟩ := z_bd h
      refine z_callVv0 C0 hw hS (k := 0) (As := [.ref (F 15)]) (rest := []) rfl rfl rfl rfl (c_X12_again l D Y F G w4.2 _ 15 (Or.inr rfl) w6 ew6) (cwV 1 hts gX12_done_X12_again rfl rfl rfl (by decide +kernel) ⟨Nat.le_of_ble_eq_true rfl, Nat.le_of_ble_eq_true rfl⟩) rfl hl.1 rfl (Nat.le_of_ble_eq_true rfl) dX12_done_48 ⟨Nat.zero_le _, Nat.zero_le _⟩ (fun H locs hw hS => ?_)
      refine lv_aload_n hx hb dX12_done_51 rfl (lv_at hl 1 rfl) ?_
      refine lv_bipush (v := (-6)) hx hb dX12_done_52 (by decide) ?_
      obtain ⟨w7, ew7, h⟩ := z_bd h
      refine z_callVi0 C0 hw hS (k := 0) (As := [.int (-6)]) (rest := []) rfl rfl rfl rfl (c_X12_no l D Y F G w6 _ (-6) w7 ew7) (cwV 1 hts gX12_done_X12_no rfl rfl rfl (by decide +kernel) ⟨Nat.le_of_ble_eq_true rfl, Nat.le_of_ble_eq_true rfl⟩) rfl hl.1 rfl (Nat.le_of_ble_eq_true rfl) dX12_done_54 ⟨Nat.zero_le _, Nat.zero_le _⟩ (fun H locs hw hS => ?_)
      exact z_reti C0 hw hS (Option.some.inj h) dX12_done_57
    · replace h := z_ifp c5 h
      refine lv_aload_n hx hb dX12_done_38 rfl (lv_at hl 1 rfl) ?_
      obtain ⟨w8, ew8, h⟩ := z_bd h
      refine z_callVip C0 hw hS (k := 0) (As := []) (rest := []) rfl rfl rfl rfl (c_X12_allDead l D Y F G w4.2 _ w8 ew8) (cwV 0 hts gX12_done_X12_allDead rfl rfl rfl (by decide +kernel) ⟨Nat.le_of_ble_eq_true rfl, Nat.le_of_ble_eq_true rfl⟩) rfl hl.1 rfl (Nat.le_of_ble_eq_true rfl) dX12_done_39 ⟨Nat.zero_le _, Nat.zero_le _⟩ (fun H locs hw hS => ?_)
      exact z_reti C0 hw hS (Option.some.inj h) dX12_done_42
  · replace h := z_ifn c2 h
    refine lv_aload_n hx hb dX12_done_14 rfl (lv_at hl 1 rfl) ?_
    refine lv_iload_n hx hb dX12_done_15 rfl (lv_at hl 0 rfl) ?_
    obtain ⟨w9, ew9, h⟩ := z_bd h
    refine z_callVi0 C0 hw hS (k := 0) (As := [.int w1]) (rest := []) rfl rfl rfl rfl (c_X12_no l D Y F G S _ w1 w9 ew9) (cwV 1 hts gX12_done_X12_no rfl rfl rfl (by decide +kernel) ⟨Nat.le_of_ble_eq_true rfl, Nat.le_of_ble_eq_true rfl⟩) rfl hl.1 rfl (Nat.le_of_ble_eq_true rfl) dX12_done_16 ⟨Nat.zero_le _, Nat.zero_le _⟩ (fun H locs hw hS => ?_)
    exact z_reti C0 hw hS (Option.some.inj h) dX12_done_19
def M_X12_press_B52 (S : zSt) : Option (Int32 × zSt) :=
  Option.bind (M_X12_no S (-6)) (fun w5 => some (w5.1, w5.2))
set_option maxHeartbeats 4000000 in
set_option maxRecDepth 100000 in
theorem t_X12_press_B52 {p : Program} {l : Launch} {e : Env} {s : State} {m : MethodId} {args : Array Value} {below : List Frame} {meth : Method} {c : Code} {D : va_G} {Y : Nat → ClassId} {F : Nat → Nat} {A : Nat → Prop} {G : zG} (C0 : zCx p s m args meth c D Y F A RX12 cX12_press 4 (some .int) wsX12_press) (res : Int32 × zSt) : ∀ (S : zSt), M_X12_press_B52 S = some res → ∀ (H : Heap) (locs : List Loc) (ls : Array Slot), zH D Y F A G S H → va_S A s.heap H locs → lv_has ls 4 [(0, .ref (F 0))] → W p l e (zRm 3 75) s m args below meth c H locs 0 0 (MQ below (zQi D Y F A G res) args s 0 0 A) (F0 m 52 ls []) := by
  obtain ⟨hx, hb, hml, hr, hown, hts, hK, hA, hlk, hN⟩ := id C0
  intro S h H locs ls hw hS hl
  unfold M_X12_press_B52 at h
  refine lv_aload_n hx hb dX12_press_52 rfl (lv_at hl 0 rfl) ?_
  refine lv_bipush (v := (-6)) hx hb dX12_press_53 (by decide) ?_
  obtain ⟨w5, ew5, h⟩ := z_bd h
  refine z_callVi0 C0 hw hS (k := 0) (As := [.int (-6)]) (rest := []) rfl rfl rfl rfl (c_X12_no l D Y F G S _ (-6) w5 ew5) (cwV 1 hts gX12_press_X12_no rfl rfl rfl (by decide +kernel) ⟨Nat.le_of_ble_eq_true rfl, Nat.le_of_ble_eq_true rfl⟩) rfl hl.1 rfl (Nat.le_of_ble_eq_true rfl) dX12_press_55 ⟨Nat.zero_le _, Nat.zero_le _⟩ (fun H locs hw hS => ?_)
  exact z_reti C0 hw hS (Option.some.inj h) dX12_press_58
def M_X12_press (S : zSt) (x1 : Int32) (x2 : Int32) (x3 : Int32) : Option (Int32 × zSt) :=
  Option.bind (M_X12_isPerson S x1) (fun w1 => (if w1 = 0 then Option.bind (M_X12_no S (-1)) (fun w11 => some (w11.1, w11.2)) else Option.bind (M_X12_isDeed S x2) (fun w3 => (if w3 = 0 then M_X12_press_B52 S else Option.bind (M_X12_within S x3 1 99) (fun w6 => (if w6 = 0 then M_X12_press_B52 S else zg (zin x1 6) ((if 6 ≤ (zar S 7 (Int32.toNatClampNeg x1)) then M_X12_press_B52 S else Option.bind (M_X12_presses S x1 x2 x3) (fun w10 => some (w10.1, w10.2))))))))))
set_option maxHeartbeats 4000000 in
set_option maxRecDepth 100000 in
theorem c_X12_press (l : Launch) (D : va_G) (Y : Nat → ClassId) (F : Nat → Nat) (G : zG) (S : zSt) (sz : Nat) (x1 : Int32) (x2 : Int32) (x3 : Int32) (res : Int32 × zSt) (h : M_X12_press S x1 x2 x3 = some res) : Met l yX12_press wsX12_press (zRm 3 75) (zPc D Y F G S sz [.ref (F 0), .int x1, .int x2, .int x3]) (zQi D Y F (zAo F G sz) G res) 0 0 (zAo F G sz) := by
  unfold M_X12_press at h
  refine zMet (cc := cX12_press) (maxL := 4) (ret := (some .int)) (own := RX12) (by decide +kernel) rfl rfl (Nat.le_of_ble_eq_true rfl) ?_
  intro p e s m args below meth c C0 hin hw hS ls hl
  have hl : lv_has ls 4 [(0, .ref (F 0)), (1, .int x1), (2, .int x2), (3, .int x3)] := hl
  generalize zAo F G sz = A at C0 hw hS ⊢
  obtain ⟨hx, hb, hml, hr, hown, hts, hK, hA, hlk, hN⟩ := id C0
  refine lv_aload_n hx hb dX12_press_0 rfl (lv_at hl 0 rfl) ?_
  refine lv_iload_n hx hb dX12_press_1 rfl (lv_at hl 1 rfl) ?_
  obtain ⟨w1, ew1, h⟩ := z_bd h
  refine z_callVip C0 hw hS (k := 0) (As := [.int x1]) (rest := []) rfl rfl rfl rfl (c_X12_isPerson l D Y F G S _ x1 w1 ew1) (cwV 1 hts gX12_press_X12_isPerson rfl rfl rfl (by decide +kernel) ⟨Nat.le_of_ble_eq_true rfl, Nat.le_of_ble_eq_true rfl⟩) rfl hl.1 rfl (Nat.le_of_ble_eq_true rfl) dX12_press_2 ⟨Nat.zero_le _, Nat.zero_le _⟩ (fun H locs hw hS => ?_)
  refine lv_if_ne (tgt := 14) hx hb dX12_press_5 (by decide) (fun c2 => ?_) (fun c2 => ?_)
  · replace h := z_ifn c2 h
    refine lv_iload_n hx hb dX12_press_14 rfl (lv_at hl 2 rfl) ?_
    obtain ⟨w3, ew3, h⟩ := z_bd h
    refine z_callSip C0 hw hS (As := [.int x2]) (rest := []) (c_X12_isDeed l D Y F G S _ x2 w3 ew3) (va_cwS 1 hts gX12_press_X12_isDeed rfl rfl rfl (by decide +kernel) ⟨Nat.le_of_ble_eq_true rfl, Nat.le_of_ble_eq_true rfl⟩) rfl hl.1 rfl (Nat.le_of_ble_eq_true rfl) dX12_press_15 ⟨Nat.zero_le _, Nat.zero_le _⟩ (fun H locs hw hS => ?_)
    refine lv_if_eq (tgt := 52) hx hb dX12_press_18 (by decide) (fun c4 => ?_) (fun c4 => ?_)
    · replace h := z_ifp c4 h
      exact t_X12_press_B52 C0 res S h _ _ _ hw hS (lv_sub hl [0] rfl)
    · replace h := z_ifn c4 h
      refine lv_iload_n hx hb dX12_press_21 rfl (lv_at hl 3 rfl) ?_
      refine lv_iconst (v := 1) hx hb dX12_press_22 (by decide) ?_
      refine lv_bipush (v := 99) hx hb dX12_press_23 (by decide) ?_
      obtain ⟨w6, ew6, h⟩ := z_bd h
      refine z_callSip C0 hw hS (As := [.int x3, .int 1, .int 99]) (rest := []) (c_X12_within l D Y F G S _ x3 1 99 w6 ew6) (va_cwS 3 hts gX12_press_X12_within rfl rfl rfl (by decide +kernel) ⟨Nat.le_of_ble_eq_true rfl, Nat.le_of_ble_eq_true rfl⟩) rfl hl.1 rfl (Nat.le_of_ble_eq_true rfl) dX12_press_25 ⟨Nat.zero_le _, Nat.zero_le _⟩ (fun H locs hw hS => ?_)
      refine lv_if_eq (tgt := 52) hx hb dX12_press_28 (by decide) (fun c7 => ?_) (fun c7 => ?_)
      · replace h := z_ifp c7 h
        exact t_X12_press_B52 C0 res S h _ _ _ hw hS (lv_sub hl [0] rfl)
      · replace h := z_ifn c7 h
        refine lv_aload_n hx hb dX12_press_31 rfl (lv_at hl 0 rfl) ?_
        refine z_get C0 in_X12_press_X12 (C := RX12) (T := TX12) (N := 27) hw (k := 0) (ci := 12) (v := .ref (F 7)) rfl rfl rfl rfl 7 (by decide) rfl 1 rfl dX12_press_32 ?_
        refine lv_iload_n hx hb dX12_press_35 rfl (lv_at hl 1 rfl) ?_
        obtain ⟨b8, h⟩ := z_gd h
        refine z_iald C0 hw 7 rfl rfl zri_7 (zin_in b8) dX12_press_36 ?_
        refine lv_bipush (v := 6) hx hb dX12_press_37 (by decide) ?_
        refine lv_icmp_ge (tgt := 52) hx hb dX12_press_39 (by decide) (fun c9 => ?_) (fun c9 => ?_)
        · replace h := z_ifp c9 h
          exact t_X12_press_B52 C0 res S h _ _ _ hw hS (lv_sub hl [0] rfl)
        · replace h := z_ifn c9 h
          refine lv_aload_n hx hb dX12_press_42 rfl (lv_at hl 0 rfl) ?_
          refine lv_iload_n hx hb dX12_press_43 rfl (lv_at hl 1 rfl) ?_
          refine lv_iload_n hx hb dX12_press_44 rfl (lv_at hl 2 rfl) ?_
          refine lv_iload_n hx hb dX12_press_45 rfl (lv_at hl 3 rfl) ?_
          obtain ⟨w10, ew10, h⟩ := z_bd h
          refine z_callVi0 C0 hw hS (k := 0) (As := [.int x1, .int x2, .int x3]) (rest := []) rfl rfl rfl rfl (c_X12_presses l D Y F G S _ x1 x2 x3 w10 ew10) (cwV 3 hts gX12_press_X12_presses rfl rfl rfl (by decide +kernel) ⟨Nat.le_of_ble_eq_true rfl, Nat.le_of_ble_eq_true rfl⟩) rfl hl.1 rfl (Nat.le_of_ble_eq_true rfl) dX12_press_46 ⟨Nat.zero_le _, Nat.zero_le _⟩ (fun H locs hw hS => ?_)
          refine lv_goto (tgt := 58) hx hb dX12_press_49 (by decide) ?_
          exact z_reti C0 hw hS (Option.some.inj h) dX12_press_58
  · replace h := z_ifp c2 h
    refine lv_aload_n hx hb dX12_press_8 rfl (lv_at hl 0 rfl) ?_
    refine lv_iconst (v := (-1)) hx hb dX12_press_9 (by decide) ?_
    obtain ⟨w11, ew11, h⟩ := z_bd h
    refine z_callVi0 C0 hw hS (k := 0) (As := [.int (-1)]) (rest := []) rfl rfl rfl rfl (c_X12_no l D Y F G S _ (-1) w11 ew11) (cwV 1 hts gX12_press_X12_no rfl rfl rfl (by decide +kernel) ⟨Nat.le_of_ble_eq_true rfl, Nat.le_of_ble_eq_true rfl⟩) rfl hl.1 rfl (Nat.le_of_ble_eq_true rfl) dX12_press_10 ⟨Nat.zero_le _, Nat.zero_le _⟩ (fun H locs hw hS => ?_)
    exact z_reti C0 hw hS (Option.some.inj h) dX12_press_13
def M_X12_rub_B40 (S : zSt) : Option (Int32 × zSt) :=
  Option.bind (M_X12_no S (-6)) (fun w5 => some (w5.1, w5.2))
set_option maxHeartbeats 4000000 in
set_option maxRecDepth 100000 in
theorem t_X12_rub_B40 {p : Program} {l : Launch} {e : Env} {s : State} {m : MethodId} {args : Array Value} {below : List Frame} {meth : Method} {c : Code} {D : va_G} {Y : Nat → ClassId} {F : Nat → Nat} {A : Nat → Prop} {G : zG} (C0 : zCx p s m args meth c D Y F A RX12 cX12_rub 4 (some .int) wsX12_rub) (res : Int32 × zSt) : ∀ (S : zSt), M_X12_rub_B40 S = some res → ∀ (H : Heap) (locs : List Loc) (ls : Array Slot), zH D Y F A G S H → va_S A s.heap H locs → lv_has ls 4 [(0, .ref (F 0))] → W p l e (zRm 3 64) s m args below meth c H locs 0 0 (MQ below (zQi D Y F A G res) args s 0 0 A) (F0 m 40 ls []) := by
  obtain ⟨hx, hb, hml, hr, hown, hts, hK, hA, hlk, hN⟩ := id C0
  intro S h H locs ls hw hS hl
  unfold M_X12_rub_B40 at h
  refine lv_aload_n hx hb dX12_rub_40 rfl (lv_at hl 0 rfl) ?_
  refine lv_bipush (v := (-6)) hx hb dX12_rub_41 (by decide) ?_
  obtain ⟨w5, ew5, h⟩ := z_bd h
  refine z_callVi0 C0 hw hS (k := 0) (As := [.int (-6)]) (rest := []) rfl rfl rfl rfl (c_X12_no l D Y F G S _ (-6) w5 ew5) (cwV 1 hts gX12_rub_X12_no rfl rfl rfl (by decide +kernel) ⟨Nat.le_of_ble_eq_true rfl, Nat.le_of_ble_eq_true rfl⟩) rfl hl.1 rfl (Nat.le_of_ble_eq_true rfl) dX12_rub_43 ⟨Nat.zero_le _, Nat.zero_le _⟩ (fun H locs hw hS => ?_)
  exact z_reti C0 hw hS (Option.some.inj h) dX12_rub_46
def M_X12_rub (S : zSt) (x1 : Int32) (x2 : Int32) (x3 : Int32) : Option (Int32 × zSt) :=
  Option.bind (M_X12_isPerson S x1) (fun w1 => (if w1 = 0 then Option.bind (M_X12_no S (-1)) (fun w9 => some (w9.1, w9.2)) else Option.bind (M_X12_lives S x1 x2) (fun w3 => (if w3 = 0 then M_X12_rub_B40 S else Option.bind (M_X12_isDeed S x3) (fun w6 => (if w6 = 0 then M_X12_rub_B40 S else Option.bind (M_X12_rubs S x1 x2 x3) (fun w8 => some (w8.1, w8.2))))))))
set_option maxHeartbeats 4000000 in
set_option maxRecDepth 100000 in
theorem c_X12_rub (l : Launch) (D : va_G) (Y : Nat → ClassId) (F : Nat → Nat) (G : zG) (S : zSt) (sz : Nat) (x1 : Int32) (x2 : Int32) (x3 : Int32) (res : Int32 × zSt) (h : M_X12_rub S x1 x2 x3 = some res) : Met l yX12_rub wsX12_rub (zRm 3 64) (zPc D Y F G S sz [.ref (F 0), .int x1, .int x2, .int x3]) (zQi D Y F (zAo F G sz) G res) 0 0 (zAo F G sz) := by
  unfold M_X12_rub at h
  refine zMet (cc := cX12_rub) (maxL := 4) (ret := (some .int)) (own := RX12) (by decide +kernel) rfl rfl (Nat.le_of_ble_eq_true rfl) ?_
  intro p e s m args below meth c C0 hin hw hS ls hl
  have hl : lv_has ls 4 [(0, .ref (F 0)), (1, .int x1), (2, .int x2), (3, .int x3)] := hl
  generalize zAo F G sz = A at C0 hw hS ⊢
  obtain ⟨hx, hb, hml, hr, hown, hts, hK, hA, hlk, hN⟩ := id C0
  refine lv_aload_n hx hb dX12_rub_0 rfl (lv_at hl 0 rfl) ?_
  refine lv_iload_n hx hb dX12_rub_1 rfl (lv_at hl 1 rfl) ?_
  obtain ⟨w1, ew1, h⟩ := z_bd h
  refine z_callVip C0 hw hS (k := 0) (As := [.int x1]) (rest := []) rfl rfl rfl rfl (c_X12_isPerson l D Y F G S _ x1 w1 ew1) (cwV 1 hts gX12_rub_X12_isPerson rfl rfl rfl (by decide +kernel) ⟨Nat.le_of_ble_eq_true rfl, Nat.le_of_ble_eq_true rfl⟩) rfl hl.1 rfl (Nat.le_of_ble_eq_true rfl) dX12_rub_2 ⟨Nat.zero_le _, Nat.zero_le _⟩ (fun H locs hw hS => ?_)
  refine lv_if_ne (tgt := 14) hx hb dX12_rub_5 (by decide) (fun c2 => ?_) (fun c2 => ?_)
  · replace h := z_ifn c2 h
    refine lv_aload_n hx hb dX12_rub_14 rfl (lv_at hl 0 rfl) ?_
    refine lv_iload_n hx hb dX12_rub_15 rfl (lv_at hl 1 rfl) ?_
    refine lv_iload_n hx hb dX12_rub_16 rfl (lv_at hl 2 rfl) ?_
    obtain ⟨w3, ew3, h⟩ := z_bd h
    refine z_callVip C0 hw hS (k := 0) (As := [.int x1, .int x2]) (rest := []) rfl rfl rfl rfl (c_X12_lives l D Y F G S _ x1 x2 w3 ew3) (cwV 2 hts gX12_rub_X12_lives rfl rfl rfl (by decide +kernel) ⟨Nat.le_of_ble_eq_true rfl, Nat.le_of_ble_eq_true rfl⟩) rfl hl.1 rfl (Nat.le_of_ble_eq_true rfl) dX12_rub_17 ⟨Nat.zero_le _, Nat.zero_le _⟩ (fun H locs hw hS => ?_)
    refine lv_if_eq (tgt := 40) hx hb dX12_rub_20 (by decide) (fun c4 => ?_) (fun c4 => ?_)
    · replace h := z_ifp c4 h
      exact t_X12_rub_B40 C0 res S h _ _ _ hw hS (lv_sub hl [0] rfl)
    · replace h := z_ifn c4 h
      refine lv_iload_n hx hb dX12_rub_23 rfl (lv_at hl 3 rfl) ?_
      obtain ⟨w6, ew6, h⟩ := z_bd h
      refine z_callSip C0 hw hS (As := [.int x3]) (rest := []) (c_X12_isDeed l D Y F G S _ x3 w6 ew6) (va_cwS 1 hts gX12_rub_X12_isDeed rfl rfl rfl (by decide +kernel) ⟨Nat.le_of_ble_eq_true rfl, Nat.le_of_ble_eq_true rfl⟩) rfl hl.1 rfl (Nat.le_of_ble_eq_true rfl) dX12_rub_24 ⟨Nat.zero_le _, Nat.zero_le _⟩ (fun H locs hw hS => ?_)
      refine lv_if_eq (tgt := 40) hx hb dX12_rub_27 (by decide) (fun c7 => ?_) (fun c7 => ?_)
      · replace h := z_ifp c7 h
        exact t_X12_rub_B40 C0 res S h _ _ _ hw hS (lv_sub hl [0] rfl)
      · replace h := z_ifn c7 h
        refine lv_aload_n hx hb dX12_rub_30 rfl (lv_at hl 0 rfl) ?_
        refine lv_iload_n hx hb dX12_rub_31 rfl (lv_at hl 1 rfl) ?_
        refine lv_iload_n hx hb dX12_rub_32 rfl (lv_at hl 2 rfl) ?_
        refine lv_iload_n hx hb dX12_rub_33 rfl (lv_at hl 3 rfl) ?_
        obtain ⟨w8, ew8, h⟩ := z_bd h
        refine z_callVi0 C0 hw hS (k := 0) (As := [.int x1, .int x2, .int x3]) (rest := []) rfl rfl rfl rfl (c_X12_rubs l D Y F G S _ x1 x2 x3 w8 ew8) (cwV 3 hts gX12_rub_X12_rubs rfl rfl rfl (by decide +kernel) ⟨Nat.le_of_ble_eq_true rfl, Nat.le_of_ble_eq_true rfl⟩) rfl hl.1 rfl (Nat.le_of_ble_eq_true rfl) dX12_rub_34 ⟨Nat.zero_le _, Nat.zero_le _⟩ (fun H locs hw hS => ?_)
        refine lv_goto (tgt := 46) hx hb dX12_rub_37 (by decide) ?_
        exact z_reti C0 hw hS (Option.some.inj h) dX12_rub_46
  · replace h := z_ifp c2 h
    refine lv_aload_n hx hb dX12_rub_8 rfl (lv_at hl 0 rfl) ?_
    refine lv_iconst (v := (-1)) hx hb dX12_rub_9 (by decide) ?_
    obtain ⟨w9, ew9, h⟩ := z_bd h
    refine z_callVi0 C0 hw hS (k := 0) (As := [.int (-1)]) (rest := []) rfl rfl rfl rfl (c_X12_no l D Y F G S _ (-1) w9 ew9) (cwV 1 hts gX12_rub_X12_no rfl rfl rfl (by decide +kernel) ⟨Nat.le_of_ble_eq_true rfl, Nat.le_of_ble_eq_true rfl⟩) rfl hl.1 rfl (Nat.le_of_ble_eq_true rfl) dX12_rub_10 ⟨Nat.zero_le _, Nat.zero_le _⟩ (fun H locs hw hS => ?_)
    exact z_reti C0 hw hS (Option.some.inj h) dX12_rub_13
def M_X12_dies (S : zSt) (x1 : Int32) : Option (Int32 × zSt) :=
  Option.bind (M_X12_isPerson S x1) (fun w1 => (if w1 = 0 then Option.bind (M_X12_no S (-1)) (fun w8 => some (w8.1, w8.2)) else zg (zin x1 6) ((if 6 ≤ (zar S 7 (Int32.toNatClampNeg x1)) then Option.bind (M_X12_no S (-6)) (fun w5 => some (w5.1, w5.2)) else zg (zin x1 6) (zg (zin x1 6) (some (((zar S 7 (Int32.toNatClampNeg x1)) + 1), (zAs S 7 (Int32.toNatClampNeg x1) (((zar S 7 (Int32.toNatClampNeg x1)) + 1))))))))))
set_option maxHeartbeats 4000000 in
set_option maxRecDepth 100000 in
theorem c_X12_dies (l : Launch) (D : va_G) (Y : Nat → ClassId) (F : Nat → Nat) (G : zG) (S : zSt) (sz : Nat) (x1 : Int32) (res : Int32 × zSt) (h : M_X12_dies S x1 = some res) : Met l yX12_dies wsX12_dies (zRm 2 43) (zPc D Y F G S sz [.ref (F 0), .int x1]) (zQi D Y F (zAo F G sz) G res) 0 0 (zAo F G sz) := by
  unfold M_X12_dies at h
  refine zMet (cc := cX12_dies) (maxL := 2) (ret := (some .int)) (own := RX12) (by decide +kernel) rfl rfl (Nat.le_of_ble_eq_true rfl) ?_
  intro p e s m args below meth c C0 hin hw hS ls hl
  have hl : lv_has ls 2 [(0, .ref (F 0)), (1, .int x1)] := hl
  generalize zAo F G sz = A at C0 hw hS ⊢
  obtain ⟨hx, hb, hml, hr, hown, hts, hK, hA, hlk, hN⟩ := id C0
  refine lv_aload_n hx hb dX12_dies_0 rfl (lv_at hl 0 rfl) ?_
  refine lv_iload_n hx hb dX12_dies_1 rfl (lv_at hl 1 rfl) ?_
  obtain ⟨w1, ew1, h⟩ := z_bd h
  refine z_callVip C0 hw hS (k := 0) (As := [.int x1]) (rest := []) rfl rfl rfl rfl (c_X12_isPerson l D Y F G S _ x1 w1 ew1) (cwV 1 hts gX12_dies_X12_isPerson rfl rfl rfl (by decide +kernel) ⟨Nat.le_of_ble_eq_true rfl, Nat.le_of_ble_eq_true rfl⟩) rfl hl.1 rfl (Nat.le_of_ble_eq_true rfl) dX12_dies_2 ⟨Nat.zero_le _, Nat.zero_le _⟩ (fun H locs hw hS => ?_)
  refine lv_if_ne (tgt := 14) hx hb dX12_dies_5 (by decide) (fun c2 => ?_) (fun c2 => ?_)
  · replace h := z_ifn c2 h
    refine lv_aload_n hx hb dX12_dies_14 rfl (lv_at hl 0 rfl) ?_
    refine z_get C0 in_X12_dies_X12 (C := RX12) (T := TX12) (N := 27) hw (k := 0) (ci := 12) (v := .ref (F 7)) rfl rfl rfl rfl 7 (by decide) rfl 1 rfl dX12_dies_15 ?_
    refine lv_iload_n hx hb dX12_dies_18 rfl (lv_at hl 1 rfl) ?_
    obtain ⟨b3, h⟩ := z_gd h
    refine z_iald C0 hw 7 rfl rfl zri_7 (zin_in b3) dX12_dies_19 ?_
    refine lv_bipush (v := 6) hx hb dX12_dies_20 (by decide) ?_
    refine lv_icmp_ge (tgt := 39) hx hb dX12_dies_22 (by decide) (fun c4 => ?_) (fun c4 => ?_)
    · replace h := z_ifp c4 h
      refine lv_aload_n hx hb dX12_dies_39 rfl (lv_at hl 0 rfl) ?_
      refine lv_bipush (v := (-6)) hx hb dX12_dies_40 (by decide) ?_
      obtain ⟨w5, ew5, h⟩ := z_bd h
      refine z_callVi0 C0 hw hS (k := 0) (As := [.int (-6)]) (rest := []) rfl rfl rfl rfl (c_X12_no l D Y F G S _ (-6) w5 ew5) (cwV 1 hts gX12_dies_X12_no rfl rfl rfl (by decide +kernel) ⟨Nat.le_of_ble_eq_true rfl, Nat.le_of_ble_eq_true rfl⟩) rfl hl.1 rfl (Nat.le_of_ble_eq_true rfl) dX12_dies_42 ⟨Nat.zero_le _, Nat.zero_le _⟩ (fun H locs hw hS => ?_)
      exact z_reti C0 hw hS (Option.some.inj h) dX12_dies_45
    · replace h := z_ifn c4 h
      refine lv_aload_n hx hb dX12_dies_25 rfl (lv_at hl 0 rfl) ?_
      refine z_get C0 in_X12_dies_X12 (C := RX12) (T := TX12) (N := 27) hw (k := 0) (ci := 12) (v := .ref (F 7)) rfl rfl rfl rfl 7 (by decide) rfl 1 rfl dX12_dies_26 ?_
      refine lv_iload_n hx hb dX12_dies_29 rfl (lv_at hl 1 rfl) ?_
      refine lv_dup2_11 hx hb dX12_dies_30 rfl rfl ?_
      obtain ⟨b6, h⟩ := z_gd h
      refine z_iald C0 hw 7 rfl rfl zri_7 (zin_in b6) dX12_dies_31 ?_
      refine lv_iconst (v := 1) hx hb dX12_dies_32 (by decide) ?_
      refine lv_iadd hx hb dX12_dies_33 ?_
      refine lv_dup_x2 hx hb dX12_dies_34 rfl rfl rfl ?_
      obtain ⟨b7, h⟩ := z_gd h
      refine z_iasts C0 hw hS 7 rfl rfl zri_7 (zin_in b7) dX12_dies_35 (fun H locs hw hS => ?_)
      refine lv_goto (tgt := 45) hx hb dX12_dies_36 (by decide) ?_
      exact z_reti C0 hw hS (Option.some.inj h) dX12_dies_45
  · replace h := z_ifp c2 h
    refine lv_aload_n hx hb dX12_dies_8 rfl (lv_at hl 0 rfl) ?_
    refine lv_iconst (v := (-1)) hx hb dX12_dies_9 (by decide) ?_
    obtain ⟨w8, ew8, h⟩ := z_bd h
    refine z_callVi0 C0 hw hS (k := 0) (As := [.int (-1)]) (rest := []) rfl rfl rfl rfl (c_X12_no l D Y F G S _ (-1) w8 ew8) (cwV 1 hts gX12_dies_X12_no rfl rfl rfl (by decide +kernel) ⟨Nat.le_of_ble_eq_true rfl, Nat.le_of_ble_eq_true rfl⟩) rfl hl.1 rfl (Nat.le_of_ble_eq_true rfl) dX12_dies_10 ⟨Nat.zero_le _, Nat.zero_le _⟩ (fun H locs hw hS => ?_)
    exact z_reti C0 hw hS (Option.some.inj h) dX12_dies_13
def M_X12_draw (S : zSt) (x1 : Int32) : Option (Int32 × zSt) :=
  zg (decide (¬ x1 = 0)) (some (((Int32.toUInt32 ((zsc ((zP S 0 12 ((((zsc S 0 12) * 1103515245) + 12345)))) 0 12)) >>> (Int32.toUInt32 16 &&& Int32.toUInt32 31)).toInt32 - (Int32.toUInt32 ((zsc ((zP S 0 12 ((((zsc S 0 12) * 1103515245) + 12345)))) 0 12)) >>> (Int32.toUInt32 16 &&& Int32.toUInt32 31)).toInt32 / x1 * x1), (zP S 0 12 ((((zsc S 0 12) * 1103515245) + 12345)))))
set_option maxHeartbeats 4000000 in
set_option maxRecDepth 100000 in
theorem c_X12_draw (l : Launch) (D : va_G) (Y : Nat → ClassId) (F : Nat → Nat) (G : zG) (S : zSt) (sz : Nat) (x1 : Int32) (res : Int32 × zSt) (h : M_X12_draw S x1 = some res) : Met l yX12_draw wsX12_draw (zRm 0 0) (zPc D Y F G S sz [.ref (F 0), .int x1]) (zQi D Y F (zAo F G sz) G res) 0 0 (zAo F G sz) := by
  unfold M_X12_draw at h
  refine zMet (cc := cX12_draw) (maxL := 2) (ret := (some .int)) (own := RX12) (by decide +kernel) rfl rfl (Nat.le_of_ble_eq_true rfl) ?_
  intro p e s m args below meth c C0 hin hw hS ls hl
  have hl : lv_has ls 2 [(0, .ref (F 0)), (1, .int x1)] := hl
  generalize zAo F G sz = A at C0 hw hS ⊢
  obtain ⟨hx, hb, hml, hr, hown, hts, hK, hA, hlk, hN⟩ := id C0
  refine lv_aload_n hx hb dX12_draw_0 rfl (lv_at hl 0 rfl) ?_
  refine lv_aload_n hx hb dX12_draw_1 rfl (lv_at hl 0 rfl) ?_
  refine z_get C0 in_X12_draw_X12 (C := RX12) (T := TX12) (N := 27) hw (k := 0) (ci := 12) (v := .int ((zsc S 0 12))) rfl rfl rfl rfl 12 (by decide) rfl 1 rfl dX12_draw_2 ?_
  refine lv_ldcw (v := 1103515245) hx hb hown (hts _ (List.mem_of_getElem? (i := 2) rfl)) dX12_draw_5 ?_
  refine lv_imul hx hb dX12_draw_8 ?_
  refine lv_sipush (v := 12345) hx hb dX12_draw_9 (by decide) ?_
  refine lv_iadd hx hb dX12_draw_12 ?_
  refine z_put C0 in_X12_draw_X12 tyX12 tyX12_ok nmX12 (C := RX12) (T := TX12) (N := 27) hw hS (k := 0) (ci := 12) (v := (((zsc S 0 12) * 1103515245) + 12345)) (ty := .int) rfl rfl rfl rfl 12 (by decide) 1 rfl rfl rfl rfl rfl (Nat.le_of_ble_eq_true rfl) rfl dX12_draw_13 (fun H locs hw hS => ?_)
  refine lv_aload_n hx hb dX12_draw_16 rfl (lv_at hl 0 rfl) ?_
  refine z_get C0 in_X12_draw_X12 (C := RX12) (T := TX12) (N := 27) hw (k := 0) (ci := 12) (v := .int ((zsc ((zP S 0 12 ((((zsc S 0 12) * 1103515245) + 12345)))) 0 12))) rfl rfl rfl rfl 12 (by decide) rfl 1 rfl dX12_draw_17 ?_
  refine lv_bipush (v := 16) hx hb dX12_draw_20 (by decide) ?_
  refine lv_iushr (v := (Int32.toUInt32 ((zsc ((zP S 0 12 ((((zsc S 0 12) * 1103515245) + 12345)))) 0 12)) >>> (Int32.toUInt32 16 &&& Int32.toUInt32 31)).toInt32) hx hb dX12_draw_22 rfl ?_
  refine lv_iload_n hx hb dX12_draw_23 rfl (lv_at hl 1 rfl) ?_
  obtain ⟨b1, h⟩ := z_gd h
  refine lv_irem hx hb dX12_draw_24 (of_decide_eq_true b1) ?_
  exact z_reti C0 hw hS (Option.some.inj h) dX12_draw_25
def M_X12_year (S : zSt) : Option (zSt) :=
  Option.bind (M_X12_draw S ((zsc S 0 3))) (fun w1 => Option.bind (M_X12_draw w1.2 8) (fun w2 => (if 5 ≤ w2.1 then (if 7 ≤ w2.1 then zg (zin w1.1 6) ((if 6 ≤ (zar w2.2 7 (Int32.toNatClampNeg w1.1)) then some w2.2 else zg (zin w1.1 6) (zg (zin w1.1 6) (some ((zAs w2.2 7 (Int32.toNatClampNeg w1.1) (((zar w2.2 7 (Int32.toNatClampNeg w1.1)) + 1)))))))) else Option.bind (M_X12_draw w2.2 6) (fun w9 => Option.bind (M_X12_draw w9.2 8) (fun w10 => Option.bind (M_X12_lives w10.2 w1.1 w9.1) (fun w11 => (if w11 = 0 then some w10.2 else Option.bind (M_X12_rubs w10.2 w1.1 w9.1 w10.1) (fun w13 => some w13.2)))))) else Option.bind (M_X12_draw w2.2 8) (fun w14 => Option.bind (M_X12_draw w14.2 60) (fun w15 => zg (zin w1.1 6) ((if 6 ≤ (zar w15.2 7 (Int32.toNatClampNeg w1.1)) then some w15.2 else Option.bind (M_X12_presses w15.2 w1.1 w14.1 (((1 : Int32) + w15.1))) (fun w18 => some w18.2))))))))
set_option maxHeartbeats 4000000 in
set_option maxRecDepth 100000 in
theorem c_X12_year (l : Launch) (D : va_G) (Y : Nat → ClassId) (F : Nat → Nat) (G : zG) (S : zSt) (sz : Nat) (res : zSt) (h : M_X12_year S = some res) : Met l yX12_year wsX12_year (zRm 3 75) (zPc D Y F G S sz [.ref (F 0)]) (zQv D Y F (zAo F G sz) G res) 0 0 (zAo F G sz) := by
  unfold M_X12_year at h
  refine zMet (cc := cX12_year) (maxL := 5) (ret := none) (own := RX12) (by decide +kernel) rfl rfl (Nat.le_of_ble_eq_true rfl) ?_
  intro p e s m args below meth c C0 hin hw hS ls hl
  have hl : lv_has ls 5 [(0, .ref (F 0))] := hl
  generalize zAo F G sz = A at C0 hw hS ⊢
  obtain ⟨hx, hb, hml, hr, hown, hts, hK, hA, hlk, hN⟩ := id C0
  refine lv_aload_n hx hb dX12_year_0 rfl (lv_at hl 0 rfl) ?_
  refine lv_aload_n hx hb dX12_year_1 rfl (lv_at hl 0 rfl) ?_
  refine z_get C0 in_X12_year_X12 (C := RX12) (T := TX12) (N := 27) hw (k := 0) (ci := 12) (v := .int ((zsc S 0 3))) rfl rfl rfl rfl 3 (by decide) rfl 1 rfl dX12_year_2 ?_
  obtain ⟨w1, ew1, h⟩ := z_bd h
  refine z_callVi0 C0 hw hS (k := 0) (As := [.int ((zsc S 0 3))]) (rest := []) rfl rfl rfl rfl (c_X12_draw l D Y F G S _ ((zsc S 0 3)) w1 ew1) (cwV 1 hts gX12_year_X12_draw rfl rfl rfl (by decide +kernel) ⟨Nat.le_of_ble_eq_true rfl, Nat.le_of_ble_eq_true rfl⟩) rfl hl.1 rfl (Nat.le_of_ble_eq_true rfl) dX12_year_5 ⟨Nat.zero_le _, Nat.zero_le _⟩ (fun H locs hw hS => ?_)
  refine lv_istore_n (lv' := [(1, .int w1.1), (0, .ref (F 0))]) hx hb dX12_year_8 rfl hl (by decide) rfl (fun ls hl => ?_)
  refine lv_aload_n hx hb dX12_year_9 rfl (lv_at hl 1 rfl) ?_
  refine lv_bipush (v := 8) hx hb dX12_year_10 (by decide) ?_
  obtain ⟨w2, ew2, h⟩ := z_bd h
  refine z_callVi0 C0 hw hS (k := 0) (As := [.int 8]) (rest := []) rfl rfl rfl rfl (c_X12_draw l D Y F G w1.2 _ 8 w2 ew2) (cwV 1 hts gX12_year_X12_draw rfl rfl rfl (by decide +kernel) ⟨Nat.le_of_ble_eq_true rfl, Nat.le_of_ble_eq_true rfl⟩) rfl hl.1 rfl (Nat.le_of_ble_eq_true rfl) dX12_year_12 ⟨Nat.zero_le _, Nat.zero_le _⟩ (fun H locs hw hS => ?_)
  refine lv_istore_n (lv' := [(2, .int w2.1), (1, .int w1.1), (0, .ref (F 0))]) hx hb dX12_year_15 rfl hl (by decide) rfl (fun ls hl => ?_)
  refine lv_iload_n hx hb dX12_year_16 rfl (lv_at hl 0 rfl) ?_
  refine lv_iconst (v := 5) hx hb dX12_year_17 (by decide) ?_
  refine lv_icmp_ge (tgt := 61) hx hb dX12_year_18 (by decide) (fun c3 => ?_) (fun c3 => ?_)
  · replace h := z_ifp c3 h
    refine lv_iload_n hx hb dX12_year_61 rfl (lv_at hl 0 rfl) ?_
    refine lv_bipush (v := 7) hx hb dX12_year_62 (by decide) ?_
    refine lv_icmp_ge (tgt := 103) hx hb dX12_year_64 (by decide) (fun c4 => ?_) (fun c4 => ?_)
    · replace h := z_ifp c4 h
      refine lv_aload_n hx hb dX12_year_103 rfl (lv_at hl 2 rfl) ?_
      refine z_get C0 in_X12_year_X12 (C := RX12) (T := TX12) (N := 27) hw (k := 0) (ci := 12) (v := .ref (F 7)) rfl rfl rfl rfl 7 (by decide) rfl 2 rfl dX12_year_104 ?_
      refine lv_iload_n hx hb dX12_year_107 rfl (lv_at hl 1 rfl) ?_
      obtain ⟨b5, h⟩ := z_gd h
      refine z_iald C0 hw 7 rfl rfl zri_7 (zin_in b5) dX12_year_108 ?_
      refine lv_bipush (v := 6) hx hb dX12_year_109 (by decide) ?_
      refine lv_icmp_ge (tgt := 124) hx hb dX12_year_111 (by decide) (fun c6 => ?_) (fun c6 => ?_)
      · replace h := z_ifp c6 h
        exact z_retv C0 hw hS (Option.some.inj h) dX12_year_124
      · replace h := z_ifn c6 h
        refine lv_aload_n hx hb dX12_year_114 rfl (lv_at hl 2 rfl) ?_
        refine z_get C0 in_X12_year_X12 (C := RX12) (T := TX12) (N := 27) hw (k := 0) (ci := 12) (v := .ref (F 7)) rfl rfl rfl rfl 7 (by decide) rfl 2 rfl dX12_year_115 ?_
        refine lv_iload_n hx hb dX12_year_118 rfl (lv_at hl 1 rfl) ?_
        refine lv_dup2_11 hx hb dX12_year_119 rfl rfl ?_
        obtain ⟨b7, h⟩ := z_gd h
        refine z_iald C0 hw 7 rfl rfl zri_7 (zin_in b7) dX12_year_120 ?_
        refine lv_iconst (v := 1) hx hb dX12_year_121 (by decide) ?_
        refine lv_iadd hx hb dX12_year_122 ?_
        obtain ⟨b8, h⟩ := z_gd h
        refine z_iasts C0 hw hS 7 rfl rfl zri_7 (zin_in b8) dX12_year_123 (fun H locs hw hS => ?_)
        exact z_retv C0 hw hS (Option.some.inj h) dX12_year_124
    · replace h := z_ifn c4 h
      refine lv_aload_n hx hb dX12_year_67 rfl (lv_at hl 2 rfl) ?_
      refine lv_bipush (v := 6) hx hb dX12_year_68 (by decide) ?_
      obtain ⟨w9, ew9, h⟩ := z_bd h
      refine z_callVi0 C0 hw hS (k := 0) (As := [.int 6]) (rest := []) rfl rfl rfl rfl (c_X12_draw l D Y F G w2.2 _ 6 w9 ew9) (cwV 1 hts gX12_year_X12_draw rfl rfl rfl (by decide +kernel) ⟨Nat.le_of_ble_eq_true rfl, Nat.le_of_ble_eq_true rfl⟩) rfl hl.1 rfl (Nat.le_of_ble_eq_true rfl) dX12_year_70 ⟨Nat.zero_le _, Nat.zero_le _⟩ (fun H locs hw hS => ?_)
      refine lv_istore_n (lv' := [(3, .int w9.1), (2, .int w2.1), (1, .int w1.1), (0, .ref (F 0))]) hx hb dX12_year_73 rfl hl (by decide) rfl (fun ls hl => ?_)
      refine lv_aload_n hx hb dX12_year_74 rfl (lv_at hl 3 rfl) ?_
      refine lv_bipush (v := 8) hx hb dX12_year_75 (by decide) ?_
      obtain ⟨w10, ew10, h⟩ := z_bd h
      refine z_callVi0 C0 hw hS (k := 0) (As := [.int 8]) (rest := []) rfl rfl rfl rfl (c_X12_draw l D Y F G w9.2 _ 8 w10 ew10) (cwV 1 hts gX12_year_X12_draw rfl rfl rfl (by decide +kernel) ⟨Nat.le_of_ble_eq_true rfl, Nat.le_of_ble_eq_true rfl⟩) rfl hl.1 rfl (Nat.le_of_ble_eq_true rfl) dX12_year_77 ⟨Nat.zero_le _, Nat.zero_le _⟩ (fun H locs hw hS => ?_)
      refine lv_istore (lv' := [(4, .int w10.1), (3, .int w9.1), (2, .int w2.1), (1, .int w1.1), (0, .ref (F 0))]) hx hb dX12_year_80 hl (by decide) rfl (fun ls hl => ?_)
      refine lv_aload_n hx hb dX12_year_82 rfl (lv_at hl 4 rfl) ?_
      refine lv_iload_n hx hb dX12_year_83 rfl (lv_at hl 3 rfl) ?_
      refine lv_iload_n hx hb dX12_year_84 rfl (lv_at hl 1 rfl) ?_
      obtain ⟨w11, ew11, h⟩ := z_bd h
      refine z_callVip C0 hw hS (k := 0) (As := [.int w1.1, .int w9.1]) (rest := []) rfl rfl rfl rfl (c_X12_lives l D Y F G w10.2 _ w1.1 w9.1 w11 ew11) (cwV 2 hts gX12_year_X12_lives rfl rfl rfl (by decide +kernel) ⟨Nat.le_of_ble_eq_true rfl, Nat.le_of_ble_eq_true rfl⟩) rfl hl.1 rfl (Nat.le_of_ble_eq_true rfl) dX12_year_85 ⟨Nat.zero_le _, Nat.zero_le _⟩ (fun H locs hw hS => ?_)
      refine lv_if_eq (tgt := 100) hx hb dX12_year_88 (by decide) (fun c12 => ?_) (fun c12 => ?_)
      · replace h := z_ifp c12 h
        refine lv_goto (tgt := 124) hx hb dX12_year_100 (by decide) ?_
        exact z_retv C0 hw hS (Option.some.inj h) dX12_year_124
      · replace h := z_ifn c12 h
        refine lv_aload_n hx hb dX12_year_91 rfl (lv_at hl 4 rfl) ?_
        refine lv_iload_n hx hb dX12_year_92 rfl (lv_at hl 3 rfl) ?_
        refine lv_iload_n hx hb dX12_year_93 rfl (lv_at hl 1 rfl) ?_
        refine lv_iload hx hb dX12_year_94 (lv_at hl 0 rfl) ?_
        obtain ⟨w13, ew13, h⟩ := z_bd h
        refine z_callVi0 C0 hw hS (k := 0) (As := [.int w1.1, .int w9.1, .int w10.1]) (rest := []) rfl rfl rfl rfl (c_X12_rubs l D Y F G w10.2 _ w1.1 w9.1 w10.1 w13 ew13) (cwV 3 hts gX12_year_X12_rubs rfl rfl rfl (by decide +kernel) ⟨Nat.le_of_ble_eq_true rfl, Nat.le_of_ble_eq_true rfl⟩) rfl hl.1 rfl (Nat.le_of_ble_eq_true rfl) dX12_year_96 ⟨Nat.zero_le _, Nat.zero_le _⟩ (fun H locs hw hS => ?_)
        refine lv_pop hx hb dX12_year_99 rfl ?_
        refine lv_goto (tgt := 124) hx hb dX12_year_100 (by decide) ?_
        exact z_retv C0 hw hS (Option.some.inj h) dX12_year_124
  · replace h := z_ifn c3 h
    refine lv_aload_n hx hb dX12_year_21 rfl (lv_at hl 2 rfl) ?_
    refine lv_bipush (v := 8) hx hb dX12_year_22 (by decide) ?_
    obtain ⟨w14, ew14, h⟩ := z_bd h
    refine z_callVi0 C0 hw hS (k := 0) (As := [.int 8]) (rest := []) rfl rfl rfl rfl (c_X12_draw l D Y F G w2.2 _ 8 w14 ew14) (cwV 1 hts gX12_year_X12_draw rfl rfl rfl (by decide +kernel) ⟨Nat.le_of_ble_eq_true rfl, Nat.le_of_ble_eq_true rfl⟩) rfl hl.1 rfl (Nat.le_of_ble_eq_true rfl) dX12_year_24 ⟨Nat.zero_le _, Nat.zero_le _⟩ (fun H locs hw hS => ?_)
    refine lv_istore_n (lv' := [(3, .int w14.1), (2, .int w2.1), (1, .int w1.1), (0, .ref (F 0))]) hx hb dX12_year_27 rfl hl (by decide) rfl (fun ls hl => ?_)
    refine lv_iconst (v := 1) hx hb dX12_year_28 (by decide) ?_
    refine lv_aload_n hx hb dX12_year_29 rfl (lv_at hl 3 rfl) ?_
    refine lv_bipush (v := 60) hx hb dX12_year_30 (by decide) ?_
    obtain ⟨w15, ew15, h⟩ := z_bd h
    refine z_callVi0 C0 hw hS (k := 0) (As := [.int 60]) (rest := [.int 1]) rfl rfl rfl rfl (c_X12_draw l D Y F G w14.2 _ 60 w15 ew15) (cwV 1 hts gX12_year_X12_draw rfl rfl rfl (by decide +kernel) ⟨Nat.le_of_ble_eq_true rfl, Nat.le_of_ble_eq_true rfl⟩) rfl hl.1 rfl (Nat.le_of_ble_eq_true rfl) dX12_year_32 ⟨Nat.zero_le _, Nat.zero_le _⟩ (fun H locs hw hS => ?_)
    refine lv_iadd hx hb dX12_year_35 ?_
    refine lv_istore (lv' := [(4, .int (((1 : Int32) + w15.1))), (3, .int w14.1), (2, .int w2.1), (1, .int w1.1), (0, .ref (F 0))]) hx hb dX12_year_36 hl (by decide) rfl (fun ls hl => ?_)
    refine lv_aload_n hx hb dX12_year_38 rfl (lv_at hl 4 rfl) ?_
    refine z_get C0 in_X12_year_X12 (C := RX12) (T := TX12) (N := 27) hw (k := 0) (ci := 12) (v := .ref (F 7)) rfl rfl rfl rfl 7 (by decide) rfl 2 rfl dX12_year_39 ?_
    refine lv_iload_n hx hb dX12_year_42 rfl (lv_at hl 3 rfl) ?_
    obtain ⟨b16, h⟩ := z_gd h
    refine z_iald C0 hw 7 rfl rfl zri_7 (zin_in b16) dX12_year_43 ?_
    refine lv_bipush (v := 6) hx hb dX12_year_44 (by decide) ?_
    refine lv_icmp_ge (tgt := 58) hx hb dX12_year_46 (by decide) (fun c17 => ?_) (fun c17 => ?_)
    · replace h := z_ifp c17 h
      refine lv_goto (tgt := 124) hx hb dX12_year_58 (by decide) ?_
      exact z_retv C0 hw hS (Option.some.inj h) dX12_year_124
    · replace h := z_ifn c17 h
      refine lv_aload_n hx hb dX12_year_49 rfl (lv_at hl 4 rfl) ?_
      refine lv_iload_n hx hb dX12_year_50 rfl (lv_at hl 3 rfl) ?_
      refine lv_iload_n hx hb dX12_year_51 rfl (lv_at hl 1 rfl) ?_
      refine lv_iload hx hb dX12_year_52 (lv_at hl 0 rfl) ?_
      obtain ⟨w18, ew18, h⟩ := z_bd h
      refine z_callVi0 C0 hw hS (k := 0) (As := [.int w1.1, .int w14.1, .int (((1 : Int32) + w15.1))]) (rest := []) rfl rfl rfl rfl (c_X12_presses l D Y F G w15.2 _ w1.1 w14.1 (((1 : Int32) + w15.1)) w18 ew18) (cwV 3 hts gX12_year_X12_presses rfl rfl rfl (by decide +kernel) ⟨Nat.le_of_ble_eq_true rfl, Nat.le_of_ble_eq_true rfl⟩) rfl hl.1 rfl (Nat.le_of_ble_eq_true rfl) dX12_year_54 ⟨Nat.zero_le _, Nat.zero_le _⟩ (fun H locs hw hS => ?_)
      refine lv_pop hx hb dX12_year_57 rfl ?_
      refine lv_goto (tgt := 124) hx hb dX12_year_58 (by decide) ?_
      exact z_retv C0 hw hS (Option.some.inj h) dX12_year_124
