set_option maxRecDepth 20000 in
theorem in_X4_drawBelow_X4 : ∀ w ∈ u_ws RX4 TX4 6, w ∈ wsX4_drawBelow := by decide +kernel
set_option maxRecDepth 20000 in
theorem in_X4_firstWrong_X4 : ∀ w ∈ u_ws RX4 TX4 6, w ∈ wsX4_firstWrong := by decide +kernel
set_option maxRecDepth 20000 in
theorem in_X4_liveYear_X4 : ∀ w ∈ u_ws RX4 TX4 6, w ∈ wsX4_liveYear := by decide +kernel
set_option maxRecDepth 20000 in
theorem inP_X4_firstWrong : ∀ w ∈ wsPers, w ∈ wsX4_firstWrong := by decide +kernel
set_option maxRecDepth 20000 in
theorem inP_X4_liveTold : ∀ w ∈ wsPers, w ∈ wsX4_liveTold := by decide +kernel
set_option maxRecDepth 20000 in
theorem inP_X4_liveYear : ∀ w ∈ wsPers, w ∈ wsX4_liveYear := by decide +kernel
def M_X4_firstWrong_B44 (pk : Nat → Nat) (i0 : Nat) (s1 : Nat) : Nat → zSt → Int32 → Int32 → Option (Int32 × zSt)
  | 0, _, _, _ => none
  | n + 1, S, x2, x3 =>
  (if x2 ≤ x3 then some ((-1), S) else Option.bind (M_X7_intAt pk S s1 x3) (fun w3 => Option.bind (M_X4_canBe pk S i0 w3) (fun w4 => (if w4 = 0 then some (x3, S) else (if (w3 - 30000) < 0 then M_X4_firstWrong_B44 pk i0 s1 n S x2 ((x3 + 1)) else (if 6 ≤ (w3 - 30000) then M_X4_firstWrong_B44 pk i0 s1 n S x2 ((x3 + 1)) else zg (zin ((w3 - 30000)) 6) (zg (zin ((w3 - 30000)) 6) (M_X4_firstWrong_B44 pk i0 s1 n ((zAs S ((60 + 3 * i0 + 2)) (Int32.toNatClampNeg ((w3 - 30000))) (((zar S ((60 + 3 * i0 + 2)) (Int32.toNatClampNeg ((w3 - 30000)))) + 1)))) x2 ((x3 + 1))))))))))
set_option maxHeartbeats 4000000 in
set_option maxRecDepth 100000 in
theorem t_X4_firstWrong_B44 {p : Program} {l : Launch} {e : Env} {s : State} {m : MethodId} {args : Array Value} {below : List Frame} {meth : Method} {c : Code} {D : va_G} {Y : Nat → ClassId} {F : Nat → Nat} {A : Nat → Prop} {G : zG} (C0 : zCx p s m args meth c D Y F A RX4 cX4_firstWrong 6 (some .int) wsX4_firstWrong) (i0 : Nat) (s1 : Nat) (hi0 : i0 < 3) (hs1 : s1 < 8) (res : Int32 × zSt) : ∀ (n : Nat), ∀ (S : zSt) (x2 : Int32) (x3 : Int32), M_X4_firstWrong_B44 (zpk G) i0 s1 n S x2 x3 = some res → ∀ (H : Heap) (locs : List Loc) (ls : Array Slot), zH D Y F A G S H → va_S A s.heap H locs → lv_has ls 6 [(0, .ref (zad F G (60 + 3 * i0))), (1, .ref (zad F G (40 + 2 * s1))), (2, .int x2), (3, .int x3)] → W p l e (zRm 4 83) s m args below meth c H locs 0 0 (MQ below (zQi D Y F A G res) args s 0 0 A) (F0 m 44 ls []) := by
  obtain ⟨hx, hb, hml, hr, hown, hts, hK, hA, hlk, hN⟩ := id C0
  intro n
  induction n with
  | zero =>
    intro S x2 x3 h
    unfold M_X4_firstWrong_B44 at h
    cases h
  | succ n ih =>
    intro S x2 x3 h H locs ls hw hS hl
    rw [M_X4_firstWrong_B44] at h
    refine lv_iload_n hx hb dX4_firstWrong_44 rfl (lv_at hl 3 rfl) ?_
    refine lv_iload_n hx hb dX4_firstWrong_45 rfl (lv_at hl 2 rfl) ?_
    refine lv_icmp_ge (tgt := 104) hx hb dX4_firstWrong_46 (by decide) (fun c2 => ?_) (fun c2 => ?_)
    · replace h := z_ifp c2 h
      refine lv_iconst (v := (-1)) hx hb dX4_firstWrong_104 (by decide) ?_
      exact z_reti C0 hw hS (Option.some.inj h) dX4_firstWrong_105
    · replace h := z_ifn c2 h
      refine lv_aload_n hx hb dX4_firstWrong_49 rfl (lv_at hl 1 rfl) ?_
      refine lv_iload_n hx hb dX4_firstWrong_50 rfl (lv_at hl 3 rfl) ?_
      obtain ⟨w3, ew3, h⟩ := z_bd h
      refine z_goi C0 hw hS (res := (w3, S)) (rest := []) (arr := (Value.ref (zad F G (40 + 2 * s1)) :: [.int x3]).toArray) ?_ (fun H locs hw hS => ?_)
      · exact va_runV (z_fix C0) (c_X7_intAt l D Y F G S _ s1 hs1 x3 w3 ew3) (cwV 1 hts gX4_firstWrong_X7_intAt rfl rfl rfl (by decide +kernel) ⟨Nat.le_of_ble_eq_true rfl, Nat.le_of_ble_eq_true rfl⟩) ⟨zPc_blind, z_rv C0 hw (k := (40 + 2 * s1)) (zsh_E hs1) rfl (zsh_B hs1) rfl, z_give C0 hw hS _⟩ rfl rfl hl.1 rfl (lv_room (Nat.le_of_ble_eq_true rfl)) dX4_firstWrong_51 ⟨Nat.zero_le _, Nat.zero_le _⟩
      refine lv_istore (lv' := [(4, .int w3), (0, .ref (zad F G (60 + 3 * i0))), (1, .ref (zad F G (40 + 2 * s1))), (2, .int x2), (3, .int x3)]) hx hb dX4_firstWrong_54 hl (by decide) rfl (fun ls hl => ?_)
      refine lv_aload_n hx hb dX4_firstWrong_56 rfl (lv_at hl 1 rfl) ?_
      refine lv_iload hx hb dX4_firstWrong_57 (lv_at hl 0 rfl) ?_
      obtain ⟨w4, ew4, h⟩ := z_bd h
      refine z_goi C0 hw hS (res := (w4, S)) (rest := []) (arr := (Value.ref (zad F G (60 + 3 * i0)) :: [.int w3]).toArray) ?_ (fun H locs hw hS => ?_)
      · exact va_runV (z_fix C0) (c_X4_canBe l D Y F G S _ i0 hi0 w3 w4 ew4) (cwV 1 hts gX4_firstWrong_X4_canBe rfl rfl rfl (by decide +kernel) ⟨Nat.le_of_ble_eq_true rfl, Nat.le_of_ble_eq_true rfl⟩) ⟨zPc_blind, z_rv C0 hw (k := (60 + 3 * i0)) (zld_E hi0) rfl (zld_B hi0) rfl, z_give C0 hw hS _⟩ rfl rfl hl.1 rfl (lv_room (Nat.le_of_ble_eq_true rfl)) dX4_firstWrong_59 ⟨Nat.zero_le _, Nat.zero_le _⟩
      refine lv_if_ne (tgt := 67) hx hb dX4_firstWrong_62 (by decide) (fun c5 => ?_) (fun c5 => ?_)
      · replace h := z_ifn c5 h
        refine lv_iload hx hb dX4_firstWrong_67 (lv_at hl 0 rfl) ?_
        refine lv_sipush (v := 30000) hx hb dX4_firstWrong_69 (by decide) ?_
        refine lv_isub hx hb dX4_firstWrong_72 ?_
        refine lv_istore (lv' := [(5, .int ((w3 - 30000))), (4, .int w3), (0, .ref (zad F G (60 + 3 * i0))), (1, .ref (zad F G (40 + 2 * s1))), (2, .int x2), (3, .int x3)]) hx hb dX4_firstWrong_73 hl (by decide) rfl (fun ls hl => ?_)
        refine lv_iload hx hb dX4_firstWrong_75 (lv_at hl 0 rfl) ?_
        refine lv_if_lt (tgt := 98) hx hb dX4_firstWrong_77 (by decide) (fun c6 => ?_) (fun c6 => ?_)
        · replace h := z_ifp c6 h
          refine lv_iinc (v := (x3 + 1)) (lv' := [(3, .int ((x3 + 1))), (5, .int ((w3 - 30000))), (4, .int w3), (0, .ref (zad F G (60 + 3 * i0))), (1, .ref (zad F G (40 + 2 * s1))), (2, .int x2)]) hx hb dX4_firstWrong_98 hl (k := 5) rfl rfl (by decide) rfl (fun ls hl => ?_)
          refine lv_goto (tgt := 44) hx hb dX4_firstWrong_101 (by decide) ?_
          exact ih S x2 ((x3 + 1)) h _ _ _ hw hS (lv_sub hl [3, 4, 5, 0] rfl)
        · replace h := z_ifn c6 h
          refine lv_iload hx hb dX4_firstWrong_80 (lv_at hl 0 rfl) ?_
          refine lv_bipush (v := 6) hx hb dX4_firstWrong_82 (by decide) ?_
          refine lv_icmp_ge (tgt := 98) hx hb dX4_firstWrong_84 (by decide) (fun c7 => ?_) (fun c7 => ?_)
          · replace h := z_ifp c7 h
            refine lv_iinc (v := (x3 + 1)) (lv' := [(3, .int ((x3 + 1))), (5, .int ((w3 - 30000))), (4, .int w3), (0, .ref (zad F G (60 + 3 * i0))), (1, .ref (zad F G (40 + 2 * s1))), (2, .int x2)]) hx hb dX4_firstWrong_98 hl (k := 5) rfl rfl (by decide) rfl (fun ls hl => ?_)
            refine lv_goto (tgt := 44) hx hb dX4_firstWrong_101 (by decide) ?_
            exact ih S x2 ((x3 + 1)) h _ _ _ hw hS (lv_sub hl [3, 4, 5, 0] rfl)
          · replace h := z_ifn c7 h
            refine lv_aload_n hx hb dX4_firstWrong_87 rfl (lv_at hl 2 rfl) ?_
            refine z_getU C0 in_X4_firstWrong_X4 (C := RX4) (T := TX4) (N := 6) hw (k := (60 + 3 * i0)) (ci := 4) (v := .ref (zad F G (60 + 3 * i0 + 2))) (zld_E hi0) rfl (zld_B hi0) rfl 1 (by decide) rfl 1 rfl (Or.inl rfl) dX4_firstWrong_88 ?_
            refine lv_iload hx hb dX4_firstWrong_91 (lv_at hl 0 rfl) ?_
            refine lv_dup2_11 hx hb dX4_firstWrong_93 rfl rfl ?_
            obtain ⟨b8, h⟩ := z_gd h
            refine z_iald C0 hw ((60 + 3 * i0 + 2)) (zld_E2 hi0) rfl (zld_R2 hi0) (zin_in b8) dX4_firstWrong_94 ?_
            refine lv_iconst (v := 1) hx hb dX4_firstWrong_95 (by decide) ?_
            refine lv_iadd hx hb dX4_firstWrong_96 ?_
            obtain ⟨b9, h⟩ := z_gd h
            refine z_iasts C0 hw hS ((60 + 3 * i0 + 2)) (zld_E2 hi0) rfl (zld_R2 hi0) (zin_in b9) dX4_firstWrong_97 (fun H locs hw hS => ?_)
            refine lv_iinc (v := (x3 + 1)) (lv' := [(3, .int ((x3 + 1))), (5, .int ((w3 - 30000))), (4, .int w3), (0, .ref (zad F G (60 + 3 * i0))), (1, .ref (zad F G (40 + 2 * s1))), (2, .int x2)]) hx hb dX4_firstWrong_98 hl (k := 5) rfl rfl (by decide) rfl (fun ls hl => ?_)
            refine lv_goto (tgt := 44) hx hb dX4_firstWrong_101 (by decide) ?_
            exact ih ((zAs S ((60 + 3 * i0 + 2)) (Int32.toNatClampNeg ((w3 - 30000))) (((zar S ((60 + 3 * i0 + 2)) (Int32.toNatClampNeg ((w3 - 30000)))) + 1)))) x2 ((x3 + 1)) h _ _ _ hw hS (lv_sub hl [3, 4, 5, 0] rfl)
      · replace h := z_ifp c5 h
        refine lv_iload_n hx hb dX4_firstWrong_65 rfl (lv_at hl 4 rfl) ?_
        exact z_reti C0 hw hS (Option.some.inj h) dX4_firstWrong_66
def M_X4_firstWrong_B35 (pk : Nat → Nat) (i0 : Nat) (s1 : Nat) (K2 : zSt → Int32 → Int32 → Option (Int32 × zSt)) (S : zSt) (x2 : Int32) (x3 : Int32) (y0 : Int32) (y1 : Int32) : Option (Int32 × zSt) :=
  zg (zin y1 6) (K2 ((zAs S ((60 + 3 * i0 + 2)) (Int32.toNatClampNeg y1) y0)) x2 ((x3 + 1)))
set_option maxHeartbeats 4000000 in
set_option maxRecDepth 100000 in
theorem t_X4_firstWrong_B35 {p : Program} {l : Launch} {e : Env} {s : State} {m : MethodId} {args : Array Value} {below : List Frame} {meth : Method} {c : Code} {D : va_G} {Y : Nat → ClassId} {F : Nat → Nat} {A : Nat → Prop} {G : zG} (C0 : zCx p s m args meth c D Y F A RX4 cX4_firstWrong 6 (some .int) wsX4_firstWrong) (i0 : Nat) (s1 : Nat) (hi0 : i0 < 3) (hs1 : s1 < 8) (res : Int32 × zSt) (K2 : zSt → Int32 → Int32 → Option (Int32 × zSt)) (hK2 : ∀ (S : zSt) (x2 : Int32) (x3 : Int32), K2 S x2 x3 = some res → ∀ (H : Heap) (locs : List Loc) (ls : Array Slot), zH D Y F A G S H → va_S A s.heap H locs → lv_has ls 6 [(0, .ref (zad F G (60 + 3 * i0))), (1, .ref (zad F G (40 + 2 * s1))), (2, .int x2), (3, .int x3)] → W p l e (zRm 4 83) s m args below meth c H locs 0 0 (MQ below (zQi D Y F A G res) args s 0 0 A) (F0 m 2 ls [])) : ∀ (S : zSt) (x2 : Int32) (x3 : Int32) (y0 : Int32) (y1 : Int32), M_X4_firstWrong_B35 (zpk G) i0 s1 K2 S x2 x3 y0 y1 = some res → ∀ (H : Heap) (locs : List Loc) (ls : Array Slot), zH D Y F A G S H → va_S A s.heap H locs → lv_has ls 6 [(0, .ref (zad F G (60 + 3 * i0))), (1, .ref (zad F G (40 + 2 * s1))), (2, .int x2), (3, .int x3)] → W p l e (zRm 4 83) s m args below meth c H locs 0 0 (MQ below (zQi D Y F A G res) args s 0 0 A) (F0 m 35 ls [.int y0, .int y1, .ref (zad F G (60 + 3 * i0 + 2))]) := by
  obtain ⟨hx, hb, hml, hr, hown, hts, hK, hA, hlk, hN⟩ := id C0
  intro S x2 x3 y0 y1 h H locs ls hw hS hl
  unfold M_X4_firstWrong_B35 at h
  obtain ⟨b12, h⟩ := z_gd h
  refine z_iasts C0 hw hS ((60 + 3 * i0 + 2)) (zld_E2 hi0) rfl (zld_R2 hi0) (zin_in b12) dX4_firstWrong_35 (fun H locs hw hS => ?_)
  refine lv_iinc (v := (x3 + 1)) (lv' := [(3, .int ((x3 + 1))), (0, .ref (zad F G (60 + 3 * i0))), (1, .ref (zad F G (40 + 2 * s1))), (2, .int x2)]) hx hb dX4_firstWrong_36 hl (k := 3) rfl rfl (by decide) rfl (fun ls hl => ?_)
  refine lv_goto (tgt := 2) hx hb dX4_firstWrong_39 (by decide) ?_
  exact hK2 ((zAs S ((60 + 3 * i0 + 2)) (Int32.toNatClampNeg y1) y0)) x2 ((x3 + 1)) h _ _ _ hw hS (lv_sub hl [1, 2, 3, 0] rfl)
def M_X4_firstWrong_B2 (pk : Nat → Nat) (i0 : Nat) (s1 : Nat) : Nat → zSt → Int32 → Int32 → Option (Int32 × zSt)
  | 0, _, _, _ => none
  | n + 1, S, x2, x3 =>
  (if 6 ≤ x3 then M_X4_firstWrong_B44 pk i0 s1 zF S x2 0 else Option.bind (M_X4_personAt pk S i0 x3) (fun w10 => (zm w10 (M_X4_firstWrong_B35 pk i0 s1 (fun S_ x2_ x3_ => M_X4_firstWrong_B2 pk i0 s1 n S_ x2_ x3_) S x2 x3 6 x3) (fun q11 => zg (zOKb pk q11) (M_X4_firstWrong_B35 pk i0 s1 (fun S_ x2_ x3_ => M_X4_firstWrong_B2 pk i0 s1 n S_ x2_ x3_) S x2 x3 ((zsc S (100 + 4 * q11) 8)) x3)))))
set_option maxHeartbeats 4000000 in
set_option maxRecDepth 100000 in
theorem t_X4_firstWrong_B2 {p : Program} {l : Launch} {e : Env} {s : State} {m : MethodId} {args : Array Value} {below : List Frame} {meth : Method} {c : Code} {D : va_G} {Y : Nat → ClassId} {F : Nat → Nat} {A : Nat → Prop} {G : zG} (C0 : zCx p s m args meth c D Y F A RX4 cX4_firstWrong 6 (some .int) wsX4_firstWrong) (i0 : Nat) (s1 : Nat) (hi0 : i0 < 3) (hs1 : s1 < 8) (res : Int32 × zSt) : ∀ (n : Nat), ∀ (S : zSt) (x2 : Int32) (x3 : Int32), M_X4_firstWrong_B2 (zpk G) i0 s1 n S x2 x3 = some res → ∀ (H : Heap) (locs : List Loc) (ls : Array Slot), zH D Y F A G S H → va_S A s.heap H locs → lv_has ls 6 [(0, .ref (zad F G (60 + 3 * i0))), (1, .ref (zad F G (40 + 2 * s1))), (2, .int x2), (3, .int x3)] → W p l e (zRm 4 83) s m args below meth c H locs 0 0 (MQ below (zQi D Y F A G res) args s 0 0 A) (F0 m 2 ls []) := by
  obtain ⟨hx, hb, hml, hr, hown, hts, hK, hA, hlk, hN⟩ := id C0
  intro n
  induction n with
  | zero =>
    intro S x2 x3 h
    unfold M_X4_firstWrong_B2 at h
    cases h
  | succ n ih =>
    intro S x2 x3 h H locs ls hw hS hl
    rw [M_X4_firstWrong_B2] at h
    refine lv_iload_n hx hb dX4_firstWrong_2 rfl (lv_at hl 3 rfl) ?_
    refine lv_bipush (v := 6) hx hb dX4_firstWrong_3 (by decide) ?_
    refine lv_icmp_ge (tgt := 42) hx hb dX4_firstWrong_5 (by decide) (fun c1 => ?_) (fun c1 => ?_)
    · replace h := z_ifp c1 h
      refine lv_iconst (v := 0) hx hb dX4_firstWrong_42 (by decide) ?_
      refine lv_istore_n (lv' := [(3, .int 0), (0, .ref (zad F G (60 + 3 * i0))), (1, .ref (zad F G (40 + 2 * s1))), (2, .int x2)]) hx hb dX4_firstWrong_43 rfl hl (by decide) rfl (fun ls hl => ?_)
      exact t_X4_firstWrong_B44 C0 i0 s1 hi0 hs1 res zF S x2 0 h _ _ _ hw hS (lv_sub hl [1, 2, 3, 0] rfl)
    · replace h := z_ifn c1 h
      refine lv_aload_n hx hb dX4_firstWrong_8 rfl (lv_at hl 0 rfl) ?_
      refine lv_iload_n hx hb dX4_firstWrong_9 rfl (lv_at hl 3 rfl) ?_
      obtain ⟨w10, ew10, h⟩ := z_bd h
      refine z_goq C0 hw hS (r0 := w10.map (zpa F G)) (rest := []) (arr := (Value.ref (zad F G (60 + 3 * i0)) :: [.int x3]).toArray) ?_ (fun H locs hw hS => ?_)
      · exact va_runV (z_fix C0) (c_X4_personAt l D Y F G S _ i0 hi0 x3 w10 ew10) (cwV 1 hts gX4_firstWrong_X4_personAt rfl rfl rfl (by decide +kernel) ⟨Nat.le_of_ble_eq_true rfl, Nat.le_of_ble_eq_true rfl⟩) ⟨zPc_blind, z_rv C0 hw (k := (60 + 3 * i0)) (zld_E hi0) rfl (zld_B hi0) rfl, z_give C0 hw hS _⟩ rfl rfl hl.1 rfl (lv_room (Nat.le_of_ble_eq_true rfl)) dX4_firstWrong_10 ⟨Nat.zero_le _, Nat.zero_le _⟩
      rcases w10 with _ | q11
      · replace h := zm_n h
        refine z_topv (y := .null) rfl ?_
        refine lv_astoreN (lv' := [(4, .null), (0, .ref (zad F G (60 + 3 * i0))), (1, .ref (zad F G (40 + 2 * s1))), (2, .int x2), (3, .int x3)]) hx hb dX4_firstWrong_13 hl (by decide) rfl (fun ls hl => ?_)
        refine lv_aload_n hx hb dX4_firstWrong_15 rfl (lv_at hl 1 rfl) ?_
        refine z_getU C0 in_X4_firstWrong_X4 (C := RX4) (T := TX4) (N := 6) hw (k := (60 + 3 * i0)) (ci := 4) (v := .ref (zad F G (60 + 3 * i0 + 2))) (zld_E hi0) rfl (zld_B hi0) rfl 1 (by decide) rfl 1 rfl (Or.inl rfl) dX4_firstWrong_16 ?_
        refine lv_iload_n hx hb dX4_firstWrong_19 rfl (lv_at hl 4 rfl) ?_
        refine lv_aloadN hx hb dX4_firstWrong_20 (lv_at hl 0 rfl) ?_
        refine lv_ifnonnullN hx hb dX4_firstWrong_22 ?_
        refine lv_bipush (v := 6) hx hb dX4_firstWrong_25 (by decide) ?_
        refine lv_goto (tgt := 35) hx hb dX4_firstWrong_27 (by decide) ?_
        exact t_X4_firstWrong_B35 C0 i0 s1 hi0 hs1 res (fun S_ x2_ x3_ => M_X4_firstWrong_B2 (zpk G) i0 s1 n S_ x2_ x3_) ih S x2 x3 6 x3 h _ _ _ hw hS (lv_sub hl [1, 2, 3, 4] rfl)
      · replace h := zm_s h
        obtain ⟨bq11, h⟩ := z_gd h
        have hq11 := bq11
        refine z_topv (y := .ref (zad F G (100 + 4 * q11))) rfl ?_
        refine lv_astore (lv' := [(4, .ref (zad F G (100 + 4 * q11))), (0, .ref (zad F G (60 + 3 * i0))), (1, .ref (zad F G (40 + 2 * s1))), (2, .int x2), (3, .int x3)]) hx hb dX4_firstWrong_13 hl (by decide) rfl (fun ls hl => ?_)
        refine lv_aload_n hx hb dX4_firstWrong_15 rfl (lv_at hl 1 rfl) ?_
        refine z_getU C0 in_X4_firstWrong_X4 (C := RX4) (T := TX4) (N := 6) hw (k := (60 + 3 * i0)) (ci := 4) (v := .ref (zad F G (60 + 3 * i0 + 2))) (zld_E hi0) rfl (zld_B hi0) rfl 1 (by decide) rfl 1 rfl (Or.inl rfl) dX4_firstWrong_16 ?_
        refine lv_iload_n hx hb dX4_firstWrong_19 rfl (lv_at hl 4 rfl) ?_
        refine lv_aload hx hb dX4_firstWrong_20 (lv_at hl 0 rfl) ?_
        refine lv_ifnonnull (tgt := 30) hx hb dX4_firstWrong_22 (by decide) ?_
        refine lv_aload hx hb dX4_firstWrong_30 (lv_at hl 0 rfl) ?_
        refine z_getP C0 inP_X4_firstWrong hw hq11 8 (by decide) (v := .int ((zsc S (100 + 4 * q11) 8))) rfl 2 rfl (Or.inl rfl) dX4_firstWrong_32 ?_
        exact t_X4_firstWrong_B35 C0 i0 s1 hi0 hs1 res (fun S_ x2_ x3_ => M_X4_firstWrong_B2 (zpk G) i0 s1 n S_ x2_ x3_) ih S x2 x3 ((zsc S (100 + 4 * q11) 8)) x3 h _ _ _ hw hS (lv_sub hl [1, 2, 3, 4] rfl)
def M_X4_firstWrong (pk : Nat → Nat) (S : zSt) (i0 : Nat) (s1 : Nat) (x2 : Int32) : Option (Int32 × zSt) :=
  M_X4_firstWrong_B2 pk i0 s1 zF S x2 0
set_option maxHeartbeats 4000000 in
set_option maxRecDepth 100000 in
theorem c_X4_firstWrong (l : Launch) (D : va_G) (Y : Nat → ClassId) (F : Nat → Nat) (G : zG) (S : zSt) (sz : Nat) (i0 : Nat) (s1 : Nat) (hi0 : i0 < 3) (hs1 : s1 < 8) (x2 : Int32) (res : Int32 × zSt) (h : M_X4_firstWrong (zpk G) S i0 s1 x2 = some res) : Met l yX4_firstWrong wsX4_firstWrong (zRm 4 83) (zPc D Y F G S sz [.ref (zad F G (60 + 3 * i0)), .ref (zad F G (40 + 2 * s1)), .int x2]) (zQi D Y F (zAo F G sz) G res) 0 0 (zAo F G sz) := by
  unfold M_X4_firstWrong at h
  refine zMet (cc := cX4_firstWrong) (maxL := 6) (ret := (some .int)) (own := RX4) (by decide +kernel) rfl rfl (Nat.le_of_ble_eq_true rfl) ?_
  intro p e s m args below meth c C0 hin hw hS ls hl
  have hl : lv_has ls 6 [(0, .ref (zad F G (60 + 3 * i0))), (1, .ref (zad F G (40 + 2 * s1))), (2, .int x2)] := hl
  generalize zAo F G sz = A at C0 hw hS ⊢
  obtain ⟨hx, hb, hml, hr, hown, hts, hK, hA, hlk, hN⟩ := id C0
  refine lv_iconst (v := 0) hx hb dX4_firstWrong_0 (by decide) ?_
  refine lv_istore_n (lv' := [(3, .int 0), (0, .ref (zad F G (60 + 3 * i0))), (1, .ref (zad F G (40 + 2 * s1))), (2, .int x2)]) hx hb dX4_firstWrong_1 rfl hl (by decide) rfl (fun ls hl => ?_)
  exact t_X4_firstWrong_B2 C0 i0 s1 hi0 hs1 res zF S x2 0 h _ _ _ hw hS (lv_sub hl [1, 2, 3, 0] rfl)
def M_X4_liveTold_B53 (pk : Nat → Nat) (i0 : Nat) (s1 : Nat) (K2 : zSt → Int32 → Int32 → Option (zSt)) (S : zSt) (x2 : Int32) (x3 : Int32) (x4 : Int32) (x5 : Int32) (y0 : Int32) : Option (zSt) :=
  Option.bind (M_X4_personAt pk S i0 y0) (fun w5 => (zm w5 (K2 S x2 ((x3 + 1))) (fun q6 => zg (zOKb pk q6) ((if x5 = 0 then (if x4 < 20000 then Option.bind (M_X5_pressWith pk S q6 (((x4 / 100) - (x4 / 100) / 10 * 10)) ((x4 - x4 / 100 * 100))) (fun w9 => K2 w9.2 x2 ((x3 + 1))) else Option.bind (M_X5_rubOn pk S q6 (((x4 / 100) - (x4 / 100) / 10 * 10)) ((x4 - x4 / 100 * 100))) (fun w10 => K2 w10.2 x2 ((x3 + 1)))) else K2 ((zP S ((100 + 4 * q6)) 8 (((zsc S (100 + 4 * q6) 8) + 1)))) x2 ((x3 + 1)))))))
set_option maxHeartbeats 4000000 in
set_option maxRecDepth 100000 in
theorem t_X4_liveTold_B53 {p : Program} {l : Launch} {e : Env} {s : State} {m : MethodId} {args : Array Value} {below : List Frame} {meth : Method} {c : Code} {D : va_G} {Y : Nat → ClassId} {F : Nat → Nat} {A : Nat → Prop} {G : zG} (C0 : zCx p s m args meth c D Y F A RX4 cX4_liveTold 7 none wsX4_liveTold) (i0 : Nat) (s1 : Nat) (hi0 : i0 < 3) (hs1 : s1 < 8) (res : zSt) (K2 : zSt → Int32 → Int32 → Option (zSt)) (hK2 : ∀ (S : zSt) (x2 : Int32) (x3 : Int32), K2 S x2 x3 = some res → ∀ (H : Heap) (locs : List Loc) (ls : Array Slot), zH D Y F A G S H → va_S A s.heap H locs → lv_has ls 7 [(0, .ref (zad F G (60 + 3 * i0))), (1, .ref (zad F G (40 + 2 * s1))), (2, .int x2), (3, .int x3)] → W p l e (zRm 5 115) s m args below meth c H locs 0 0 (MQ below (zQv D Y F A G res) args s 0 0 A) (F0 m 2 ls [])) : ∀ (S : zSt) (x2 : Int32) (x3 : Int32) (x4 : Int32) (x5 : Int32) (y0 : Int32), M_X4_liveTold_B53 (zpk G) i0 s1 K2 S x2 x3 x4 x5 y0 = some res → ∀ (H : Heap) (locs : List Loc) (ls : Array Slot), zH D Y F A G S H → va_S A s.heap H locs → lv_has ls 7 [(0, .ref (zad F G (60 + 3 * i0))), (1, .ref (zad F G (40 + 2 * s1))), (2, .int x2), (3, .int x3), (4, .int x4), (5, .int x5)] → W p l e (zRm 5 115) s m args below meth c H locs 0 0 (MQ below (zQv D Y F A G res) args s 0 0 A) (F0 m 53 ls [.int y0, .ref (zad F G (60 + 3 * i0))]) := by
  obtain ⟨hx, hb, hml, hr, hown, hts, hK, hA, hlk, hN⟩ := id C0
  intro S x2 x3 x4 x5 y0 h H locs ls hw hS hl
  unfold M_X4_liveTold_B53 at h
  obtain ⟨w5, ew5, h⟩ := z_bd h
  refine z_goq C0 hw hS (r0 := w5.map (zpa F G)) (rest := []) (arr := (Value.ref (zad F G (60 + 3 * i0)) :: [.int y0]).toArray) ?_ (fun H locs hw hS => ?_)
  · exact va_runV (z_fix C0) (c_X4_personAt l D Y F G S _ i0 hi0 y0 w5 ew5) (cwV 1 hts gX4_liveTold_X4_personAt rfl rfl rfl (by decide +kernel) ⟨Nat.le_of_ble_eq_true rfl, Nat.le_of_ble_eq_true rfl⟩) ⟨zPc_blind, z_rv C0 hw (k := (60 + 3 * i0)) (zld_E hi0) rfl (zld_B hi0) rfl, z_give C0 hw hS _⟩ rfl rfl hl.1 rfl (lv_room (Nat.le_of_ble_eq_true rfl)) dX4_liveTold_53 ⟨Nat.zero_le _, Nat.zero_le _⟩
  rcases w5 with _ | q6
  · replace h := zm_n h
    refine z_topv (y := .null) rfl ?_
    refine lv_astoreN (lv' := [(6, .null), (0, .ref (zad F G (60 + 3 * i0))), (1, .ref (zad F G (40 + 2 * s1))), (2, .int x2), (3, .int x3), (4, .int x4), (5, .int x5)]) hx hb dX4_liveTold_56 hl (by decide) rfl (fun ls hl => ?_)
    refine lv_aloadN hx hb dX4_liveTold_58 (lv_at hl 0 rfl) ?_
    refine lv_ifnonnullN hx hb dX4_liveTold_60 ?_
    refine lv_goto (tgt := 134) hx hb dX4_liveTold_63 (by decide) ?_
    refine lv_iinc (v := (x3 + 1)) (lv' := [(3, .int ((x3 + 1))), (6, .null), (0, .ref (zad F G (60 + 3 * i0))), (1, .ref (zad F G (40 + 2 * s1))), (2, .int x2), (4, .int x4), (5, .int x5)]) hx hb dX4_liveTold_134 hl (k := 4) rfl rfl (by decide) rfl (fun ls hl => ?_)
    refine lv_goto (tgt := 2) hx hb dX4_liveTold_137 (by decide) ?_
    exact hK2 S x2 ((x3 + 1)) h _ _ _ hw hS (lv_sub hl [2, 3, 4, 0] rfl)
  · replace h := zm_s h
    obtain ⟨bq6, h⟩ := z_gd h
    have hq6 := bq6
    refine z_topv (y := .ref (zad F G (100 + 4 * q6))) rfl ?_
    refine lv_astore (lv' := [(6, .ref (zad F G (100 + 4 * q6))), (0, .ref (zad F G (60 + 3 * i0))), (1, .ref (zad F G (40 + 2 * s1))), (2, .int x2), (3, .int x3), (4, .int x4), (5, .int x5)]) hx hb dX4_liveTold_56 hl (by decide) rfl (fun ls hl => ?_)
    refine lv_aload hx hb dX4_liveTold_58 (lv_at hl 0 rfl) ?_
    refine lv_ifnonnull (tgt := 66) hx hb dX4_liveTold_60 (by decide) ?_
    refine lv_iload hx hb dX4_liveTold_66 (lv_at hl 6 rfl) ?_
    refine lv_if_eq (tgt := 85) hx hb dX4_liveTold_68 (by decide) (fun c7 => ?_) (fun c7 => ?_)
    · replace h := z_ifp c7 h
      refine lv_iload hx hb dX4_liveTold_85 (lv_at hl 5 rfl) ?_
      refine lv_sipush (v := 20000) hx hb dX4_liveTold_87 (by decide) ?_
      refine lv_icmp_lt (tgt := 115) hx hb dX4_liveTold_90 (by decide) (fun c8 => ?_) (fun c8 => ?_)
      · replace h := z_ifp c8 h
        refine lv_aload hx hb dX4_liveTold_115 (lv_at hl 0 rfl) ?_
        refine lv_iload hx hb dX4_liveTold_117 (lv_at hl 5 rfl) ?_
        refine lv_bipush (v := 100) hx hb dX4_liveTold_119 (by decide) ?_
        refine lv_idiv hx hb dX4_liveTold_121 (by decide) ?_
        refine lv_bipush (v := 10) hx hb dX4_liveTold_122 (by decide) ?_
        refine lv_irem hx hb dX4_liveTold_124 (by decide) ?_
        refine lv_iload hx hb dX4_liveTold_125 (lv_at hl 5 rfl) ?_
        refine lv_bipush (v := 100) hx hb dX4_liveTold_127 (by decide) ?_
        refine lv_irem hx hb dX4_liveTold_129 (by decide) ?_
        obtain ⟨w9, ew9, h⟩ := z_bd h
        refine z_goi C0 hw hS (res := w9) (rest := []) (arr := (Value.ref (zad F G (100 + 4 * q6)) :: [.int (((x4 / 100) - (x4 / 100) / 10 * 10)), .int ((x4 - x4 / 100 * 100))]).toArray) ?_ (fun H locs hw hS => ?_)
        · rcases zOK_cases hq6 with zz | zz | zz | zz | zz | zz | zz
          · exact va_runU (z_fix C0) (c_X5_pressWith l D Y F G S _ q6 hq6 (((x4 / 100) - (x4 / 100) / 10 * 10)) ((x4 - x4 / 100 * 100)) w9 ew9) (va_cwU 2 hts gX4_liveTold_X5_pressWith_u121X0 rfl rfl rfl rfl (by decide +kernel) ⟨Nat.le_of_ble_eq_true rfl, Nat.le_of_ble_eq_true rfl⟩) ⟨zPc_blind, z_prec C0 hw hq6 (ci := 0) zz rfl, z_give C0 hw hS _⟩ rfl rfl hl.1 rfl (lv_room (Nat.le_of_ble_eq_true rfl)) dX4_liveTold_130 ⟨Nat.zero_le _, Nat.zero_le _⟩
          · exact va_runU (z_fix C0) (c_X5_pressWith l D Y F G S _ q6 hq6 (((x4 / 100) - (x4 / 100) / 10 * 10)) ((x4 - x4 / 100 * 100)) w9 ew9) (va_cwU 2 hts gX4_liveTold_X5_pressWith_u121X1 rfl rfl rfl rfl (by decide +kernel) ⟨Nat.le_of_ble_eq_true rfl, Nat.le_of_ble_eq_true rfl⟩) ⟨zPc_blind, z_prec C0 hw hq6 (ci := 1) zz rfl, z_give C0 hw hS _⟩ rfl rfl hl.1 rfl (lv_room (Nat.le_of_ble_eq_true rfl)) dX4_liveTold_130 ⟨Nat.zero_le _, Nat.zero_le _⟩
          · exact va_runU (z_fix C0) (c_X5_pressWith l D Y F G S _ q6 hq6 (((x4 / 100) - (x4 / 100) / 10 * 10)) ((x4 - x4 / 100 * 100)) w9 ew9) (va_cwU 2 hts gX4_liveTold_X5_pressWith_u121X2 rfl rfl rfl rfl (by decide +kernel) ⟨Nat.le_of_ble_eq_true rfl, Nat.le_of_ble_eq_true rfl⟩) ⟨zPc_blind, z_prec C0 hw hq6 (ci := 2) zz rfl, z_give C0 hw hS _⟩ rfl rfl hl.1 rfl (lv_room (Nat.le_of_ble_eq_true rfl)) dX4_liveTold_130 ⟨Nat.zero_le _, Nat.zero_le _⟩
          · exact va_runU (z_fix C0) (c_X5_pressWith l D Y F G S _ q6 hq6 (((x4 / 100) - (x4 / 100) / 10 * 10)) ((x4 - x4 / 100 * 100)) w9 ew9) (va_cwU 2 hts gX4_liveTold_X5_pressWith_u121X3 rfl rfl rfl rfl (by decide +kernel) ⟨Nat.le_of_ble_eq_true rfl, Nat.le_of_ble_eq_true rfl⟩) ⟨zPc_blind, z_prec C0 hw hq6 (ci := 3) zz rfl, z_give C0 hw hS _⟩ rfl rfl hl.1 rfl (lv_room (Nat.le_of_ble_eq_true rfl)) dX4_liveTold_130 ⟨Nat.zero_le _, Nat.zero_le _⟩
          · exact va_runV (z_fix C0) (c_X5_pressWith l D Y F G S _ q6 hq6 (((x4 / 100) - (x4 / 100) / 10 * 10)) ((x4 - x4 / 100 * 100)) w9 ew9) (cwV 2 hts gX4_liveTold_X5_pressWith rfl rfl rfl (by decide +kernel) ⟨Nat.le_of_ble_eq_true rfl, Nat.le_of_ble_eq_true rfl⟩) ⟨zPc_blind, z_prec C0 hw hq6 (ci := 5) zz rfl, z_give C0 hw hS _⟩ rfl rfl hl.1 rfl (lv_room (Nat.le_of_ble_eq_true rfl)) dX4_liveTold_130 ⟨Nat.zero_le _, Nat.zero_le _⟩
          · exact va_runU (z_fix C0) (c_X5_pressWith l D Y F G S _ q6 hq6 (((x4 / 100) - (x4 / 100) / 10 * 10)) ((x4 - x4 / 100 * 100)) w9 ew9) (va_cwU 2 hts gX4_liveTold_X5_pressWith_u121X8 rfl rfl rfl rfl (by decide +kernel) ⟨Nat.le_of_ble_eq_true rfl, Nat.le_of_ble_eq_true rfl⟩) ⟨zPc_blind, z_prec C0 hw hq6 (ci := 8) zz rfl, z_give C0 hw hS _⟩ rfl rfl hl.1 rfl (lv_room (Nat.le_of_ble_eq_true rfl)) dX4_liveTold_130 ⟨Nat.zero_le _, Nat.zero_le _⟩
          · exact va_runU (z_fix C0) (c_X5_pressWith l D Y F G S _ q6 hq6 (((x4 / 100) - (x4 / 100) / 10 * 10)) ((x4 - x4 / 100 * 100)) w9 ew9) (va_cwU 2 hts gX4_liveTold_X5_pressWith_u121X10 rfl rfl rfl rfl (by decide +kernel) ⟨Nat.le_of_ble_eq_true rfl, Nat.le_of_ble_eq_true rfl⟩) ⟨zPc_blind, z_prec C0 hw hq6 (ci := 10) zz rfl, z_give C0 hw hS _⟩ rfl rfl hl.1 rfl (lv_room (Nat.le_of_ble_eq_true rfl)) dX4_liveTold_130 ⟨Nat.zero_le _, Nat.zero_le _⟩
        refine lv_pop hx hb dX4_liveTold_133 rfl ?_
        refine lv_iinc (v := (x3 + 1)) (lv' := [(3, .int ((x3 + 1))), (6, .ref (zad F G (100 + 4 * q6))), (0, .ref (zad F G (60 + 3 * i0))), (1, .ref (zad F G (40 + 2 * s1))), (2, .int x2), (4, .int x4), (5, .int x5)]) hx hb dX4_liveTold_134 hl (k := 4) rfl rfl (by decide) rfl (fun ls hl => ?_)
        refine lv_goto (tgt := 2) hx hb dX4_liveTold_137 (by decide) ?_
        exact hK2 w9.2 x2 ((x3 + 1)) h _ _ _ hw hS (lv_sub hl [2, 3, 4, 0] rfl)
      · replace h := z_ifn c8 h
        refine lv_aload hx hb dX4_liveTold_93 (lv_at hl 0 rfl) ?_
        refine lv_iload hx hb dX4_liveTold_95 (lv_at hl 5 rfl) ?_
        refine lv_bipush (v := 100) hx hb dX4_liveTold_97 (by decide) ?_
        refine lv_idiv hx hb dX4_liveTold_99 (by decide) ?_
        refine lv_bipush (v := 10) hx hb dX4_liveTold_100 (by decide) ?_
        refine lv_irem hx hb dX4_liveTold_102 (by decide) ?_
        refine lv_iload hx hb dX4_liveTold_103 (lv_at hl 5 rfl) ?_
        refine lv_bipush (v := 100) hx hb dX4_liveTold_105 (by decide) ?_
        refine lv_irem hx hb dX4_liveTold_107 (by decide) ?_
        obtain ⟨w10, ew10, h⟩ := z_bd h
        refine z_goi C0 hw hS (res := w10) (rest := []) (arr := (Value.ref (zad F G (100 + 4 * q6)) :: [.int (((x4 / 100) - (x4 / 100) / 10 * 10)), .int ((x4 - x4 / 100 * 100))]).toArray) ?_ (fun H locs hw hS => ?_)
        · rcases zOK_cases hq6 with zz | zz | zz | zz | zz | zz | zz
          · exact va_runU (z_fix C0) (c_X5_rubOn l D Y F G S _ q6 hq6 (((x4 / 100) - (x4 / 100) / 10 * 10)) ((x4 - x4 / 100 * 100)) w10 ew10) (va_cwU 2 hts gX4_liveTold_X5_rubOn_u118X0 rfl rfl rfl rfl (by decide +kernel) ⟨Nat.le_of_ble_eq_true rfl, Nat.le_of_ble_eq_true rfl⟩) ⟨zPc_blind, z_prec C0 hw hq6 (ci := 0) zz rfl, z_give C0 hw hS _⟩ rfl rfl hl.1 rfl (lv_room (Nat.le_of_ble_eq_true rfl)) dX4_liveTold_108 ⟨Nat.zero_le _, Nat.zero_le _⟩
          · exact va_runU (z_fix C0) (c_X5_rubOn l D Y F G S _ q6 hq6 (((x4 / 100) - (x4 / 100) / 10 * 10)) ((x4 - x4 / 100 * 100)) w10 ew10) (va_cwU 2 hts gX4_liveTold_X5_rubOn_u118X1 rfl rfl rfl rfl (by decide +kernel) ⟨Nat.le_of_ble_eq_true rfl, Nat.le_of_ble_eq_true rfl⟩) ⟨zPc_blind, z_prec C0 hw hq6 (ci := 1) zz rfl, z_give C0 hw hS _⟩ rfl rfl hl.1 rfl (lv_room (Nat.le_of_ble_eq_true rfl)) dX4_liveTold_108 ⟨Nat.zero_le _, Nat.zero_le _⟩
          · exact va_runU (z_fix C0) (c_X5_rubOn l D Y F G S _ q6 hq6 (((x4 / 100) - (x4 / 100) / 10 * 10)) ((x4 - x4 / 100 * 100)) w10 ew10) (va_cwU 2 hts gX4_liveTold_X5_rubOn_u118X2 rfl rfl rfl rfl (by decide +kernel) ⟨Nat.le_of_ble_eq_true rfl, Nat.le_of_ble_eq_true rfl⟩) ⟨zPc_blind, z_prec C0 hw hq6 (ci := 2) zz rfl, z_give C0 hw hS _⟩ rfl rfl hl.1 rfl (lv_room (Nat.le_of_ble_eq_true rfl)) dX4_liveTold_108 ⟨Nat.zero_le _, Nat.zero_le _⟩
          · exact va_runU (z_fix C0) (c_X5_rubOn l D Y F G S _ q6 hq6 (((x4 / 100) - (x4 / 100) / 10 * 10)) ((x4 - x4 / 100 * 100)) w10 ew10) (va_cwU 2 hts gX4_liveTold_X5_rubOn_u118X3 rfl rfl rfl rfl (by decide +kernel) ⟨Nat.le_of_ble_eq_true rfl, Nat.le_of_ble_eq_true rfl⟩) ⟨zPc_blind, z_prec C0 hw hq6 (ci := 3) zz rfl, z_give C0 hw hS _⟩ rfl rfl hl.1 rfl (lv_room (Nat.le_of_ble_eq_true rfl)) dX4_liveTold_108 ⟨Nat.zero_le _, Nat.zero_le _⟩
          · exact va_runV (z_fix C0) (c_X5_rubOn l D Y F G S _ q6 hq6 (((x4 / 100) - (x4 / 100) / 10 * 10)) ((x4 - x4 / 100 * 100)) w10 ew10) (cwV 2 hts gX4_liveTold_X5_rubOn rfl rfl rfl (by decide +kernel) ⟨Nat.le_of_ble_eq_true rfl, Nat.le_of_ble_eq_true rfl⟩) ⟨zPc_blind, z_prec C0 hw hq6 (ci := 5) zz rfl, z_give C0 hw hS _⟩ rfl rfl hl.1 rfl (lv_room (Nat.le_of_ble_eq_true rfl)) dX4_liveTold_108 ⟨Nat.zero_le _, Nat.zero_le _⟩
          · exact va_runU (z_fix C0) (c_X5_rubOn l D Y F G S _ q6 hq6 (((x4 / 100) - (x4 / 100) / 10 * 10)) ((x4 - x4 / 100 * 100)) w10 ew10) (va_cwU 2 hts gX4_liveTold_X5_rubOn_u118X8 rfl rfl rfl rfl (by decide +kernel) ⟨Nat.le_of_ble_eq_true rfl, Nat.le_of_ble_eq_true rfl⟩) ⟨zPc_blind, z_prec C0 hw hq6 (ci := 8) zz rfl, z_give C0 hw hS _⟩ rfl rfl hl.1 rfl (lv_room (Nat.le_of_ble_eq_true rfl)) dX4_liveTold_108 ⟨Nat.zero_le _, Nat.zero_le _⟩
          · exact va_runU (z_fix C0) (c_X5_rubOn l D Y F G S _ q6 hq6 (((x4 / 100) - (x4 / 100) / 10 * 10)) ((x4 - x4 / 100 * 100)) w10 ew10) (va_cwU 2 hts gX4_liveTold_X5_rubOn_u118X10 rfl rfl rfl rfl (by decide +kernel) ⟨Nat.le_of_ble_eq_true rfl, Nat.le_of_ble_eq_true rfl⟩) ⟨zPc_blind, z_prec C0 hw hq6 (ci := 10) zz rfl, z_give C0 hw hS _⟩ rfl rfl hl.1 rfl (lv_room (Nat.le_of_ble_eq_true rfl)) dX4_liveTold_108 ⟨Nat.zero_le _, Nat.zero_le _⟩
        refine lv_pop hx hb dX4_liveTold_111 rfl ?_
        refine lv_goto (tgt := 134) hx hb dX4_liveTold_112 (by decide) ?_
        refine lv_iinc (v := (x3 + 1)) (lv' := [(3, .int ((x3 + 1))), (6, .ref (zad F G (100 + 4 * q6))), (0, .ref (zad F G (60 + 3 * i0))), (1, .ref (zad F G (40 + 2 * s1))), (2, .int x2), (4, .int x4), (5, .int x5)]) hx hb dX4_liveTold_134 hl (k := 4) rfl rfl (by decide) rfl (fun ls hl => ?_)
        refine lv_goto (tgt := 2) hx hb dX4_liveTold_137 (by decide) ?_
        exact hK2 w10.2 x2 ((x3 + 1)) h _ _ _ hw hS (lv_sub hl [2, 3, 4, 0] rfl)
    · replace h := z_ifn c7 h
      refine lv_aload hx hb dX4_liveTold_71 (lv_at hl 0 rfl) ?_
      refine lv_dup hx hb dX4_liveTold_73 rfl ?_
      refine z_getP C0 inP_X4_liveTold hw hq6 8 (by decide) (v := .int ((zsc S (100 + 4 * q6) 8))) rfl 1 rfl (Or.inl rfl) dX4_liveTold_74 ?_
      refine lv_iconst (v := 1) hx hb dX4_liveTold_77 (by decide) ?_
      refine lv_iadd hx hb dX4_liveTold_78 ?_
      refine z_putP C0 inP_X4_liveTold hw hS hq6 8 (by decide) 1 rfl rfl (v := ((zsc S (100 + 4 * q6) 8) + 1)) dX4_liveTold_79 (fun H locs hw hS => ?_)
      refine lv_goto (tgt := 134) hx hb dX4_liveTold_82 (by decide) ?_
      refine lv_iinc (v := (x3 + 1)) (lv' := [(3, .int ((x3 + 1))), (6, .ref (zad F G (100 + 4 * q6))), (0, .ref (zad F G (60 + 3 * i0))), (1, .ref (zad F G (40 + 2 * s1))), (2, .int x2), (4, .int x4), (5, .int x5)]) hx hb dX4_liveTold_134 hl (k := 4) rfl rfl (by decide) rfl (fun ls hl => ?_)
      refine lv_goto (tgt := 2) hx hb dX4_liveTold_137 (by decide) ?_
      exact hK2 ((zP S ((100 + 4 * q6)) 8 (((zsc S (100 + 4 * q6) 8) + 1)))) x2 ((x3 + 1)) h _ _ _ hw hS (lv_sub hl [2, 3, 4, 0] rfl)
def M_X4_liveTold_B27 (pk : Nat → Nat) (i0 : Nat) (s1 : Nat) (K2 : zSt → Int32 → Int32 → Option (zSt)) (S : zSt) (x2 : Int32) (x3 : Int32) (x4 : Int32) (y0 : Int32) : Option (zSt) :=
  (if y0 = 0 then M_X4_liveTold_B53 pk i0 s1 K2 S x2 x3 x4 y0 (((x4 / 1000) - (x4 / 1000) / 10 * 10)) else M_X4_liveTold_B53 pk i0 s1 K2 S x2 x3 x4 y0 ((x4 - 30000)))
set_option maxHeartbeats 4000000 in
set_option maxRecDepth 100000 in
theorem t_X4_liveTold_B27 {p : Program} {l : Launch} {e : Env} {s : State} {m : MethodId} {args : Array Value} {below : List Frame} {meth : Method} {c : Code} {D : va_G} {Y : Nat → ClassId} {F : Nat → Nat} {A : Nat → Prop} {G : zG} (C0 : zCx p s m args meth c D Y F A RX4 cX4_liveTold 7 none wsX4_liveTold) (i0 : Nat) (s1 : Nat) (hi0 : i0 < 3) (hs1 : s1 < 8) (res : zSt) (K2 : zSt → Int32 → Int32 → Option (zSt)) (hK2 : ∀ (S : zSt) (x2 : Int32) (x3 : Int32), K2 S x2 x3 = some res → ∀ (H : Heap) (locs : List Loc) (ls : Array Slot), zH D Y F A G S H → va_S A s.heap H locs → lv_has ls 7 [(0, .ref (zad F G (60 + 3 * i0))), (1, .ref (zad F G (40 + 2 * s1))), (2, .int x2), (3, .int x3)] → W p l e (zRm 5 115) s m args below meth c H locs 0 0 (MQ below (zQv D Y F A G res) args s 0 0 A) (F0 m 2 ls [])) : ∀ (S : zSt) (x2 : Int32) (x3 : Int32) (x4 : Int32) (y0 : Int32), M_X4_liveTold_B27 (zpk G) i0 s1 K2 S x2 x3 x4 y0 = some res → ∀ (H : Heap) (locs : List Loc) (ls : Array Slot), zH D Y F A G S H → va_S A s.heap H locs → lv_has ls 7 [(0, .ref (zad F G (60 + 3 * i0))), (1, .ref (zad F G (40 + 2 * s1))), (2, .int x2), (3, .int x3), (4, .int x4)] → W p l e (zRm 5 115) s m args below meth c H locs 0 0 (MQ below (zQv D Y F A G res) args s 0 0 A) (F0 m 27 ls [.int y0]) := by
  obtain ⟨hx, hb, hml, hr, hown, hts, hK, hA, hlk, hN⟩ := id C0
  intro S x2 x3 x4 y0 h H locs ls hw hS hl
  unfold M_X4_liveTold_B27 at h
  refine lv_istore (lv' := [(5, .int y0), (0, .ref (zad F G (60 + 3 * i0))), (1, .ref (zad F G (40 + 2 * s1))), (2, .int x2), (3, .int x3), (4, .int x4)]) hx hb dX4_liveTold_27 hl (by decide) rfl (fun ls hl => ?_)
  refine lv_aload_n hx hb dX4_liveTold_29 rfl (lv_at hl 1 rfl) ?_
  refine lv_iload hx hb dX4_liveTold_30 (lv_at hl 0 rfl) ?_
  refine lv_if_eq (tgt := 44) hx hb dX4_liveTold_32 (by decide) (fun c4 => ?_) (fun c4 => ?_)
  · replace h := z_ifp c4 h
    refine lv_iload hx hb dX4_liveTold_44 (lv_at hl 5 rfl) ?_
    refine lv_sipush (v := 1000) hx hb dX4_liveTold_46 (by decide) ?_
    refine lv_idiv hx hb dX4_liveTold_49 (by decide) ?_
    refine lv_bipush (v := 10) hx hb dX4_liveTold_50 (by decide) ?_
    refine lv_irem hx hb dX4_liveTold_52 (by decide) ?_
    exact t_X4_liveTold_B53 C0 i0 s1 hi0 hs1 res K2 hK2 S x2 x3 x4 y0 (((x4 / 1000) - (x4 / 1000) / 10 * 10)) h _ _ _ hw hS (lv_sub hl [1, 2, 3, 4, 5, 0] rfl)
  · replace h := z_ifn c4 h
    refine lv_iload hx hb dX4_liveTold_35 (lv_at hl 5 rfl) ?_
    refine lv_sipush (v := 30000) hx hb dX4_liveTold_37 (by decide) ?_
    refine lv_isub hx hb dX4_liveTold_40 ?_
    refine lv_goto (tgt := 53) hx hb dX4_liveTold_41 (by decide) ?_
    exact t_X4_liveTold_B53 C0 i0 s1 hi0 hs1 res K2 hK2 S x2 x3 x4 y0 ((x4 - 30000)) h _ _ _ hw hS (lv_sub hl [1, 2, 3, 4, 5, 0] rfl)
def M_X4_liveTold_B2 (pk : Nat → Nat) (i0 : Nat) (s1 : Nat) : Nat → zSt → Int32 → Int32 → Option (zSt)
  | 0, _, _, _ => none
  | n + 1, S, x2, x3 =>
  (if x2 ≤ x3 then some S else Option.bind (M_X7_intAt pk S s1 x3) (fun w2 => (if w2 < 30000 then M_X4_liveTold_B27 pk i0 s1 (fun S_ x2_ x3_ => M_X4_liveTold_B2 pk i0 s1 n S_ x2_ x3_) S x2 x3 w2 0 else M_X4_liveTold_B27 pk i0 s1 (fun S_ x2_ x3_ => M_X4_liveTold_B2 pk i0 s1 n S_ x2_ x3_) S x2 x3 w2 1)))
set_option maxHeartbeats 4000000 in
set_option maxRecDepth 100000 in
theorem t_X4_liveTold_B2 {p : Program} {l : Launch} {e : Env} {s : State} {m : MethodId} {args : Array Value} {below : List Frame} {meth : Method} {c : Code} {D : va_G} {Y : Nat → ClassId} {F : Nat → Nat} {A : Nat → Prop} {G : zG} (C0 : zCx p s m args meth c D Y F A RX4 cX4_liveTold 7 none wsX4_liveTold) (i0 : Nat) (s1 : Nat) (hi0 : i0 < 3) (hs1 : s1 < 8) (res : zSt) : ∀ (n : Nat), ∀ (S : zSt) (x2 : Int32) (x3 : Int32), M_X4_liveTold_B2 (zpk G) i0 s1 n S x2 x3 = some res → ∀ (H : Heap) (locs : List Loc) (ls : Array Slot), zH D Y F A G S H → va_S A s.heap H locs → lv_has ls 7 [(0, .ref (zad F G (60 + 3 * i0))), (1, .ref (zad F G (40 + 2 * s1))), (2, .int x2), (3, .int x3)] → W p l e (zRm 5 115) s m args below meth c H locs 0 0 (MQ below (zQv D Y F A G res) args s 0 0 A) (F0 m 2 ls []) := by
  obtain ⟨hx, hb, hml, hr, hown, hts, hK, hA, hlk, hN⟩ := id C0
  intro n
  induction n with
  | zero =>
    intro S x2 x3 h
    unfold M_X4_liveTold_B2 at h
    cases h
  | succ n ih =>
    intro S x2 x3 h H locs ls hw hS hl
    rw [M_X4_liveTold_B2] at h
    refine lv_iload_n hx hb dX4_liveTold_2 rfl (lv_at hl 3 rfl) ?_
    refine lv_iload_n hx hb dX4_liveTold_3 rfl (lv_at hl 2 rfl) ?_
    refine lv_icmp_ge (tgt := 140) hx hb dX4_liveTold_4 (by decide) (fun c1 => ?_) (fun c1 => ?_)
    · replace h := z_ifp c1 h
      exact z_retv C0 hw hS (Option.some.inj h) dX4_liveTold_140
    · replace h := z_ifn c1 h
      refine lv_aload_n hx hb dX4_liveTold_7 rfl (lv_at hl 1 rfl) ?_
      refine lv_iload_n hx hb dX4_liveTold_8 rfl (lv_at hl 3 rfl) ?_
      obtain ⟨w2, ew2, h⟩ := z_bd h
      refine z_goi C0 hw hS (res := (w2, S)) (rest := []) (arr := (Value.ref (zad F G (40 + 2 * s1)) :: [.int x3]).toArray) ?_ (fun H locs hw hS => ?_)
      · exact va_runV (z_fix C0) (c_X7_intAt l D Y F G S _ s1 hs1 x3 w2 ew2) (cwV 1 hts gX4_liveTold_X7_intAt rfl rfl rfl (by decide +kernel) ⟨Nat.le_of_ble_eq_true rfl, Nat.le_of_ble_eq_true rfl⟩) ⟨zPc_blind, z_rv C0 hw (k := (40 + 2 * s1)) (zsh_E hs1) rfl (zsh_B hs1) rfl, z_give C0 hw hS _⟩ rfl rfl hl.1 rfl (lv_room (Nat.le_of_ble_eq_true rfl)) dX4_liveTold_9 ⟨Nat.zero_le _, Nat.zero_le _⟩
      refine lv_istore (lv' := [(4, .int w2), (0, .ref (zad F G (60 + 3 * i0))), (1, .ref (zad F G (40 + 2 * s1))), (2, .int x2), (3, .int x3)]) hx hb dX4_liveTold_12 hl (by decide) rfl (fun ls hl => ?_)
      refine lv_iload hx hb dX4_liveTold_14 (lv_at hl 0 rfl) ?_
      refine lv_sipush (v := 30000) hx hb dX4_liveTold_16 (by decide) ?_
      refine lv_icmp_lt (tgt := 26) hx hb dX4_liveTold_19 (by decide) (fun c3 => ?_) (fun c3 => ?_)
      · replace h := z_ifp c3 h
        refine lv_iconst (v := 0) hx hb dX4_liveTold_26 (by decide) ?_
        exact t_X4_liveTold_B27 C0 i0 s1 hi0 hs1 res (fun S_ x2_ x3_ => M_X4_liveTold_B2 (zpk G) i0 s1 n S_ x2_ x3_) ih S x2 x3 w2 0 h _ _ _ hw hS (lv_sub hl [1, 2, 3, 4, 0] rfl)
      · replace h := z_ifn c3 h
        refine lv_iconst (v := 1) hx hb dX4_liveTold_22 (by decide) ?_
        refine lv_goto (tgt := 27) hx hb dX4_liveTold_23 (by decide) ?_
        exact t_X4_liveTold_B27 C0 i0 s1 hi0 hs1 res (fun S_ x2_ x3_ => M_X4_liveTold_B2 (zpk G) i0 s1 n S_ x2_ x3_) ih S x2 x3 w2 1 h _ _ _ hw hS (lv_sub hl [1, 2, 3, 4, 0] rfl)
def M_X4_liveTold (pk : Nat → Nat) (S : zSt) (i0 : Nat) (s1 : Nat) (x2 : Int32) : Option (zSt) :=
  M_X4_liveTold_B2 pk i0 s1 zF S x2 0
set_option maxHeartbeats 4000000 in
set_option maxRecDepth 100000 in
theorem c_X4_liveTold (l : Launch) (D : va_G) (Y : Nat → ClassId) (F : Nat → Nat) (G : zG) (S : zSt) (sz : Nat) (i0 : Nat) (s1 : Nat) (hi0 : i0 < 3) (hs1 : s1 < 8) (x2 : Int32) (res : zSt) (h : M_X4_liveTold (zpk G) S i0 s1 x2 = some res) : Met l yX4_liveTold wsX4_liveTold (zRm 5 115) (zPc D Y F G S sz [.ref (zad F G (60 + 3 * i0)), .ref (zad F G (40 + 2 * s1)), .int x2]) (zQv D Y F (zAo F G sz) G res) 0 0 (zAo F G sz) := by
  unfold M_X4_liveTold at h
  refine zMet (cc := cX4_liveTold) (maxL := 7) (ret := none) (own := RX4) (by decide +kernel) rfl rfl (Nat.le_of_ble_eq_true rfl) ?_
  intro p e s m args below meth c C0 hin hw hS ls hl
  have hl : lv_has ls 7 [(0, .ref (zad F G (60 + 3 * i0))), (1, .ref (zad F G (40 + 2 * s1))), (2, .int x2)] := hl
  generalize zAo F G sz = A at C0 hw hS ⊢
  obtain ⟨hx, hb, hml, hr, hown, hts, hK, hA, hlk, hN⟩ := id C0
  refine lv_iconst (v := 0) hx hb dX4_liveTold_0 (by decide) ?_
  refine lv_istore_n (lv' := [(3, .int 0), (0, .ref (zad F G (60 + 3 * i0))), (1, .ref (zad F G (40 + 2 * s1))), (2, .int x2)]) hx hb dX4_liveTold_1 rfl hl (by decide) rfl (fun ls hl => ?_)
  exact t_X4_liveTold_B2 C0 i0 s1 hi0 hs1 res zF S x2 0 h _ _ _ hw hS (lv_sub hl [1, 2, 3, 0] rfl)
def M_X4_drawBelow (pk : Nat → Nat) (S : zSt) (i0 : Nat) (x1 : Int32) : Option (Int32 × zSt) :=
  (if 1 ≤ x1 then zg (decide (¬ x1 = 0)) (some (((Int32.toUInt32 ((zsc ((zP S ((60 + 3 * i0)) 5 ((((zsc S (60 + 3 * i0) 5) * 1103515245) + 12345)))) (60 + 3 * i0) 5)) >>> (Int32.toUInt32 16 &&& Int32.toUInt32 31)).toInt32 - (Int32.toUInt32 ((zsc ((zP S ((60 + 3 * i0)) 5 ((((zsc S (60 + 3 * i0) 5) * 1103515245) + 12345)))) (60 + 3 * i0) 5)) >>> (Int32.toUInt32 16 &&& Int32.toUInt32 31)).toInt32 / x1 * x1), (zP S ((60 + 3 * i0)) 5 ((((zsc S (60 + 3 * i0) 5) * 1103515245) + 12345))))) else some (0, (zP S ((60 + 3 * i0)) 5 ((((zsc S (60 + 3 * i0) 5) * 1103515245) + 12345)))))
set_option maxHeartbeats 4000000 in
set_option maxRecDepth 100000 in
theorem c_X4_drawBelow (l : Launch) (D : va_G) (Y : Nat → ClassId) (F : Nat → Nat) (G : zG) (S : zSt) (sz : Nat) (i0 : Nat) (hi0 : i0 < 3) (x1 : Int32) (res : Int32 × zSt) (h : M_X4_drawBelow (zpk G) S i0 x1 = some res) : Met l yX4_drawBelow wsX4_drawBelow (zRm 0 0) (zPc D Y F G S sz [.ref (zad F G (60 + 3 * i0)), .int x1]) (zQi D Y F (zAo F G sz) G res) 0 0 (zAo F G sz) := by
  unfold M_X4_drawBelow at h
  refine zMet (cc := cX4_drawBelow) (maxL := 2) (ret := (some .int)) (own := RX4) (by decide +kernel) rfl rfl (Nat.le_of_ble_eq_true rfl) ?_
  intro p e s m args below meth c C0 hin hw hS ls hl
  have hl : lv_has ls 2 [(0, .ref (zad F G (60 + 3 * i0))), (1, .int x1)] := hl
  generalize zAo F G sz = A at C0 hw hS ⊢
  obtain ⟨hx, hb, hml, hr, hown, hts, hK, hA, hlk, hN⟩ := id C0
  refine lv_aload_n hx hb dX4_drawBelow_0 rfl (lv_at hl 0 rfl) ?_
  refine lv_aload_n hx hb dX4_drawBelow_1 rfl (lv_at hl 0 rfl) ?_
  refine z_getU C0 in_X4_drawBelow_X4 (C := RX4) (T := TX4) (N := 6) hw (k := (60 + 3 * i0)) (ci := 4) (v := .int ((zsc S (60 + 3 * i0) 5))) (zld_E hi0) rfl (zld_B hi0) rfl 5 (by decide) rfl 1 rfl (Or.inl rfl) dX4_drawBelow_2 ?_
  refine lv_ldc (v := 1103515245) hx hb hown (hts _ (List.mem_of_getElem? (i := 2) rfl)) dX4_drawBelow_5 ?_
  refine lv_imul hx hb dX4_drawBelow_7 ?_
  refine lv_sipush (v := 12345) hx hb dX4_drawBelow_8 (by decide) ?_
  refine lv_iadd hx hb dX4_drawBelow_11 ?_
  refine z_putU C0 in_X4_drawBelow_X4 tyX4 tyX4_ok nmX4 (C := RX4) (T := TX4) (N := 6) hw hS (k := (60 + 3 * i0)) (ci := 4) (v := (((zsc S (60 + 3 * i0) 5) * 1103515245) + 12345)) (zld_E hi0) rfl (zld_B hi0) rfl 5 (by decide) 1 rfl rfl rfl rfl (Nat.le_of_ble_eq_true rfl) (zld_P hi0 (by decide)) dX4_drawBelow_12 (fun H locs hw hS => ?_)
  refine lv_iload_n hx hb dX4_drawBelow_15 rfl (lv_at hl 1 rfl) ?_
  refine lv_iconst (v := 1) hx hb dX4_drawBelow_16 (by decide) ?_
  refine lv_icmp_ge (tgt := 24) hx hb dX4_drawBelow_17 (by decide) (fun c1 => ?_) (fun c1 => ?_)
  · replace h := z_ifp c1 h
    refine lv_aload_n hx hb dX4_drawBelow_24 rfl (lv_at hl 0 rfl) ?_
    refine z_getU C0 in_X4_drawBelow_X4 (C := RX4) (T := TX4) (N := 6) hw (k := (60 + 3 * i0)) (ci := 4) (v := .int ((zsc ((zP S ((60 + 3 * i0)) 5 ((((zsc S (60 + 3 * i0) 5) * 1103515245) + 12345)))) (60 + 3 * i0) 5))) (zld_E hi0) rfl (zld_B hi0) rfl 5 (by decide) rfl 1 rfl (Or.inl rfl) dX4_drawBelow_25 ?_
    refine lv_bipush (v := 16) hx hb dX4_drawBelow_28 (by decide) ?_
    refine lv_iushr (v := (Int32.toUInt32 ((zsc ((zP S ((60 + 3 * i0)) 5 ((((zsc S (60 + 3 * i0) 5) * 1103515245) + 12345)))) (60 + 3 * i0) 5)) >>> (Int32.toUInt32 16 &&& Int32.toUInt32 31)).toInt32) hx hb dX4_drawBelow_30 rfl ?_
    refine lv_iload_n hx hb dX4_drawBelow_31 rfl (lv_at hl 1 rfl) ?_
    obtain ⟨b2, h⟩ := z_gd h
    refine lv_irem hx hb dX4_drawBelow_32 (of_decide_eq_true b2) ?_
    exact z_reti C0 hw hS (Option.some.inj h) dX4_drawBelow_33
  · replace h := z_ifn c1 h
    refine lv_iconst (v := 0) hx hb dX4_drawBelow_20 (by decide) ?_
    refine lv_goto (tgt := 33) hx hb dX4_drawBelow_21 (by decide) ?_
    exact z_reti C0 hw hS (Option.some.inj h) dX4_drawBelow_33
def M_X4_liveYear (pk : Nat → Nat) (S : zSt) (i0 : Nat) : Option (zSt) :=
  Option.bind (M_X4_drawBelow pk S i0 ((zsc S (60 + 3 * i0) 3))) (fun w1 => Option.bind (M_X4_personAt pk w1.2 i0 w1.1) (fun w2 => (zm w2 (Option.bind (M_X4_drawBelow pk w1.2 i0 8) (fun w4 => (if 5 ≤ w4.1 then (if 7 ≤ w4.1 then some w4.2 else Option.bind (M_X4_drawBelow pk w4.2 i0 6) (fun w7 => Option.bind (M_X4_drawBelow pk w7.2 i0 8) (fun w8 => some w8.2))) else Option.bind (M_X4_drawBelow pk w4.2 i0 8) (fun w9 => Option.bind (M_X4_drawBelow pk w9.2 i0 60) (fun w10 => some w10.2))))) (fun q3 => zg (zOKb pk q3) (Option.bind (M_X4_drawBelow pk w1.2 i0 8) (fun w11 => (if 5 ≤ w11.1 then (if 7 ≤ w11.1 then Option.bind (M_X5_isGone pk w11.2 q3) (fun w14 => (if w14 = 0 then some ((zP w11.2 ((100 + 4 * q3)) 8 (((zsc w11.2 (100 + 4 * q3) 8) + 1)))) else some w11.2)) else Option.bind (M_X4_drawBelow pk w11.2 i0 6) (fun w16 => Option.bind (M_X4_drawBelow pk w16.2 i0 8) (fun w17 => Option.bind (M_X5_isLeft pk w17.2 q3 w16.1) (fun w18 => (if w18 = 0 then some w17.2 else Option.bind (M_X5_rubOn pk w17.2 q3 w16.1 w17.1) (fun w20 => some w20.2)))))) else Option.bind (M_X4_drawBelow pk w11.2 i0 8) (fun w21 => Option.bind (M_X4_drawBelow pk w21.2 i0 60) (fun w22 => Option.bind (M_X5_isGone pk w22.2 q3) (fun w23 => (if w23 = 0 then Option.bind (M_X5_pressWith pk w22.2 q3 w21.1 (((1 : Int32) + w22.1))) (fun w25 => some w25.2) else some w22.2)))))))))))
set_option maxHeartbeats 4000000 in
set_option maxRecDepth 100000 in
theorem c_X4_liveYear (l : Launch) (D : va_G) (Y : Nat → ClassId) (F : Nat → Nat) (G : zG) (S : zSt) (sz : Nat) (i0 : Nat) (hi0 : i0 < 3) (res : zSt) (h : M_X4_liveYear (zpk G) S i0 = some res) : Met l yX4_liveYear wsX4_liveYear (zRm 5 115) (zPc D Y F G S sz [.ref (zad F G (60 + 3 * i0))]) (zQv D Y F (zAo F G sz) G res) 0 0 (zAo F G sz) := by
  unfold M_X4_liveYear at h
  refine zMet (cc := cX4_liveYear) (maxL := 5) (ret := none) (own := RX4) (by decide +kernel) rfl rfl (Nat.le_of_ble_eq_true rfl) ?_
  intro p e s m args below meth c C0 hin hw hS ls hl
  have hl : lv_has ls 5 [(0, .ref (zad F G (60 + 3 * i0)))] := hl
  generalize zAo F G sz = A at C0 hw hS ⊢
  obtain ⟨hx, hb, hml, hr, hown, hts, hK, hA, hlk, hN⟩ := id C0
  refine lv_aload_n hx hb dX4_liveYear_0 rfl (lv_at hl 0 rfl) ?_
  refine lv_aload_n hx hb dX4_liveYear_1 rfl (lv_at hl 0 rfl) ?_
  refine lv_aload_n hx hb dX4_liveYear_2 rfl (lv_at hl 0 rfl) ?_
  refine z_getU C0 in_X4_liveYear_X4 (C := RX4) (T := TX4) (N := 6) hw (k := (60 + 3 * i0)) (ci := 4) (v := .int ((zsc S (60 + 3 * i0) 3))) (zld_E hi0) rfl (zld_B hi0) rfl 3 (by decide) rfl 1 rfl (Or.inl rfl) dX4_liveYear_3 ?_
  obtain ⟨w1, ew1, h⟩ := z_bd h
  refine z_goi C0 hw hS (res := w1) (rest := [.ref (zad F G (60 + 3 * i0))]) (arr := (Value.ref (zad F G (60 + 3 * i0)) :: [.int ((zsc S (60 + 3 * i0) 3))]).toArray) ?_ (fun H locs hw hS => ?_)
  · exact va_runV (z_fix C0) (c_X4_drawBelow l D Y F G S _ i0 hi0 ((zsc S (60 + 3 * i0) 3)) w1 ew1) (cwV 1 hts gX4_liveYear_X4_drawBelow rfl rfl rfl (by decide +kernel) ⟨Nat.le_of_ble_eq_true rfl, Nat.le_of_ble_eq_true rfl⟩) ⟨zPc_blind, z_rv C0 hw (k := (60 + 3 * i0)) (zld_E hi0) rfl (zld_B hi0) rfl, z_give C0 hw hS _⟩ rfl rfl hl.1 rfl (lv_room (Nat.le_of_ble_eq_true rfl)) dX4_liveYear_6 ⟨Nat.zero_le _, Nat.zero_le _⟩
  obtain ⟨w2, ew2, h⟩ := z_bd h
  refine z_goq C0 hw hS (r0 := w2.map (zpa F G)) (rest := []) (arr := (Value.ref (zad F G (60 + 3 * i0)) :: [.int w1.1]).toArray) ?_ (fun H locs hw hS => ?_)
  · exact va_runV (z_fix C0) (c_X4_personAt l D Y F G w1.2 _ i0 hi0 w1.1 w2 ew2) (cwV 1 hts gX4_liveYear_X4_personAt rfl rfl rfl (by decide +kernel) ⟨Nat.le_of_ble_eq_true rfl, Nat.le_of_ble_eq_true rfl⟩) ⟨zPc_blind, z_rv C0 hw (k := (60 + 3 * i0)) (zld_E hi0) rfl (zld_B hi0) rfl, z_give C0 hw hS _⟩ rfl rfl hl.1 rfl (lv_room (Nat.le_of_ble_eq_true rfl)) dX4_liveYear_9 ⟨Nat.zero_le _, Nat.zero_le _⟩
  rcases w2 with _ | q3
  · replace h := zm_n h
    refine z_topv (y := .null) rfl ?_
    refine lv_astore_nN (lv' := [(1, .null), (0, .ref (zad F G (60 + 3 * i0)))]) hx hb dX4_liveYear_12 rfl hl (by decide) rfl (fun ls hl => ?_)
    refine lv_aload_n hx hb dX4_liveYear_13 rfl (lv_at hl 1 rfl) ?_
    refine lv_bipush (v := 8) hx hb dX4_liveYear_14 (by decide) ?_
    obtain ⟨w4, ew4, h⟩ := z_bd h
    refine z_goi C0 hw hS (res := w4) (rest := []) (arr := (Value.ref (zad F G (60 + 3 * i0)) :: [.int 8]).toArray) ?_ (fun H locs hw hS => ?_)
    · exact va_runV (z_fix C0) (c_X4_drawBelow l D Y F G w1.2 _ i0 hi0 8 w4 ew4) (cwV 1 hts gX4_liveYear_X4_drawBelow rfl rfl rfl (by decide +kernel) ⟨Nat.le_of_ble_eq_true rfl, Nat.le_of_ble_eq_true rfl⟩) ⟨zPc_blind, z_rv C0 hw (k := (60 + 3 * i0)) (zld_E hi0) rfl (zld_B hi0) rfl, z_give C0 hw hS _⟩ rfl rfl hl.1 rfl (lv_room (Nat.le_of_ble_eq_true rfl)) dX4_liveYear_16 ⟨Nat.zero_le _, Nat.zero_le _⟩
    refine lv_istore_n (lv' := [(2, .int w4.1), (1, .null), (0, .ref (zad F G (60 + 3 * i0)))]) hx hb dX4_liveYear_19 rfl hl (by decide) rfl (fun ls hl => ?_)
    refine lv_iload_n hx hb dX4_liveYear_20 rfl (lv_at hl 0 rfl) ?_
    refine lv_iconst (v := 5) hx hb dX4_liveYear_21 (by decide) ?_
    refine lv_icmp_ge (tgt := 64) hx hb dX4_liveYear_22 (by decide) (fun c5 => ?_) (fun c5 => ?_)
    · replace h := z_ifp c5 h
      refine lv_iload_n hx hb dX4_liveYear_64 rfl (lv_at hl 0 rfl) ?_
      refine lv_bipush (v := 7) hx hb dX4_liveYear_65 (by decide) ?_
      refine lv_icmp_ge (tgt := 108) hx hb dX4_liveYear_67 (by decide) (fun c6 => ?_) (fun c6 => ?_)
      · replace h := z_ifp c6 h
        refine lv_aload_nN hx hb dX4_liveYear_108 rfl (lv_at hl 1 rfl) ?_
        refine lv_ifnullN (tgt := 129) hx hb dX4_liveYear_109 (by decide) ?_
        exact z_retv C0 hw hS (Option.some.inj h) dX4_liveYear_129
      · replace h := z_ifn c6 h
        refine lv_aload_n hx hb dX4_liveYear_70 rfl (lv_at hl 2 rfl) ?_
        refine lv_bipush (v := 6) hx hb dX4_liveYear_71 (by decide) ?_
        obtain ⟨w7, ew7, h⟩ := z_bd h
        refine z_goi C0 hw hS (res := w7) (rest := []) (arr := (Value.ref (zad F G (60 + 3 * i0)) :: [.int 6]).toArray) ?_ (fun H locs hw hS => ?_)
        · exact va_runV (z_fix C0) (c_X4_drawBelow l D Y F G w4.2 _ i0 hi0 6 w7 ew7) (cwV 1 hts gX4_liveYear_X4_drawBelow rfl rfl rfl (by decide +kernel) ⟨Nat.le_of_ble_eq_true rfl, Nat.le_of_ble_eq_true rfl⟩) ⟨zPc_blind, z_rv C0 hw (k := (60 + 3 * i0)) (zld_E hi0) rfl (zld_B hi0) rfl, z_give C0 hw hS _⟩ rfl rfl hl.1 rfl (lv_room (Nat.le_of_ble_eq_true rfl)) dX4_liveYear_73 ⟨Nat.zero_le _, Nat.zero_le _⟩
        refine lv_istore_n (lv' := [(3, .int w7.1), (2, .int w4.1), (1, .null), (0, .ref (zad F G (60 + 3 * i0)))]) hx hb dX4_liveYear_76 rfl hl (by decide) rfl (fun ls hl => ?_)
        refine lv_aload_n hx hb dX4_liveYear_77 rfl (lv_at hl 3 rfl) ?_
        refine lv_bipush (v := 8) hx hb dX4_liveYear_78 (by decide) ?_
        obtain ⟨w8, ew8, h⟩ := z_bd h
        refine z_goi C0 hw hS (res := w8) (rest := []) (arr := (Value.ref (zad F G (60 + 3 * i0)) :: [.int 8]).toArray) ?_ (fun H locs hw hS => ?_)
        · exact va_runV (z_fix C0) (c_X4_drawBelow l D Y F G w7.2 _ i0 hi0 8 w8 ew8) (cwV 1 hts gX4_liveYear_X4_drawBelow rfl rfl rfl (by decide +kernel) ⟨Nat.le_of_ble_eq_true rfl, Nat.le_of_ble_eq_true rfl⟩) ⟨zPc_blind, z_rv C0 hw (k := (60 + 3 * i0)) (zld_E hi0) rfl (zld_B hi0) rfl, z_give C0 hw hS _⟩ rfl rfl hl.1 rfl (lv_room (Nat.le_of_ble_eq_true rfl)) dX4_liveYear_80 ⟨Nat.zero_le _, Nat.zero_le _⟩
        refine lv_istore (lv' := [(4, .int w8.1), (3, .int w7.1), (2, .int w4.1), (1, .null), (0, .ref (zad F G (60 + 3 * i0)))]) hx hb dX4_liveYear_83 hl (by decide) rfl (fun ls hl => ?_)
        refine lv_aload_nN hx hb dX4_liveYear_85 rfl (lv_at hl 3 rfl) ?_
        refine lv_ifnullN (tgt := 105) hx hb dX4_liveYear_86 (by decide) ?_
        refine lv_goto (tgt := 129) hx hb dX4_liveYear_105 (by decide) ?_
        exact z_retv C0 hw hS (Option.some.inj h) dX4_liveYear_129
    · replace h := z_ifn c5 h
      refine lv_aload_n hx hb dX4_liveYear_25 rfl (lv_at hl 2 rfl) ?_
      refine lv_bipush (v := 8) hx hb dX4_liveYear_26 (by decide) ?_
      obtain ⟨w9, ew9, h⟩ := z_bd h
      refine z_goi C0 hw hS (res := w9) (rest := []) (arr := (Value.ref (zad F G (60 + 3 * i0)) :: [.int 8]).toArray) ?_ (fun H locs hw hS => ?_)
      · exact va_runV (z_fix C0) (c_X4_drawBelow l D Y F G w4.2 _ i0 hi0 8 w9 ew9) (cwV 1 hts gX4_liveYear_X4_drawBelow rfl rfl rfl (by decide +kernel) ⟨Nat.le_of_ble_eq_true rfl, Nat.le_of_ble_eq_true rfl⟩) ⟨zPc_blind, z_rv C0 hw (k := (60 + 3 * i0)) (zld_E hi0) rfl (zld_B hi0) rfl, z_give C0 hw hS _⟩ rfl rfl hl.1 rfl (lv_room (Nat.le_of_ble_eq_true rfl)) dX4_liveYear_28 ⟨Nat.zero_le _, Nat.zero_le _⟩
      refine lv_istore_n (lv' := [(3, .int w9.1), (2, .int w4.1), (1, .null), (0, .ref (zad F G (60 + 3 * i0)))]) hx hb dX4_liveYear_31 rfl hl (by decide) rfl (fun ls hl => ?_)
      refine lv_iconst (v := 1) hx hb dX4_liveYear_32 (by decide) ?_
      refine lv_aload_n hx hb dX4_liveYear_33 rfl (lv_at hl 3 rfl) ?_
      refine lv_bipush (v := 60) hx hb dX4_liveYear_34 (by decide) ?_
      obtain ⟨w10, ew10, h⟩ := z_bd h
      refine z_goi C0 hw hS (res := w10) (rest := [.int 1]) (arr := (Value.ref (zad F G (60 + 3 * i0)) :: [.int 60]).toArray) ?_ (fun H locs hw hS => ?_)
      · exact va_runV (z_fix C0) (c_X4_drawBelow l D Y F G w9.2 _ i0 hi0 60 w10 ew10) (cwV 1 hts gX4_liveYear_X4_drawBelow rfl rfl rfl (by decide +kernel) ⟨Nat.le_of_ble_eq_true rfl, Nat.le_of_ble_eq_true rfl⟩) ⟨zPc_blind, z_rv C0 hw (k := (60 + 3 * i0)) (zld_E hi0) rfl (zld_B hi0) rfl, z_give C0 hw hS _⟩ rfl rfl hl.1 rfl (lv_room (Nat.le_of_ble_eq_true rfl)) dX4_liveYear_36 ⟨Nat.zero_le _, Nat.zero_le _⟩
      refine lv_iadd hx hb dX4_liveYear_39 ?_
      refine lv_istore (lv' := [(4, .int (((1 : Int32) + w10.1))), (3, .int w9.1), (2, .int w4.1), (1, .null), (0, .ref (zad F G (60 + 3 * i0)))]) hx hb dX4_liveYear_40 hl (by decide) rfl (fun ls hl => ?_)
      refine lv_aload_nN hx hb dX4_liveYear_42 rfl (lv_at hl 3 rfl) ?_
      refine lv_ifnullN (tgt := 61) hx hb dX4_liveYear_43 (by decide) ?_
      refine lv_goto (tgt := 129) hx hb dX4_liveYear_61 (by decide) ?_
      exact z_retv C0 hw hS (Option.some.inj h) dX4_liveYear_129
  · replace h := zm_s h
    obtain ⟨bq3, h⟩ := z_gd h
    have hq3 := bq3
    refine z_topv (y := .ref (zad F G (100 + 4 * q3))) rfl ?_
    refine lv_astore_n (lv' := [(1, .ref (zad F G (100 + 4 * q3))), (0, .ref (zad F G (60 + 3 * i0)))]) hx hb dX4_liveYear_12 rfl hl (by decide) rfl (fun ls hl => ?_)
    refine lv_aload_n hx hb dX4_liveYear_13 rfl (lv_at hl 1 rfl) ?_
    refine lv_bipush (v := 8) hx hb dX4_liveYear_14 (by decide) ?_
    obtain ⟨w11, ew11, h⟩ := z_bd h
    refine z_goi C0 hw hS (res := w11) (rest := []) (arr := (Value.ref (zad F G (60 + 3 * i0)) :: [.int 8]).toArray) ?_ (fun H locs hw hS => ?_)
    · exact va_runV (z_fix C0) (c_X4_drawBelow l D Y F G w1.2 _ i0 hi0 8 w11 ew11) (cwV 1 hts gX4_liveYear_X4_drawBelow rfl rfl rfl (by decide +kernel) ⟨Nat.le_of_ble_eq_true rfl, Nat.le_of_ble_eq_true rfl⟩) ⟨zPc_blind, z_rv C0 hw (k := (60 + 3 * i0)) (zld_E hi0) rfl (zld_B hi0) rfl, z_give C0 hw hS _⟩ rfl rfl hl.1 rfl (lv_room (Nat.le_of_ble_eq_true rfl)) dX4_liveYear_16 ⟨Nat.zero_le _, Nat.zero_le _⟩
    refine lv_istore_n (lv' := [(2, .int w11.1), (1, .ref (zad F G (100 + 4 * q3))), (0, .ref (zad F G (60 + 3 * i0)))]) hx hb dX4_liveYear_19 rfl hl (by decide) rfl (fun ls hl => ?_)
    refine lv_iload_n hx hb dX4_liveYear_20 rfl (lv_at hl 0 rfl) ?_
    refine lv_iconst (v := 5) hx hb dX4_liveYear_21 (by decide) ?_
    refine lv_icmp_ge (tgt := 64) hx hb dX4_liveYear_22 (by decide) (fun c12 => ?_) (fun c12 => ?_)
    · replace h := z_ifp c12 h
      refine lv_iload_n hx hb dX4_liveYear_64 rfl (lv_at hl 0 rfl) ?_
      refine lv_bipush (v := 7) hx hb dX4_liveYear_65 (by decide) ?_
      refine lv_icmp_ge (tgt := 108) hx hb dX4_liveYear_67 (by decide) (fun c13 => ?_) (fun c13 => ?_)
      · replace h := z_ifp c13 h
        refine lv_aload_n hx hb dX4_liveYear_108 rfl (lv_at hl 1 rfl) ?_
        refine lv_ifnull hx hb dX4_liveYear_109 ?_
        refine lv_aload_n hx hb dX4_liveYear_112 rfl (lv_at hl 1 rfl) ?_
        obtain ⟨w14, ew14, h⟩ := z_bd h
        refine z_goi C0 hw hS (res := (w14, w11.2)) (rest := []) (arr := (Value.ref (zad F G (100 + 4 * q3)) :: []).toArray) ?_ (fun H locs hw hS => ?_)
        · rcases zOK_cases hq3 with zz | zz | zz | zz | zz | zz | zz
          · exact va_runU (z_fix C0) (c_X5_isGone l D Y F G w11.2 _ q3 hq3 w14 ew14) (va_cwU 0 hts gX4_liveYear_X5_isGone_u128X0 rfl rfl rfl rfl (by decide +kernel) ⟨Nat.le_of_ble_eq_true rfl, Nat.le_of_ble_eq_true rfl⟩) ⟨zPc_blind, z_prec C0 hw hq3 (ci := 0) zz rfl, z_give C0 hw hS _⟩ rfl rfl hl.1 rfl (lv_room (Nat.le_of_ble_eq_true rfl)) dX4_liveYear_113 ⟨Nat.zero_le _, Nat.zero_le _⟩
          · exact va_runU (z_fix C0) (c_X5_isGone l D Y F G w11.2 _ q3 hq3 w14 ew14) (va_cwU 0 hts gX4_liveYear_X5_isGone_u128X1 rfl rfl rfl rfl (by decide +kernel) ⟨Nat.le_of_ble_eq_true rfl, Nat.le_of_ble_eq_true rfl⟩) ⟨zPc_blind, z_prec C0 hw hq3 (ci := 1) zz rfl, z_give C0 hw hS _⟩ rfl rfl hl.1 rfl (lv_room (Nat.le_of_ble_eq_true rfl)) dX4_liveYear_113 ⟨Nat.zero_le _, Nat.zero_le _⟩
          · exact va_runU (z_fix C0) (c_X5_isGone l D Y F G w11.2 _ q3 hq3 w14 ew14) (va_cwU 0 hts gX4_liveYear_X5_isGone_u128X2 rfl rfl rfl rfl (by decide +kernel) ⟨Nat.le_of_ble_eq_true rfl, Nat.le_of_ble_eq_true rfl⟩) ⟨zPc_blind, z_prec C0 hw hq3 (ci := 2) zz rfl, z_give C0 hw hS _⟩ rfl rfl hl.1 rfl (lv_room (Nat.le_of_ble_eq_true rfl)) dX4_liveYear_113 ⟨Nat.zero_le _, Nat.zero_le _⟩
          · exact va_runU (z_fix C0) (c_X5_isGone l D Y F G w11.2 _ q3 hq3 w14 ew14) (va_cwU 0 hts gX4_liveYear_X5_isGone_u128X3 rfl rfl rfl rfl (by decide +kernel) ⟨Nat.le_of_ble_eq_true rfl, Nat.le_of_ble_eq_true rfl⟩) ⟨zPc_blind, z_prec C0 hw hq3 (ci := 3) zz rfl, z_give C0 hw hS _⟩ rfl rfl hl.1 rfl (lv_room (Nat.le_of_ble_eq_true rfl)) dX4_liveYear_113 ⟨Nat.zero_le _, Nat.zero_le _⟩
          · exact va_runV (z_fix C0) (c_X5_isGone l D Y F G w11.2 _ q3 hq3 w14 ew14) (cwV 0 hts gX4_liveYear_X5_isGone rfl rfl rfl (by decide +kernel) ⟨Nat.le_of_ble_eq_true rfl, Nat.le_of_ble_eq_true rfl⟩) ⟨zPc_blind, z_prec C0 hw hq3 (ci := 5) zz rfl, z_give C0 hw hS _⟩ rfl rfl hl.1 rfl (lv_room (Nat.le_of_ble_eq_true rfl)) dX4_liveYear_113 ⟨Nat.zero_le _, Nat.zero_le _⟩
          · exact va_runU (z_fix C0) (c_X5_isGone l D Y F G w11.2 _ q3 hq3 w14 ew14) (va_cwU 0 hts gX4_liveYear_X5_isGone_u128X8 rfl rfl rfl rfl (by decide +kernel) ⟨Nat.le_of_ble_eq_true rfl, Nat.le_of_ble_eq_true rfl⟩) ⟨zPc_blind, z_prec C0 hw hq3 (ci := 8) zz rfl, z_give C0 hw hS _⟩ rfl rfl hl.1 rfl (lv_room (Nat.le_of_ble_eq_true rfl)) dX4_liveYear_113 ⟨Nat.zero_le _, Nat.zero_le _⟩
          · exact va_runU (z_fix C0) (c_X5_isGone l D Y F G w11.2 _ q3 hq3 w14 ew14) (va_cwU 0 hts gX4_liveYear_X5_isGone_u128X10 rfl rfl rfl rfl (by decide +kernel) ⟨Nat.le_of_ble_eq_true rfl, Nat.le_of_ble_eq_true rfl⟩) ⟨zPc_blind, z_prec C0 hw hq3 (ci := 10) zz rfl, z_give C0 hw hS _⟩ rfl rfl hl.1 rfl (lv_room (Nat.le_of_ble_eq_true rfl)) dX4_liveYear_113 ⟨Nat.zero_le _, Nat.zero_le _⟩
        refine lv_if_ne (tgt := 129) hx hb dX4_liveYear_116 (by decide) (fun c15 => ?_) (fun c15 => ?_)
        · replace h := z_ifn c15 h
          exact z_retv C0 hw hS (Option.some.inj h) dX4_liveYear_129
        · replace h := z_ifp c15 h
          refine lv_aload_n hx hb dX4_liveYear_119 rfl (lv_at hl 1 rfl) ?_
          refine lv_dup hx hb dX4_liveYear_120 rfl ?_
          refine z_getP C0 inP_X4_liveYear hw hq3 8 (by decide) (v := .int ((zsc w11.2 (100 + 4 * q3) 8))) rfl 2 rfl (Or.inl rfl) dX4_liveYear_121 ?_
          refine lv_iconst (v := 1) hx hb dX4_liveYear_124 (by decide) ?_
          refine lv_iadd hx hb dX4_liveYear_125 ?_
          refine z_putP C0 inP_X4_liveYear hw hS hq3 8 (by decide) 2 rfl rfl (v := ((zsc w11.2 (100 + 4 * q3) 8) + 1)) dX4_liveYear_126 (fun H locs hw hS => ?_)
          exact z_retv C0 hw hS (Option.some.inj h) dX4_liveYear_129
      · replace h := z_ifn c13 h
        refine lv_aload_n hx hb dX4_liveYear_70 rfl (lv_at hl 2 rfl) ?_
        refine lv_bipush (v := 6) hx hb dX4_liveYear_71 (by decide) ?_
        obtain ⟨w16, ew16, h⟩ := z_bd h
        refine z_goi C0 hw hS (res := w16) (rest := []) (arr := (Value.ref (zad F G (60 + 3 * i0)) :: [.int 6]).toArray) ?_ (fun H locs hw hS => ?_)
        · exact va_runV (z_fix C0) (c_X4_drawBelow l D Y F G w11.2 _ i0 hi0 6 w16 ew16) (cwV 1 hts gX4_liveYear_X4_drawBelow rfl rfl rfl (by decide +kernel) ⟨Nat.le_of_ble_eq_true rfl, Nat.le_of_ble_eq_true rfl⟩) ⟨zPc_blind, z_rv C0 hw (k := (60 + 3 * i0)) (zld_E hi0) rfl (zld_B hi0) rfl, z_give C0 hw hS _⟩ rfl rfl hl.1 rfl (lv_room (Nat.le_of_ble_eq_true rfl)) dX4_liveYear_73 ⟨Nat.zero_le _, Nat.zero_le _⟩
        refine lv_istore_n (lv' := [(3, .int w16.1), (2, .int w11.1), (1, .ref (zad F G (100 + 4 * q3))), (0, .ref (zad F G (60 + 3 * i0)))]) hx hb dX4_liveYear_76 rfl hl (by decide) rfl (fun ls hl => ?_)
        refine lv_aload_n hx hb dX4_liveYear_77 rfl (lv_at hl 3 rfl) ?_
        refine lv_bipush (v := 8) hx hb dX4_liveYear_78 (by decide) ?_
        obtain ⟨w17, ew17, h⟩ := z_bd h
        refine z_goi C0 hw hS (res := w17) (rest := []) (arr := (Value.ref (zad F G (60 + 3 * i0)) :: [.int 8]).toArray) ?_ (fun H locs hw hS => ?_)
        · exact va_runV (z_fix C0) (c_X4_drawBelow l D Y F G w16.2 _ i0 hi0 8 w17 ew17) (cwV 1 hts gX4_liveYear_X4_drawBelow rfl rfl rfl (by decide +kernel) ⟨Nat.le_of_ble_eq_true rfl, Nat.le_of_ble_eq_true rfl⟩) ⟨zPc_blind, z_rv C0 hw (k := (60 + 3 * i0)) (zld_E hi0) rfl (zld_B hi0) rfl, z_give C0 hw hS _⟩ rfl rfl hl.1 rfl (lv_room (Nat.le_of_ble_eq_true rfl)) dX4_liveYear_80 ⟨Nat.zero_le _, Nat.zero_le _⟩
        refine lv_istore (lv' := [(4, .int w17.1), (3, .int w16.1), (2, .int w11.1), (1, .ref (zad F G (100 + 4 * q3))), (0, .ref (zad F G (60 + 3 * i0)))]) hx hb dX4_liveYear_83 hl (by decide) rfl (fun ls hl => ?_)
        refine lv_aload_n hx hb dX4_liveYear_85 rfl (lv_at hl 3 rfl) ?_
        refine lv_ifnull hx hb dX4_liveYear_86 ?_
        refine lv_aload_n hx hb dX4_liveYear_89 rfl (lv_at hl 3 rfl) ?_
        refine lv_iload_n hx hb dX4_liveYear_90 rfl (lv_at hl 1 rfl) ?_
        obtain ⟨w18, ew18, h⟩ := z_bd h
        refine z_goi C0 hw hS (res := (w18, w17.2)) (rest := []) (arr := (Value.ref (zad F G (100 + 4 * q3)) :: [.int w16.1]).toArray) ?_ (fun H locs hw hS => ?_)
        · rcases zOK_cases hq3 with zz | zz | zz | zz | zz | zz | zz
          · exact va_runU (z_fix C0) (c_X5_isLeft l D Y F G w17.2 _ q3 hq3 w16.1 w18 ew18) (va_cwU 1 hts gX4_liveYear_X5_isLeft_u92X0 rfl rfl rfl rfl (by decide +kernel) ⟨Nat.le_of_ble_eq_true rfl, Nat.le_of_ble_eq_true rfl⟩) ⟨zPc_blind, z_prec C0 hw hq3 (ci := 0) zz rfl, z_give C0 hw hS _⟩ rfl rfl hl.1 rfl (lv_room (Nat.le_of_ble_eq_true rfl)) dX4_liveYear_91 ⟨Nat.zero_le _, Nat.zero_le _⟩
          · exact va_runU (z_fix C0) (c_X5_isLeft l D Y F G w17.2 _ q3 hq3 w16.1 w18 ew18) (va_cwU 1 hts gX4_liveYear_X5_isLeft_u92X1 rfl rfl rfl rfl (by decide +kernel) ⟨Nat.le_of_ble_eq_true rfl, Nat.le_of_ble_eq_true rfl⟩) ⟨zPc_blind, z_prec C0 hw hq3 (ci := 1) zz rfl, z_give C0 hw hS _⟩ rfl rfl hl.1 rfl (lv_room (Nat.le_of_ble_eq_true rfl)) dX4_liveYear_91 ⟨Nat.zero_le _, Nat.zero_le _⟩
          · exact va_runU (z_fix C0) (c_X5_isLeft l D Y F G w17.2 _ q3 hq3 w16.1 w18 ew18) (va_cwU 1 hts gX4_liveYear_X5_isLeft_u92X2 rfl rfl rfl rfl (by decide +kernel) ⟨Nat.le_of_ble_eq_true rfl, Nat.le_of_ble_eq_true rfl⟩) ⟨zPc_blind, z_prec C0 hw hq3 (ci := 2) zz rfl, z_give C0 hw hS _⟩ rfl rfl hl.1 rfl (lv_room (Nat.le_of_ble_eq_true rfl)) dX4_liveYear_91 ⟨Nat.zero_le _, Nat.zero_le _⟩
          · exact va_runU (z_fix C0) (c_X5_isLeft l D Y F G w17.2 _ q3 hq3 w16.1 w18 ew18) (va_cwU 1 hts gX4_liveYear_X5_isLeft_u92X3 rfl rfl rfl rfl (by decide +kernel) ⟨Nat.le_of_ble_eq_true rfl, Nat.le_of_ble_eq_true rfl⟩) ⟨zPc_blind, z_prec C0 hw hq3 (ci := 3) zz rfl, z_give C0 hw hS _⟩ rfl rfl hl.1 rfl (lv_room (Nat.le_of_ble_eq_true rfl)) dX4_liveYear_91 ⟨Nat.zero_le _, Nat.zero_le _⟩
          · exact va_runV (z_fix C0) (c_X5_isLeft l D Y F G w17.2 _ q3 hq3 w16.1 w18 ew18) (cwV 1 hts gX4_liveYear_X5_isLeft rfl rfl rfl (by decide +kernel) ⟨Nat.le_of_ble_eq_true rfl, Nat.le_of_ble_eq_true rfl⟩) ⟨zPc_blind, z_prec C0 hw hq3 (ci := 5) zz rfl, z_give C0 hw hS _⟩ rfl rfl hl.1 rfl (lv_room (Nat.le_of_ble_eq_true rfl)) dX4_liveYear_91 ⟨Nat.zero_le _, Nat.zero_le _⟩
          · exact va_runU (z_fix C0) (c_X5_isLeft l D Y F G w17.2 _ q3 hq3 w16.1 w18 ew18) (va_cwU 1 hts gX4_liveYear_X5_isLeft_u92X8 rfl rfl rfl rfl (by decide +kernel) ⟨Nat.le_of_ble_eq_true rfl, Nat.le_of_ble_eq_true rfl⟩) ⟨zPc_blind, z_prec C0 hw hq3 (ci := 8) zz rfl, z_give C0 hw hS _⟩ rfl rfl hl.1 rfl (lv_room (Nat.le_of_ble_eq_true rfl)) dX4_liveYear_91 ⟨Nat.zero_le _, Nat.zero_le _⟩
          · exact va_runU (z_fix C0) (c_X5_isLeft l D Y F G w17.2 _ q3 hq3 w16.1 w18 ew18) (va_cwU 1 hts gX4_liveYear_X5_isLeft_u92X10 rfl rfl rfl rfl (by decide +kernel) ⟨Nat.le_of_ble_eq_true rfl, Nat.le_of_ble_eq_true rfl⟩) ⟨zPc_blind, z_prec C0 hw hq3 (ci := 10) zz rfl, z_give C0 hw hS _⟩ rfl rfl hl.1 rfl (lv_room (Nat.le_of_ble_eq_true rfl)) dX4_liveYear_91 ⟨Nat.zero_le _, Nat.zero_le _⟩
        refine lv_if_eq (tgt := 105) hx hb dX4_liveYear_94 (by decide) (fun c19 => ?_) (fun c19 => ?_)
        · replace h := z_ifp c19 h
          refine lv_goto (tgt := 129) hx hb dX4_liveYear_105 (by decide) ?_
          exact z_retv C0 hw hS (Option.some.inj h) dX4_liveYear_129
        · replace h := z_ifn c19 h
          refine lv_aload_n hx hb dX4_liveYear_97 rfl (lv_at hl 3 rfl) ?_
          refine lv_iload_n hx hb dX4_liveYear_98 rfl (lv_at hl 1 rfl) ?_
          refine lv_iload hx hb dX4_liveYear_99 (lv_at hl 0 rfl) ?_
          obtain ⟨w20, ew20, h⟩ := z_bd h
          refine z_goi C0 hw hS (res := w20) (rest := []) (arr := (Value.ref (zad F G (100 + 4 * q3)) :: [.int w16.1, .int w17.1]).toArray) ?_ (fun H locs hw hS => ?_)
          · rcases zOK_cases hq3 with zz | zz | zz | zz | zz | zz | zz
            · exact va_runU (z_fix C0) (c_X5_rubOn l D Y F G w17.2 _ q3 hq3 w16.1 w17.1 w20 ew20) (va_cwU 2 hts gX4_liveYear_X5_rubOn_u118X0 rfl rfl rfl rfl (by decide +kernel) ⟨Nat.le_of_ble_eq_true rfl, Nat.le_of_ble_eq_true rfl⟩) ⟨zPc_blind, z_prec C0 hw hq3 (ci := 0) zz rfl, z_give C0 hw hS _⟩ rfl rfl hl.1 rfl (lv_room (Nat.le_of_ble_eq_true rfl)) dX4_liveYear_101 ⟨Nat.zero_le _, Nat.zero_le _⟩
            · exact va_runU (z_fix C0) (c_X5_rubOn l D Y F G w17.2 _ q3 hq3 w16.1 w17.1 w20 ew20) (va_cwU 2 hts gX4_liveYear_X5_rubOn_u118X1 rfl rfl rfl rfl (by decide +kernel) ⟨Nat.le_of_ble_eq_true rfl, Nat.le_of_ble_eq_true rfl⟩) ⟨zPc_blind, z_prec C0 hw hq3 (ci := 1) zz rfl, z_give C0 hw hS _⟩ rfl rfl hl.1 rfl (lv_room (Nat.le_of_ble_eq_true rfl)) dX4_liveYear_101 ⟨Nat.zero_le _, Nat.zero_le _⟩
            · exact va_runU (z_fix C0) (c_X5_rubOn l D Y F G w17.2 _ q3 hq3 w16.1 w17.1 w20 ew20) (va_cwU 2 hts gX4_liveYear_X5_rubOn_u118X2 rfl rfl rfl rfl (by decide +kernel) ⟨Nat.le_of_ble_eq_true rfl, Nat.le_of_ble_eq_true rfl⟩) ⟨zPc_blind, z_prec C0 hw hq3 (ci := 2) zz rfl, z_give C0 hw hS _⟩ rfl rfl hl.1 rfl (lv_room (Nat.le_of_ble_eq_true rfl)) dX4_liveYear_101 ⟨Nat.zero_le _, Nat.zero_le _⟩
            · exact va_runU (z_fix C0) (c_X5_rubOn l D Y F G w17.2 _ q3 hq3 w16.1 w17.1 w20 ew20) (va_cwU 2 hts gX4_liveYear_X5_rubOn_u118X3 rfl rfl rfl rfl (by decide +kernel) ⟨Nat.le_of_ble_eq_true rfl, Nat.le_of_ble_eq_true rfl⟩) ⟨zPc_blind, z_prec C0 hw hq3 (ci := 3) zz rfl, z_give C0 hw hS _⟩ rfl rfl hl.1 rfl (lv_room (Nat.le_of_ble_eq_true rfl)) dX4_liveYear_101 ⟨Nat.zero_le _, Nat.zero_le _⟩
            · exact va_runV (z_fix C0) (c_X5_rubOn l D Y F G w17.2 _ q3 hq3 w16.1 w17.1 w20 ew20) (cwV 2 hts gX4_liveYear_X5_rubOn rfl rfl rfl (by decide +kernel) ⟨Nat.le_of_ble_eq_true rfl, Nat.le_of_ble_eq_true rfl⟩) ⟨zPc_blind, z_prec C0 hw hq3 (ci := 5) zz rfl, z_give C0 hw hS _⟩ rfl rfl hl.1 rfl (lv_room (Nat.le_of_ble_eq_true rfl)) dX4_liveYear_101 ⟨Nat.zero_le _, Nat.zero_le _⟩
            · exact va_runU (z_fix C0) (c_X5_rubOn l D Y F G w17.2 _ q3 hq3 w16.1 w17.1 w20 ew20) (va_cwU 2 hts gX4_liveYear_X5_rubOn_u118X8 rfl rfl rfl rfl (by decide +kernel) ⟨Nat.le_of_ble_eq_true rfl, Nat.le_of_ble_eq_true rfl⟩) ⟨zPc_blind, z_prec C0 hw hq3 (ci := 8) zz rfl, z_give C0 hw hS _⟩ rfl rfl hl.1 rfl (lv_room (Nat.le_of_ble_eq_true rfl)) dX4_liveYear_101 ⟨Nat.zero_le _, Nat.zero_le _⟩
            · exact va_runU (z_fix C0) (c_X5_rubOn l D Y F G w17.2 _ q3 hq3 w16.1 w17.1 w20 ew20) (va_cwU 2 hts gX4_liveYear_X5_rubOn_u118X10 rfl rfl rfl rfl (by decide +kernel) ⟨Nat.le_of_ble_eq_true rfl, Nat.le_of_ble_eq_true rfl⟩) ⟨zPc_blind, z_prec C0 hw hq3 (ci := 10) zz rfl, z_give C0 hw hS _⟩ rfl rfl hl.1 rfl (lv_room (Nat.le_of_ble_eq_true rfl)) dX4_liveYear_101 ⟨Nat.zero_le _, Nat.zero_le _⟩
          refine lv_pop hx hb dX4_liveYear_104 rfl ?_
          refine lv_goto (tgt := 129) hx hb dX4_liveYear_105 (by decide) ?_
          exact z_retv C0 hw hS (Option.some.inj h) dX4_liveYear_129
    · replace h := z_ifn c12 h
      refine lv_aload_n hx hb dX4_liveYear_25 rfl (lv_at hl 2 rfl) ?_
      refine lv_bipush (v := 8) hx hb dX4_liveYear_26 (by decide) ?_
      obtain ⟨w21, ew21, h⟩ := z_bd h
      refine z_goi C0 hw hS (res := w21) (rest := []) (arr := (Value.ref (zad F G (60 + 3 * i0)) :: [.int 8]).toArray) ?_ (fun H locs hw hS => ?_)
      · exact va_runV (z_fix C0) (c_X4_drawBelow l D Y F G w11.2 _ i0 hi0 8 w21 ew21) (cwV 1 hts gX4_liveYear_X4_drawBelow rfl rfl rfl (by decide +kernel) ⟨Nat.le_of_ble_eq_true rfl, Nat.le_of_ble_eq_true rfl⟩) ⟨zPc_blind, z_rv C0 hw (k := (60 + 3 * i0)) (zld_E hi0) rfl (zld_B hi0) rfl, z_give C0 hw hS _⟩ rfl rfl hl.1 rfl (lv_room (Nat.le_of_ble_eq_true rfl)) dX4_liveYear_28 ⟨Nat.zero_le _, Nat.zero_le _⟩
      refine lv_istore_n (lv' := [(3, .int w21.1), (2, .int w11.1), (1, .ref (zad F G (100 + 4 * q3))), (0, .ref (zad F G (60 + 3 * i0)))]) hx hb dX4_liveYear_31 rfl hl (by decide) rfl (fun ls hl => ?_)
      refine lv_iconst (v := 1) hx hb dX4_liveYear_32 (by decide) ?_
      refine lv_aload_n hx hb dX4_liveYear_33 rfl (lv_at hl 3 rfl) ?_
      refine lv_bipush (v := 60) hx hb dX4_liveYear_34 (by decide) ?_
      obtain ⟨w22, ew22, h⟩ := z_bd h
      refine z_goi C0 hw hS (res := w22) (rest := [.int 1]) (arr := (Value.ref (zad F G (60 + 3 * i0)) :: [.int 60]).toArray) ?_ (fun H locs hw hS => ?_)
      · exact va_runV (z_fix C0) (c_X4_drawBelow l D Y F G w21.2 _ i0 hi0 60 w22 ew22) (cwV 1 hts gX4_liveYear_X4_drawBelow rfl rfl rfl (by decide +kernel) ⟨Nat.le_of_ble_eq_true rfl, Nat.le_of_ble_eq_true rfl⟩) ⟨zPc_blind, z_rv C0 hw (k := (60 + 3 * i0)) (zld_E hi0) rfl (zld_B hi0) rfl, z_give C0 hw hS _⟩ rfl rfl hl.1 rfl (lv_room (Nat.le_of_ble_eq_true rfl)) dX4_liveYear_36 ⟨Nat.zero_le _, Nat.zero_le _⟩
      refine lv_iadd hx hb dX4_liveYear_39 ?_
      refine lv_istore (lv' := [(4, .int (((1 : Int32) + w22.1))), (3, .int w21.1), (2, .int w11.1), (1, .ref (zad F G (100 + 4 * q3))), (0, .ref (zad F G (60 + 3 * i0)))]) hx hb dX4_liveYear_40 hl (by decide) rfl (fun ls hl => ?_)
      refine lv_aload_n hx hb dX4_liveYear_42 rfl (lv_at hl 3 rfl) ?_
      refine lv_ifnull hx hb dX4_liveYear_43 ?_
      refine lv_aload_n hx hb dX4_liveYear_46 rfl (lv_at hl 3 rfl) ?_
      obtain ⟨w23, ew23, h⟩ := z_bd h
      refine z_goi C0 hw hS (res := (w23, w22.2)) (rest := []) (arr := (Value.ref (zad F G (100 + 4 * q3)) :: []).toArray) ?_ (fun H locs hw hS => ?_)
      · rcases zOK_cases hq3 with zz | zz | zz | zz | zz | zz | zz
        · exact va_runU (z_fix C0) (c_X5_isGone l D Y F G w22.2 _ q3 hq3 w23 ew23) (va_cwU 0 hts gX4_liveYear_X5_isGone_u128X0 rfl rfl rfl rfl (by decide +kernel) ⟨Nat.le_of_ble_eq_true rfl, Nat.le_of_ble_eq_true rfl⟩) ⟨zPc_blind, z_prec C0 hw hq3 (ci := 0) zz rfl, z_give C0 hw hS _⟩ rfl rfl hl.1 rfl (lv_room (Nat.le_of_ble_eq_true rfl)) dX4_liveYear_47 ⟨Nat.zero_le _, Nat.zero_le _⟩
        · exact va_runU (z_fix C0) (c_X5_isGone l D Y F G w22.2 _ q3 hq3 w23 ew23) (va_cwU 0 hts gX4_liveYear_X5_isGone_u128X1 rfl rfl rfl rfl (by decide +kernel) ⟨Nat.le_of_ble_eq_true rfl, Nat.le_of_ble_eq_true rfl⟩) ⟨zPc_blind, z_prec C0 hw hq3 (ci := 1) zz rfl, z_give C0 hw hS _⟩ rfl rfl hl.1 rfl (lv_room (Nat.le_of_ble_eq_true rfl)) dX4_liveYear_47 ⟨Nat.zero_le _, Nat.zero_le _⟩
        · exact va_runU (z_fix C0) (c_X5_isGone l D Y F G w22.2 _ q3 hq3 w23 ew23) (va_cwU 0 hts gX4_liveYear_X5_isGone_u128X2 rfl rfl rfl rfl (by decide +kernel) ⟨Nat.le_of_ble_eq_true rfl, Nat.le_of_ble_eq_true rfl⟩) ⟨zPc_blind, z_prec C0 hw hq3 (ci := 2) zz rfl, z_give C0 hw hS _⟩ rfl rfl hl.1 rfl (lv_room (Nat.le_of_ble_eq_true rfl)) dX4_liveYear_47 ⟨Nat.zero_le _, Nat.zero_le _⟩
        · exact va_runU (z_fix C0) (c_X5_isGone l D Y F G w22.2 _ q3 hq3 w23 ew23) (va_cwU 0 hts gX4_liveYear_X5_isGone_u128X3 rfl rfl rfl rfl (by decide +kernel) ⟨Nat.le_of_ble_eq_true rfl, Nat.le_of_ble_eq_true rfl⟩) ⟨zPc_blind, z_prec C0 hw hq3 (ci := 3) zz rfl, z_give C0 hw hS _⟩ rfl rfl hl.1 rfl (lv_room (Nat.le_of_ble_eq_true rfl)) dX4_liveYear_47 ⟨Nat.zero_le _, Nat.zero_le _⟩
        · exact va_runV (z_fix C0) (c_X5_isGone l D Y F G w22.2 _ q3 hq3 w23 ew23) (cwV 0 hts gX4_liveYear_X5_isGone rfl rfl rfl (by decide +kernel) ⟨Nat.le_of_ble_eq_true rfl, Nat.le_of_ble_eq_true rfl⟩) ⟨zPc_blind, z_prec C0 hw hq3 (ci := 5) zz rfl, z_give C0 hw hS _⟩ rfl rfl hl.1 rfl (lv_room (Nat.le_of_ble_eq_true rfl)) dX4_liveYear_47 ⟨Nat.zero_le _, Nat.zero_le _⟩
        · exact va_runU (z_fix C0) (c_X5_isGone l D Y F G w22.2 _ q3 hq3 w23 ew23) (va_cwU 0 hts gX4_liveYear_X5_isGone_u128X8 rfl rfl rfl rfl (by decide +kernel) ⟨Nat.le_of_ble_eq_true rfl, Nat.le_of_ble_eq_true rfl⟩) ⟨zPc_blind, z_prec C0 hw hq3 (ci := 8) zz rfl, z_give C0 hw hS _⟩ rfl rfl hl.1 rfl (lv_room (Nat.le_of_ble_eq_true rfl)) dX4_liveYear_47 ⟨Nat.zero_le _, Nat.zero_le _⟩
        · exact va_runU (z_fix C0) (c_X5_isGone l D Y F G w22.2 _ q3 hq3 w23 ew23) (va_cwU 0 hts gX4_liveYear_X5_isGone_u128X10 rfl rfl rfl rfl (by decide +kernel) ⟨Nat.le_of_ble_eq_true rfl, Nat.le_of_ble_eq_true rfl⟩) ⟨zPc_blind, z_prec C0 hw hq3 (ci := 10) zz rfl, z_give C0 hw hS _⟩ rfl rfl hl.1 rfl (lv_room (Nat.le_of_ble_eq_true rfl)) dX4_liveYear_47 ⟨Nat.zero_le _, Nat.zero_le _⟩
      refine lv_if_ne (tgt := 61) hx hb dX4_liveYear_50 (by decide) (fun c24 => ?_) (fun c24 => ?_)
      · replace h := z_ifn c24 h
        refine lv_goto (tgt := 129) hx hb dX4_liveYear_61 (by decide) ?_
        exact z_retv C0 hw hS (Option.some.inj h) dX4_liveYear_129
      · replace h := z_ifp c24 h
        refine lv_aload_n hx hb dX4_liveYear_53 rfl (lv_at hl 3 rfl) ?_
        refine lv_iload_n hx hb dX4_liveYear_54 rfl (lv_at hl 1 rfl) ?_
        refine lv_iload hx hb dX4_liveYear_55 (lv_at hl 0 rfl) ?_
        obtain ⟨w25, ew25, h⟩ := z_bd h
        refine z_goi C0 hw hS (res := w25) (rest := []) (arr := (Value.ref (zad F G (100 + 4 * q3)) :: [.int w21.1, .int (((1 : Int32) + w22.1))]).toArray) ?_ (fun H locs hw hS => ?_)
        · rcases zOK_cases hq3 with zz | zz | zz | zz | zz | zz | zz
          · exact va_runU (z_fix C0) (c_X5_pressWith l D Y F G w22.2 _ q3 hq3 w21.1 (((1 : Int32) + w22.1)) w25 ew25) (va_cwU 2 hts gX4_liveYear_X5_pressWith_u121X0 rfl rfl rfl rfl (by decide +kernel) ⟨Nat.le_of_ble_eq_true rfl, Nat.le_of_ble_eq_true rfl⟩) ⟨zPc_blind, z_prec C0 hw hq3 (ci := 0) zz rfl, z_give C0 hw hS _⟩ rfl rfl hl.1 rfl (lv_room (Nat.le_of_ble_eq_true rfl)) dX4_liveYear_57 ⟨Nat.zero_le _, Nat.zero_le _⟩
          · exact va_runU (z_fix C0) (c_X5_pressWith l D Y F G w22.2 _ q3 hq3 w21.1 (((1 : Int32) + w22.1)) w25 ew25) (va_cwU 2 hts gX4_liveYear_X5_pressWith_u121X1 rfl rfl rfl rfl (by decide +kernel) ⟨Nat.le_of_ble_eq_true rfl, Nat.le_of_ble_eq_true rfl⟩) ⟨zPc_blind, z_prec C0 hw hq3 (ci := 1) zz rfl, z_give C0 hw hS _⟩ rfl rfl hl.1 rfl (lv_room (Nat.le_of_ble_eq_true rfl)) dX4_liveYear_57 ⟨Nat.zero_le _, Nat.zero_le _⟩
          · exact va_runU (z_fix C0) (c_X5_pressWith l D Y F G w22.2 _ q3 hq3 w21.1 (((1 : Int32) + w22.1)) w25 ew25) (va_cwU 2 hts gX4_liveYear_X5_pressWith_u121X2 rfl rfl rfl rfl (by decide +kernel) ⟨Nat.le_of_ble_eq_true rfl, Nat.le_of_ble_eq_true rfl⟩) ⟨zPc_blind, z_prec C0 hw hq3 (ci := 2) zz rfl, z_give C0 hw hS _⟩ rfl rfl hl.1 rfl (lv_room (Nat.le_of_ble_eq_true rfl)) dX4_liveYear_57 ⟨Nat.zero_le _, Nat.zero_le _⟩
          · exact va_runU (z_fix C0) (c_X5_pressWith l D Y F G w22.2 _ q3 hq3 w21.1 (((1 : Int32) + w22.1)) w25 ew25) (va_cwU 2 hts gX4_liveYear_X5_pressWith_u121X3 rfl rfl rfl rfl (by decide +kernel) ⟨Nat.le_of_ble_eq_true rfl, Nat.le_of_ble_eq_true rfl⟩) ⟨zPc_blind, z_prec C0 hw hq3 (ci := 3) zz rfl, z_give C0 hw hS _⟩ rfl rfl hl.1 rfl (lv_room (Nat.le_of_ble_eq_true rfl)) dX4_liveYear_57 ⟨Nat.zero_le _, Nat.zero_le _⟩
          · exact va_runV (z_fix C0) (c_X5_pressWith l D Y F G w22.2 _ q3 hq3 w21.1 (((1 : Int32) + w22.1)) w25 ew25) (cwV 2 hts gX4_liveYear_X5_pressWith rfl rfl rfl (by decide +kernel) ⟨Nat.le_of_ble_eq_true rfl, Nat.le_of_ble_eq_true rfl⟩) ⟨zPc_blind, z_prec C0 hw hq3 (ci := 5) zz rfl, z_give C0 hw hS _⟩ rfl rfl hl.1 rfl (lv_room (Nat.le_of_ble_eq_true rfl)) dX4_liveYear_57 ⟨Nat.zero_le _, Nat.zero_le _⟩
          · exact va_runU (z_fix C0) (c_X5_pressWith l D Y F G w22.2 _ q3 hq3 w21.1 (((1 : Int32) + w22.1)) w25 ew25) (va_cwU 2 hts gX4_liveYear_X5_pressWith_u121X8 rfl rfl rfl rfl (by decide +kernel) ⟨Nat.le_of_ble_eq_true rfl, Nat.le_of_ble_eq_true rfl⟩) ⟨zPc_blind, z_prec C0 hw hq3 (ci := 8) zz rfl, z_give C0 hw hS _⟩ rfl rfl hl.1 rfl (lv_room (Nat.le_of_ble_eq_true rfl)) dX4_liveYear_57 ⟨Nat.zero_le _, Nat.zero_le _⟩
          · exact va_runU (z_fix C0) (c_X5_pressWith l D Y F G w22.2 _ q3 hq3 w21.1 (((1 : Int32) + w22.1)) w25 ew25) (va_cwU 2 hts gX4_liveYear_X5_pressWith_u121X10 rfl rfl rfl rfl (by decide +kernel) ⟨Nat.le_of_ble_eq_true rfl, Nat.le_of_ble_eq_true rfl⟩) ⟨zPc_blind, z_prec C0 hw hq3 (ci := 10) zz rfl, z_give C0 hw hS _⟩ rfl rfl hl.1 rfl (lv_room (Nat.le_of_ble_eq_true rfl)) dX4_liveYear_57 ⟨Nat.zero_le _, Nat.zero_le _⟩
        refine lv_pop hx hb dX4_liveYear_60 rfl ?_
        refine lv_goto (tgt := 129) hx hb dX4_liveYear_61 (by decide) ?_
        exact z_retv C0 hw hS (Option.some.inj h) dX4_liveYear_129
