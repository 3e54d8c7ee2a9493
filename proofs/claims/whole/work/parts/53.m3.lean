set_option maxRecDepth 20000 in
theorem in_X12_bears_X12 : ∀ w ∈ u_ws RX12 TX12 27, w ∈ wsX12_bears := by decide +kernel
set_option maxRecDepth 20000 in
theorem in_X12_heir_X12 : ∀ w ∈ u_ws RX12 TX12 27, w ∈ wsX12_heir := by decide +kernel
set_option maxRecDepth 20000 in
theorem in_X12_paired_X12 : ∀ w ∈ u_ws RX12 TX12 27, w ∈ wsX12_paired := by decide +kernel
set_option maxRecDepth 20000 in
theorem in_X12_pairs_X12 : ∀ w ∈ u_ws RX12 TX12 27, w ∈ wsX12_pairs := by decide +kernel
def M_X12_pairs_d0_B25 : Nat → zSt → Int32 → Option (zSt)
  | 0, _, _ => none
  | n + 1, S, x6 =>
  (if 6 ≤ x6 then some S else zg (zin x6 6) (zg (zin x6 6) (M_X12_pairs_d0_B25 n ((zAs S 18 (Int32.toNatClampNeg x6) ((zar S 17 (Int32.toNatClampNeg x6))))) ((x6 + 1)))))
set_option maxHeartbeats 4000000 in
set_option maxRecDepth 100000 in
theorem t_X12_pairs_d0_B25 {p : Program} {l : Launch} {e : Env} {s : State} {m : MethodId} {args : Array Value} {below : List Frame} {meth : Method} {c : Code} {D : va_G} {Y : Nat → ClassId} {F : Nat → Nat} {A : Nat → Prop} {G : zG} (C0 : zCx p s m args meth c D Y F A RX12 cX12_pairs 7 none wsX12_pairs) (res : zSt) : ∀ (n : Nat), ∀ (S : zSt) (x6 : Int32), M_X12_pairs_d0_B25 n S x6 = some res → ∀ (H : Heap) (locs : List Loc) (ls : Array Slot), zH D Y F A G S H → va_S A s.heap H locs → lv_has ls 7 [(0, .ref (F 0)), (6, .int x6)] → W p l e (zRm 0 0) s m args below meth c H locs 0 0 (MQ below (zQv D Y F A G res) args s 0 0 A) (F0 m 25 ls []) := by
  obtain ⟨hx, hb, hml, hr, hown, hts, hK, hA, hlk, hN⟩ := id C0
  intro n
  induction n with
  | zero =>
    intro S x6 h
    unfold M_X12_pairs_d0_B25 at h
    cases h
  | succ n ih =>
    intro S x6 h H locs ls hw hS hl
    rw [M_X12_pairs_d0_B25] at h
    refine lv_iload hx hb dX12_pairs_25 (lv_at hl 1 rfl) ?_
    refine lv_bipush (v := 6) hx hb dX12_pairs_27 (by decide) ?_
    refine lv_icmp_ge (tgt := 52) hx hb dX12_pairs_29 (by decide) (fun c4 => ?_) (fun c4 => ?_)
    · replace h := z_ifp c4 h
      exact z_retv C0 hw hS (Option.some.inj h) dX12_pairs_52
    · replace h := z_ifn c4 h
      refine lv_aload_n hx hb dX12_pairs_32 rfl (lv_at hl 0 rfl) ?_
      refine z_get C0 in_X12_pairs_X12 (C := RX12) (T := TX12) (N := 27) hw (k := 0) (ci := 12) (v := .ref (F 18)) rfl rfl rfl rfl 25 (by decide) rfl 2 rfl dX12_pairs_33 ?_
      refine lv_iload hx hb dX12_pairs_36 (lv_at hl 1 rfl) ?_
      refine lv_aload_n hx hb dX12_pairs_38 rfl (lv_at hl 0 rfl) ?_
      refine z_get C0 in_X12_pairs_X12 (C := RX12) (T := TX12) (N := 27) hw (k := 0) (ci := 12) (v := .ref (F 17)) rfl rfl rfl rfl 24 (by decide) rfl 3 rfl dX12_pairs_39 ?_
      refine lv_iload hx hb dX12_pairs_42 (lv_at hl 1 rfl) ?_
      obtain ⟨b5, h⟩ := z_gd h
      refine z_iald C0 hw 17 rfl rfl zri_17 (zin_in b5) dX12_pairs_44 ?_
      obtain ⟨b6, h⟩ := z_gd h
      refine z_iasts C0 hw hS 18 rfl rfl zri_18 (zin_in b6) dX12_pairs_45 (fun H locs hw hS => ?_)
      refine lv_iinc (v := (x6 + 1)) (lv' := [(6, .int ((x6 + 1))), (0, .ref (F 0))]) hx hb dX12_pairs_46 hl (k := 1) rfl rfl (by decide) rfl (fun ls hl => ?_)
      refine lv_goto (tgt := 25) hx hb dX12_pairs_49 (by decide) ?_
      exact ih ((zAs S 18 (Int32.toNatClampNeg x6) ((zar S 17 (Int32.toNatClampNeg x6))))) ((x6 + 1)) h _ _ _ hw hS (lv_sub hl [1, 0] rfl)
def M_X12_pairs_d0 (S : zSt) (x1 : Int32) (x2 : Int32) (x3 : Int32) (x4 : Int32) (x5 : Int32) : Option (zSt) :=
  (if x3 = 6 then (if (zsc S 0 26) < x5 then M_X12_pairs_d0_B25 zF ((zP S 0 26 x5)) 0 else some S) else zg (zin x3 6) (zg false (none)))
set_option maxHeartbeats 4000000 in
set_option maxRecDepth 100000 in
theorem c_X12_pairs_d0 (l : Launch) (D : va_G) (Y : Nat → ClassId) (F : Nat → Nat) (G : zG) (S : zSt) (sz : Nat) (x1 : Int32) (x2 : Int32) (x3 : Int32) (x4 : Int32) (x5 : Int32) (res : zSt) (h : M_X12_pairs_d0 S x1 x2 x3 x4 x5 = some res) : Met l yX12_pairs wsX12_pairs (zRm 0 0) (zPc D Y F G S sz [.ref (F 0), .int x1, .int x2, .int x3, .int x4, .int x5]) (zQv D Y F (zAo F G sz) G res) 0 0 (zAo F G sz) := by
  unfold M_X12_pairs_d0 at h
  refine zMet (cc := cX12_pairs) (maxL := 7) (ret := none) (own := RX12) (by decide +kernel) rfl rfl (Nat.le_of_ble_eq_true rfl) ?_
  intro p e s m args below meth c C0 hin hw hS ls hl
  have hl : lv_has ls 7 [(0, .ref (F 0)), (1, .int x1), (2, .int x2), (3, .int x3), (4, .int x4), (5, .int x5)] := hl
  generalize zAo F G sz = A at C0 hw hS ⊢
  obtain ⟨hx, hb, hml, hr, hown, hts, hK, hA, hlk, hN⟩ := id C0
  refine lv_iload_n hx hb dX12_pairs_0 rfl (lv_at hl 3 rfl) ?_
  refine lv_bipush (v := 6) hx hb dX12_pairs_1 (by decide) ?_
  refine lv_icmp_ne (tgt := 53) hx hb dX12_pairs_3 (by decide) (fun c1 => ?_) (fun c1 => ?_)
  · replace h := z_ifn c1 h
    refine lv_aload_n hx hb dX12_pairs_53 rfl (lv_at hl 0 rfl) ?_
    refine z_get C0 in_X12_pairs_X12 (C := RX12) (T := TX12) (N := 27) hw (k := 0) (ci := 12) (v := .ref (F 17)) rfl rfl rfl rfl 24 (by decide) rfl 3 rfl dX12_pairs_54 ?_
    refine lv_iload_n hx hb dX12_pairs_57 rfl (lv_at hl 3 rfl) ?_
    refine lv_iconst (v := (-1)) hx hb dX12_pairs_58 (by decide) ?_
    obtain ⟨b2, h⟩ := z_gd h
    refine z_iasts C0 hw hS 17 rfl rfl zri_17 (zin_in b2) dX12_pairs_59 (fun H locs hw hS => ?_)
    refine lv_aload_n hx hb dX12_pairs_60 rfl (lv_at hl 0 rfl) ?_
    refine lv_iload_n hx hb dX12_pairs_61 rfl (lv_at hl 1 rfl) ?_
    refine lv_iload_n hx hb dX12_pairs_62 rfl (lv_at hl 2 rfl) ?_
    refine lv_iload_n hx hb dX12_pairs_63 rfl (lv_at hl 3 rfl) ?_
    refine lv_iconst (v := 1) hx hb dX12_pairs_64 (by decide) ?_
    refine lv_iadd hx hb dX12_pairs_65 ?_
    refine lv_iload hx hb dX12_pairs_66 (lv_at hl 4 rfl) ?_
    refine lv_iload hx hb dX12_pairs_68 (lv_at hl 5 rfl) ?_
    exact absurd (z_gd h).1 (by decide)
  · replace h := z_ifp c1 h
    refine lv_iload hx hb dX12_pairs_6 (lv_at hl 5 rfl) ?_
    refine lv_aload_n hx hb dX12_pairs_8 rfl (lv_at hl 0 rfl) ?_
    refine z_get C0 in_X12_pairs_X12 (C := RX12) (T := TX12) (N := 27) hw (k := 0) (ci := 12) (v := .int ((zsc S 0 26))) rfl rfl rfl rfl 26 (by decide) rfl 1 rfl dX12_pairs_9 ?_
    refine lv_icmp_gt (tgt := 16) hx hb dX12_pairs_12 (by decide) (fun c3 => ?_) (fun c3 => ?_)
    · replace h := z_ifp c3 h
      refine lv_aload_n hx hb dX12_pairs_16 rfl (lv_at hl 0 rfl) ?_
      refine lv_iload hx hb dX12_pairs_17 (lv_at hl 5 rfl) ?_
      refine z_put C0 in_X12_pairs_X12 tyX12 tyX12_ok nmX12 (C := RX12) (T := TX12) (N := 27) hw hS (k := 0) (ci := 12) (v := x5) (ty := .int) rfl rfl rfl rfl 26 (by decide) 1 rfl rfl rfl rfl rfl (Nat.le_of_ble_eq_true rfl) rfl dX12_pairs_19 (fun H locs hw hS => ?_)
      refine lv_iconst (v := 0) hx hb dX12_pairs_22 (by decide) ?_
      refine lv_istore (lv' := [(6, .int 0), (0, .ref (F 0)), (1, .int x1), (2, .int x2), (3, .int x3), (4, .int x4), (5, .int x5)]) hx hb dX12_pairs_23 hl (by decide) rfl (fun ls hl => ?_)
      exact t_X12_pairs_d0_B25 C0 res zF ((zP S 0 26 x5)) 0 h _ _ _ hw hS (lv_sub hl [1, 0] rfl)
    · replace h := z_ifn c3 h
      exact z_retv C0 hw hS (Option.some.inj h) dX12_pairs_15
def M_X12_pairs_d1_B81 : Nat → zSt → Int32 → Int32 → Int32 → Int32 → Int32 → Int32 → Option (zSt)
  | 0, _, _, _, _, _, _, _ => none
  | n + 1, S, x1, x2, x3, x4, x5, x6 =>
  (if 6 ≤ x6 then some S else Option.bind (M_X12_has S x4 x6) (fun w7 => (if w7 = 0 then zg (zin x3 6) (Option.bind (M_X12_hasAll ((zAs S 17 (Int32.toNatClampNeg x3) x6)) x1 x3) (fun w10 => Option.bind (M_X12_hasAll ((zAs S 17 (Int32.toNatClampNeg x3) x6)) x2 x6) (fun w11 => Option.bind (M_J6_bitCount_0f7a4 ((zAs S 17 (Int32.toNatClampNeg x3) x6)) ((w10 &&& w11))) (fun w12 => Option.bind (M_X12_pairs_d0 ((zAs S 17 (Int32.toNatClampNeg x3) x6)) x1 x2 ((x3 + 1)) ((x4 ||| ((1 : Int32) <<< (x6 &&& 31)))) ((x5 + w12))) (fun w13 => M_X12_pairs_d1_B81 n w13 x1 x2 x3 x4 x5 ((x6 + 1))))))) else M_X12_pairs_d1_B81 n S x1 x2 x3 x4 x5 ((x6 + 1)))))
set_option maxHeartbeats 4000000 in
set_option maxRecDepth 100000 in
theorem t_X12_pairs_d1_B81 {p : Program} {l : Launch} {e : Env} {s : State} {m : MethodId} {args : Array Value} {below : List Frame} {meth : Method} {c : Code} {D : va_G} {Y : Nat → ClassId} {F : Nat → Nat} {A : Nat → Prop} {G : zG} (C0 : zCx p s m args meth c D Y F A RX12 cX12_pairs 7 none wsX12_pairs) (res : zSt) : ∀ (n : Nat), ∀ (S : zSt) (x1 : Int32) (x2 : Int32) (x3 : Int32) (x4 : Int32) (x5 : Int32) (x6 : Int32), M_X12_pairs_d1_B81 n S x1 x2 x3 x4 x5 x6 = some res → ∀ (H : Heap) (locs : List Loc) (ls : Array Slot), zH D Y F A G S H → va_S A s.heap H locs → lv_has ls 7 [(0, .ref (F 0)), (1, .int x1), (2, .int x2), (3, .int x3), (4, .int x4), (5, .int x5), (6, .int x6)] → W p l e (zRm 3 70) s m args below meth c H locs 0 0 (MQ below (zQv D Y F A G res) args s 0 0 A) (F0 m 81 ls []) := by
  obtain ⟨hx, hb, hml, hr, hown, hts, hK, hA, hlk, hN⟩ := id C0
  intro n
  induction n with
  | zero =>
    intro S x1 x2 x3 x4 x5 x6 h
    unfold M_X12_pairs_d1_B81 at h
    cases h
  | succ n ih =>
    intro S x1 x2 x3 x4 x5 x6 h H locs ls hw hS hl
    rw [M_X12_pairs_d1_B81] at h
    refine lv_iload hx hb dX12_pairs_81 (lv_at hl 6 rfl) ?_
    refine lv_bipush (v := 6) hx hb dX12_pairs_83 (by decide) ?_
    refine lv_icmp_ge (tgt := 151) hx hb dX12_pairs_85 (by decide) (fun c6 => ?_) (fun c6 => ?_)
    · replace h := z_ifp c6 h
      exact z_retv C0 hw hS (Option.some.inj h) dX12_pairs_151
    · replace h := z_ifn c6 h
      refine lv_iload hx hb dX12_pairs_88 (lv_at hl 4 rfl) ?_
      refine lv_iload hx hb dX12_pairs_90 (lv_at hl 6 rfl) ?_
      obtain ⟨w7, ew7, h⟩ := z_bd h
      refine z_callSip C0 hw hS (As := [.int x4, .int x6]) (rest := []) (c_X12_has l D Y F G S _ x4 x6 w7 ew7) (va_cwS 2 hts gX12_pairs_X12_has rfl rfl rfl (by decide +kernel) ⟨Nat.le_of_ble_eq_true rfl, Nat.le_of_ble_eq_true rfl⟩) rfl hl.1 rfl (Nat.le_of_ble_eq_true rfl) dX12_pairs_92 ⟨Nat.zero_le _, Nat.zero_le _⟩ (fun H locs hw hS => ?_)
      refine lv_if_eq (tgt := 101) hx hb dX12_pairs_95 (by decide) (fun c8 => ?_) (fun c8 => ?_)
      · replace h := z_ifp c8 h
        refine lv_aload_n hx hb dX12_pairs_101 rfl (lv_at hl 0 rfl) ?_
        refine z_get C0 in_X12_pairs_X12 (C := RX12) (T := TX12) (N := 27) hw (k := 0) (ci := 12) (v := .ref (F 17)) rfl rfl rfl rfl 24 (by decide) rfl 3 rfl dX12_pairs_102 ?_
        refine lv_iload_n hx hb dX12_pairs_105 rfl (lv_at hl 3 rfl) ?_
        refine lv_iload hx hb dX12_pairs_106 (lv_at hl 6 rfl) ?_
        obtain ⟨b9, h⟩ := z_gd h
        refine z_iasts C0 hw hS 17 rfl rfl zri_17 (zin_in b9) dX12_pairs_108 (fun H locs hw hS => ?_)
        refine lv_aload_n hx hb dX12_pairs_109 rfl (lv_at hl 0 rfl) ?_
        refine lv_iload_n hx hb dX12_pairs_110 rfl (lv_at hl 1 rfl) ?_
        refine lv_iload_n hx hb dX12_pairs_111 rfl (lv_at hl 2 rfl) ?_
        refine lv_iload_n hx hb dX12_pairs_112 rfl (lv_at hl 3 rfl) ?_
        refine lv_iconst (v := 1) hx hb dX12_pairs_113 (by decide) ?_
        refine lv_iadd hx hb dX12_pairs_114 ?_
        refine lv_iload hx hb dX12_pairs_115 (lv_at hl 4 rfl) ?_
        refine lv_iconst (v := 1) hx hb dX12_pairs_117 (by decide) ?_
        refine lv_iload hx hb dX12_pairs_118 (lv_at hl 6 rfl) ?_
        refine lv_ishl hx hb dX12_pairs_120 ?_
        refine lv_ior hx hb dX12_pairs_121 ?_
        refine lv_iload hx hb dX12_pairs_122 (lv_at hl 5 rfl) ?_
        refine lv_aload_n hx hb dX12_pairs_124 rfl (lv_at hl 0 rfl) ?_
        refine lv_iload_n hx hb dX12_pairs_125 rfl (lv_at hl 1 rfl) ?_
        refine lv_iload_n hx hb dX12_pairs_126 rfl (lv_at hl 3 rfl) ?_
        obtain ⟨w10, ew10, h⟩ := z_bd h
        refine z_callVip C0 hw hS (k := 0) (As := [.int x1, .int x3]) (rest := [.int x5, .int ((x4 ||| ((1 : Int32) <<< (x6 &&& 31)))), .int ((x3 + 1)), .int x2, .int x1, .ref (F 0)]) rfl rfl rfl rfl (c_X12_hasAll l D Y F G ((zAs S 17 (Int32.toNatClampNeg x3) x6)) _ x1 x3 w10 ew10) (cwV 2 hts gX12_pairs_X12_hasAll rfl rfl rfl (by decide +kernel) ⟨Nat.le_of_ble_eq_true rfl, Nat.le_of_ble_eq_true rfl⟩) rfl hl.1 rfl (Nat.le_of_ble_eq_true rfl) dX12_pairs_127 ⟨Nat.zero_le _, Nat.zero_le _⟩ (fun H locs hw hS => ?_)
        refine lv_aload_n hx hb dX12_pairs_130 rfl (lv_at hl 0 rfl) ?_
        refine lv_iload_n hx hb dX12_pairs_131 rfl (lv_at hl 2 rfl) ?_
        refine lv_iload hx hb dX12_pairs_132 (lv_at hl 6 rfl) ?_
        obtain ⟨w11, ew11, h⟩ := z_bd h
        refine z_callVip C0 hw hS (k := 0) (As := [.int x2, .int x6]) (rest := [.int w10, .int x5, .int ((x4 ||| ((1 : Int32) <<< (x6 &&& 31)))), .int ((x3 + 1)), .int x2, .int x1, .ref (F 0)]) rfl rfl rfl rfl (c_X12_hasAll l D Y F G ((zAs S 17 (Int32.toNatClampNeg x3) x6)) _ x2 x6 w11 ew11) (cwV 2 hts gX12_pairs_X12_hasAll rfl rfl rfl (by decide +kernel) ⟨Nat.le_of_ble_eq_true rfl, Nat.le_of_ble_eq_true rfl⟩) rfl hl.1 rfl (Nat.le_of_ble_eq_true rfl) dX12_pairs_134 ⟨Nat.zero_le _, Nat.zero_le _⟩ (fun H locs hw hS => ?_)
        refine lv_iand hx hb dX12_pairs_137 ?_
        obtain ⟨w12, ew12, h⟩ := z_bd h
        refine z_callSip C0 hw hS (As := [.int ((w10 &&& w11))]) (rest := [.int x5, .int ((x4 ||| ((1 : Int32) <<< (x6 &&& 31)))), .int ((x3 + 1)), .int x2, .int x1, .ref (F 0)]) (c_J6_bitCount_0f7a4 l D Y F G ((zAs S 17 (Int32.toNatClampNeg x3) x6)) _ ((w10 &&& w11)) w12 ew12) (va_cwS 1 hts gX12_pairs_J6_bitCount_0f7a4 rfl rfl rfl (by decide +kernel) ⟨Nat.le_of_ble_eq_true rfl, Nat.le_of_ble_eq_true rfl⟩) rfl hl.1 rfl (Nat.le_of_ble_eq_true rfl) dX12_pairs_138 ⟨Nat.zero_le _, Nat.zero_le _⟩ (fun H locs hw hS => ?_)
        refine lv_iadd hx hb dX12_pairs_141 ?_
        obtain ⟨w13, ew13, h⟩ := z_bd h
        refine z_callVv0 C0 hw hS (k := 0) (As := [.int x1, .int x2, .int ((x3 + 1)), .int ((x4 ||| ((1 : Int32) <<< (x6 &&& 31)))), .int ((x5 + w12))]) (rest := []) rfl rfl rfl rfl (c_X12_pairs_d0 l D Y F G ((zAs S 17 (Int32.toNatClampNeg x3) x6)) _ x1 x2 ((x3 + 1)) ((x4 ||| ((1 : Int32) <<< (x6 &&& 31)))) ((x5 + w12)) w13 ew13) (cwV 5 hts gX12_pairs_X12_pairs rfl rfl rfl (by decide +kernel) ⟨Nat.le_of_ble_eq_true rfl, Nat.le_of_ble_eq_true rfl⟩) rfl hl.1 rfl (Nat.le_of_ble_eq_true rfl) dX12_pairs_142 ⟨Nat.zero_le _, Nat.zero_le _⟩ (fun H locs hw hS => ?_)
        refine lv_iinc (v := (x6 + 1)) (lv' := [(6, .int ((x6 + 1))), (0, .ref (F 0)), (1, .int x1), (2, .int x2), (3, .int x3), (4, .int x4), (5, .int x5)]) hx hb dX12_pairs_145 hl (k := 6) rfl rfl (by decide) rfl (fun ls hl => ?_)
        refine lv_goto (tgt := 81) hx hb dX12_pairs_148 (by decide) ?_
        exact ih w13 x1 x2 x3 x4 x5 ((x6 + 1)) h _ _ _ hw hS (lv_sub hl [1, 2, 3, 4, 5, 6, 0] rfl)
      · replace h := z_ifn c8 h
        refine lv_goto (tgt := 145) hx hb dX12_pairs_98 (by decide) ?_
        refine lv_iinc (v := (x6 + 1)) (lv' := [(6, .int ((x6 + 1))), (0, .ref (F 0)), (1, .int x1), (2, .int x2), (3, .int x3), (4, .int x4), (5, .int x5)]) hx hb dX12_pairs_145 hl (k := 6) rfl rfl (by decide) rfl (fun ls hl => ?_)
        refine lv_goto (tgt := 81) hx hb dX12_pairs_148 (by decide) ?_
        exact ih S x1 x2 x3 x4 x5 ((x6 + 1)) h _ _ _ hw hS (lv_sub hl [1, 2, 3, 4, 5, 6, 0] rfl)
def M_X12_pairs_d1_B25 : Nat → zSt → Int32 → Option (zSt)
  | 0, _, _ => none
  | n + 1, S, x6 =>
  (if 6 ≤ x6 then some S else zg (zin x6 6) (zg (zin x6 6) (M_X12_pairs_d1_B25 n ((zAs S 18 (Int32.toNatClampNeg x6) ((zar S 17 (Int32.toNatClampNeg x6))))) ((x6 + 1)))))
set_option maxHeartbeats 4000000 in
set_option maxRecDepth 100000 in
theorem t_X12_pairs_d1_B25 {p : Program} {l : Launch} {e : Env} {s : State} {m : MethodId} {args : Array Value} {below : List Frame} {meth : Method} {c : Code} {D : va_G} {Y : Nat → ClassId} {F : Nat → Nat} {A : Nat → Prop} {G : zG} (C0 : zCx p s m args meth c D Y F A RX12 cX12_pairs 7 none wsX12_pairs) (res : zSt) : ∀ (n : Nat), ∀ (S : zSt) (x6 : Int32), M_X12_pairs_d1_B25 n S x6 = some res → ∀ (H : Heap) (locs : List Loc) (ls : Array Slot), zH D Y F A G S H → va_S A s.heap H locs → lv_has ls 7 [(0, .ref (F 0)), (6, .int x6)] → W p l e (zRm 3 70) s m args below meth c H locs 0 0 (MQ below (zQv D Y F A G res) args s 0 0 A) (F0 m 25 ls []) := by
  obtain ⟨hx, hb, hml, hr, hown, hts, hK, hA, hlk, hN⟩ := id C0
  intro n
  induction n with
  | zero =>
    intro S x6 h
    unfold M_X12_pairs_d1_B25 at h
    cases h
  | succ n ih =>
    intro S x6 h H locs ls hw hS hl
    rw [M_X12_pairs_d1_B25] at h
    refine lv_iload hx hb dX12_pairs_25 (lv_at hl 1 rfl) ?_
    refine lv_bipush (v := 6) hx hb dX12_pairs_27 (by decide) ?_
    refine lv_icmp_ge (tgt := 52) hx hb dX12_pairs_29 (by decide) (fun c15 => ?_) (fun c15 => ?_)
    · replace h := z_ifp c15 h
      exact z_retv C0 hw hS (Option.some.inj h) dX12_pairs_52
    · replace h := z_ifn c15 h
      refine lv_aload_n hx hb dX12_pairs_32 rfl (lv_at hl 0 rfl) ?_
      refine z_get C0 in_X12_pairs_X12 (C := RX12) (T := TX12) (N := 27) hw (k := 0) (ci := 12) (v := .ref (F 18)) rfl rfl rfl rfl 25 (by decide) rfl 2 rfl dX12_pairs_33 ?_
      refine lv_iload hx hb dX12_pairs_36 (lv_at hl 1 rfl) ?_
      refine lv_aload_n hx hb dX12_pairs_38 rfl (lv_at hl 0 rfl) ?_
      refine z_get C0 in_X12_pairs_X12 (C := RX12) (T := TX12) (N := 27) hw (k := 0) (ci := 12) (v := .ref (F 17)) rfl rfl rfl rfl 24 (by decide) rfl 3 rfl dX12_pairs_39 ?_
      refine lv_iload hx hb dX12_pairs_42 (lv_at hl 1 rfl) ?_
      obtain ⟨b16, h⟩ := z_gd h
      refine z_iald C0 hw 17 rfl rfl zri_17 (zin_in b16) dX12_pairs_44 ?_
      obtain ⟨b17, h⟩ := z_gd h
      refine z_iasts C0 hw hS 18 rfl rfl zri_18 (zin_in b17) dX12_pairs_45 (fun H locs hw hS => ?_)
      refine lv_iinc (v := (x6 + 1)) (lv' := [(6, .int ((x6 + 1))), (0, .ref (F 0))]) hx hb dX12_pairs_46 hl (k := 1) rfl rfl (by decide) rfl (fun ls hl => ?_)
      refine lv_goto (tgt := 25) hx hb dX12_pairs_49 (by decide) ?_
      exact ih ((zAs S 18 (Int32.toNatClampNeg x6) ((zar S 17 (Int32.toNatClampNeg x6))))) ((x6 + 1)) h _ _ _ hw hS (lv_sub hl [1, 0] rfl)
def M_X12_pairs_d1 (S : zSt) (x1 : Int32) (x2 : Int32) (x3 : Int32) (x4 : Int32) (x5 : Int32) : Option (zSt) :=
  (if x3 = 6 then (if (zsc S 0 26) < x5 then M_X12_pairs_d1_B25 zF ((zP S 0 26 x5)) 0 else some S) else zg (zin x3 6) (Option.bind (M_X12_pairs_d0 ((zAs S 17 (Int32.toNatClampNeg x3) (-1))) x1 x2 ((x3 + 1)) x4 x5) (fun w3 => zg (zin x2 6) (Option.bind (some ((zar w3 7 (Int32.toNatClampNeg x2)))) (fun v5 => M_X12_pairs_d1_B81 zF w3 x1 x2 x3 x4 x5 v5)))))
set_option maxHeartbeats 4000000 in
set_option maxRecDepth 100000 in
theorem c_X12_pairs_d1 (l : Launch) (D : va_G) (Y : Nat → ClassId) (F : Nat → Nat) (G : zG) (S : zSt) (sz : Nat) (x1 : Int32) (x2 : Int32) (x3 : Int32) (x4 : Int32) (x5 : Int32) (res : zSt) (h : M_X12_pairs_d1 S x1 x2 x3 x4 x5 = some res) : Met l yX12_pairs wsX12_pairs (zRm 3 70) (zPc D Y F G S sz [.ref (F 0), .int x1, .int x2, .int x3, .int x4, .int x5]) (zQv D Y F (zAo F G sz) G res) 0 0 (zAo F G sz) := by
  unfold M_X12_pairs_d1 at h
  refine zMet (cc := cX12_pairs) (maxL := 7) (ret := none) (own := RX12) (by decide +kernel) rfl rfl (Nat.le_of_ble_eq_true rfl) ?_
  intro p e s m args below meth c C0 hin hw hS ls hl
  have hl : lv_has ls 7 [(0, .ref (F 0)), (1, .int x1), (2, .int x2), (3, .int x3), (4, .int x4), (5, .int x5)] := hl
  generalize zAo F G sz = A at C0 hw hS ⊢
  obtain ⟨hx, hb, hml, hr, hown, hts, hK, hA, hlk, hN⟩ := id C0
  refine lv_iload_n hx hb dX12_pairs_0 rfl (lv_at hl 3 rfl) ?_
  refine lv_bipush (v := 6) hx hb dX12_pairs_1 (by decide) ?_
  refine lv_icmp_ne (tgt := 53) hx hb dX12_pairs_3 (by decide) (fun c1 => ?_) (fun c1 => ?_)
  · replace h := z_ifn c1 h
    refine lv_aload_n hx hb dX12_pairs_53 rfl (lv_at hl 0 rfl) ?_
    refine z_get C0 in_X12_pairs_X12 (C := RX12) (T := TX12) (N := 27) hw (k := 0) (ci := 12) (v := .ref (F 17)) rfl rfl rfl rfl 24 (by decide) rfl 3 rfl dX12_pairs_54 ?_
    refine lv_iload_n hx hb dX12_pairs_57 rfl (lv_at hl 3 rfl) ?_
    refine lv_iconst (v := (-1)) hx hb dX12_pairs_58 (by decide) ?_
    obtain ⟨b2, h⟩ := z_gd h
    refine z_iasts C0 hw hS 17 rfl rfl zri_17 (zin_in b2) dX12_pairs_59 (fun H locs hw hS => ?_)
    refine lv_aload_n hx hb dX12_pairs_60 rfl (lv_at hl 0 rfl) ?_
    refine lv_iload_n hx hb dX12_pairs_61 rfl (lv_at hl 1 rfl) ?_
    refine lv_iload_n hx hb dX12_pairs_62 rfl (lv_at hl 2 rfl) ?_
    refine lv_iload_n hx hb dX12_pairs_63 rfl (lv_at hl 3 rfl) ?_
    refine lv_iconst (v := 1) hx hb dX12_pairs_64 (by decide) ?_
    refine lv_iadd hx hb dX12_pairs_65 ?_
    refine lv_iload hx hb dX12_pairs_66 (lv_at hl 4 rfl) ?_
    refine lv_iload hx hb dX12_pairs_68 (lv_at hl 5 rfl) ?_
    obtain ⟨w3, ew3, h⟩ := z_bd h
    refine z_callVv0 C0 hw hS (k := 0) (As := [.int x1, .int x2, .int ((x3 + 1)), .int x4, .int x5]) (rest := []) rfl rfl rfl rfl (c_X12_pairs_d0 l D Y F G ((zAs S 17 (Int32.toNatClampNeg x3) (-1))) _ x1 x2 ((x3 + 1)) x4 x5 w3 ew3) (cwV 5 hts gX12_pairs_X12_pairs rfl rfl rfl (by decide +kernel) ⟨Nat.le_of_ble_eq_true rfl, Nat.le_of_ble_eq_true rfl⟩) rfl hl.1 rfl (Nat.le_of_ble_eq_true rfl) dX12_pairs_70 ⟨Nat.zero_le _, Nat.zero_le _⟩ (fun H locs hw hS => ?_)
    refine lv_aload_n hx hb dX12_pairs_73 rfl (lv_at hl 0 rfl) ?_
    refine z_get C0 in_X12_pairs_X12 (C := RX12) (T := TX12) (N := 27) hw (k := 0) (ci := 12) (v := .ref (F 7)) rfl rfl rfl rfl 7 (by decide) rfl 4 rfl dX12_pairs_74 ?_
    refine lv_iload_n hx hb dX12_pairs_77 rfl (lv_at hl 2 rfl) ?_
    obtain ⟨b4, h⟩ := z_gd h
    refine z_iald C0 hw 7 rfl rfl zri_7 (zin_in b4) dX12_pairs_78 ?_
    obtain ⟨v5, ev5, h⟩ := z_bd h
    refine z_top (Option.some.inj ev5) ?_
    refine lv_istore (lv' := [(6, .int v5), (0, .ref (F 0)), (1, .int x1), (2, .int x2), (3, .int x3), (4, .int x4), (5, .int x5)]) hx hb dX12_pairs_79 hl (by decide) rfl (fun ls hl => ?_)
    exact t_X12_pairs_d1_B81 C0 res zF w3 x1 x2 x3 x4 x5 v5 h _ _ _ hw hS (lv_sub hl [1, 2, 3, 4, 5, 6, 0] rfl)
  · replace h := z_ifp c1 h
    refine lv_iload hx hb dX12_pairs_6 (lv_at hl 5 rfl) ?_
    refine lv_aload_n hx hb dX12_pairs_8 rfl (lv_at hl 0 rfl) ?_
    refine z_get C0 in_X12_pairs_X12 (C := RX12) (T := TX12) (N := 27) hw (k := 0) (ci := 12) (v := .int ((zsc S 0 26))) rfl rfl rfl rfl 26 (by decide) rfl 1 rfl dX12_pairs_9 ?_
    refine lv_icmp_gt (tgt := 16) hx hb dX12_pairs_12 (by decide) (fun c14 => ?_) (fun c14 => ?_)
    · replace h := z_ifp c14 h
      refine lv_aload_n hx hb dX12_pairs_16 rfl (lv_at hl 0 rfl) ?_
      refine lv_iload hx hb dX12_pairs_17 (lv_at hl 5 rfl) ?_
      refine z_put C0 in_X12_pairs_X12 tyX12 tyX12_ok nmX12 (C := RX12) (T := TX12) (N := 27) hw hS (k := 0) (ci := 12) (v := x5) (ty := .int) rfl rfl rfl rfl 26 (by decide) 1 rfl rfl rfl rfl rfl (Nat.le_of_ble_eq_true rfl) rfl dX12_pairs_19 (fun H locs hw hS => ?_)
      refine lv_iconst (v := 0) hx hb dX12_pairs_22 (by decide) ?_
      refine lv_istore (lv' := [(6, .int 0), (0, .ref (F 0)), (1, .int x1), (2, .int x2), (3, .int x3), (4, .int x4), (5, .int x5)]) hx hb dX12_pairs_23 hl (by decide) rfl (fun ls hl => ?_)
      exact t_X12_pairs_d1_B25 C0 res zF ((zP S 0 26 x5)) 0 h _ _ _ hw hS (lv_sub hl [1, 0] rfl)
    · replace h := z_ifn c14 h
      exact z_retv C0 hw hS (Option.some.inj h) dX12_pairs_15
def M_X12_pairs_d2_B81 : Nat → zSt → Int32 → Int32 → Int32 → Int32 → Int32 → Int32 → Option (zSt)
  | 0, _, _, _, _, _, _, _ => none
  | n + 1, S, x1, x2, x3, x4, x5, x6 =>
  (if 6 ≤ x6 then some S else Option.bind (M_X12_has S x4 x6) (fun w7 => (if w7 = 0 then zg (zin x3 6) (Option.bind (M_X12_hasAll ((zAs S 17 (Int32.toNatClampNeg x3) x6)) x1 x3) (fun w10 => Option.bind (M_X12_hasAll ((zAs S 17 (Int32.toNatClampNeg x3) x6)) x2 x6) (fun w11 => Option.bind (M_J6_bitCount_0f7a4 ((zAs S 17 (Int32.toNatClampNeg x3) x6)) ((w10 &&& w11))) (fun w12 => Option.bind (M_X12_pairs_d1 ((zAs S 17 (Int32.toNatClampNeg x3) x6)) x1 x2 ((x3 + 1)) ((x4 ||| ((1 : Int32) <<< (x6 &&& 31)))) ((x5 + w12))) (fun w13 => M_X12_pairs_d2_B81 n w13 x1 x2 x3 x4 x5 ((x6 + 1))))))) else M_X12_pairs_d2_B81 n S x1 x2 x3 x4 x5 ((x6 + 1)))))
set_option maxHeartbeats 4000000 in
set_option maxRecDepth 100000 in
theorem t_X12_pairs_d2_B81 {p : Program} {l : Launch} {e : Env} {s : State} {m : MethodId} {args : Array Value} {below : List Frame} {meth : Method} {c : Code} {D : va_G} {Y : Nat → ClassId} {F : Nat → Nat} {A : Nat → Prop} {G : zG} (C0 : zCx p s m args meth c D Y F A RX12 cX12_pairs 7 none wsX12_pairs) (res : zSt) : ∀ (n : Nat), ∀ (S : zSt) (x1 : Int32) (x2 : Int32) (x3 : Int32) (x4 : Int32) (x5 : Int32) (x6 : Int32), M_X12_pairs_d2_B81 n S x1 x2 x3 x4 x5 x6 = some res → ∀ (H : Heap) (locs : List Loc) (ls : Array Slot), zH D Y F A G S H → va_S A s.heap H locs → lv_has ls 7 [(0, .ref (F 0)), (1, .int x1), (2, .int x2), (3, .int x3), (4, .int x4), (5, .int x5), (6, .int x6)] → W p l e (zRm 4 96) s m args below meth c H locs 0 0 (MQ below (zQv D Y F A G res) args s 0 0 A) (F0 m 81 ls []) := by
  obtain ⟨hx, hb, hml, hr, hown, hts, hK, hA, hlk, hN⟩ := id C0
  intro n
  induction n with
  | zero =>
    intro S x1 x2 x3 x4 x5 x6 h
    unfold M_X12_pairs_d2_B81 at h
    cases h
  | succ n ih =>
    intro S x1 x2 x3 x4 x5 x6 h H locs ls hw hS hl
    rw [M_X12_pairs_d2_B81] at h
    refine lv_iload hx hb dX12_pairs_81 (lv_at hl 6 rfl) ?_
    refine lv_bipush (v := 6) hx hb dX12_pairs_83 (by decide) ?_
    refine lv_icmp_ge (tgt := 151) hx hb dX12_pairs_85 (by decide) (fun c6 => ?_) (fun c6 => ?_)
    · replace h := z_ifp c6 h
      exact z_retv C0 hw hS (Option.some.inj h) dX12_pairs_151
    · replace h := z_ifn c6 h
      refine lv_iload hx hb dX12_pairs_88 (lv_at hl 4 rfl) ?_
      refine lv_iload hx hb dX12_pairs_90 (lv_at hl 6 rfl) ?_
      obtain ⟨w7, ew7, h⟩ := z_bd h
      refine z_callSip C0 hw hS (As := [.int x4, .int x6]) (rest := []) (c_X12_has l D Y F G S _ x4 x6 w7 ew7) (va_cwS 2 hts gX12_pairs_X12_has rfl rfl rfl (by decide +kernel) ⟨Nat.le_of_ble_eq_true rfl, Nat.le_of_ble_eq_true rfl⟩) rfl hl.1 rfl (Nat.le_of_ble_eq_true rfl) dX12_pairs_92 ⟨Nat.zero_le _, Nat.zero_le _⟩ (fun H locs hw hS => ?_)
      refine lv_if_eq (tgt := 101) hx hb dX12_pairs_95 (by decide) (fun c8 => ?_) (fun c8 => ?_)
      · replace h := z_ifp c8 h
        refine lv_aload_n hx hb dX12_pairs_101 rfl (lv_at hl 0 rfl) ?_
        refine z_get C0 in_X12_pairs_X12 (C := RX12) (T := TX12) (N := 27) hw (k := 0) (ci := 12) (v := .ref (F 17)) rfl rfl rfl rfl 24 (by decide) rfl 3 rfl dX12_pairs_102 ?_
        refine lv_iload_n hx hb dX12_pairs_105 rfl (lv_at hl 3 rfl) ?_
        refine lv_iload hx hb dX12_pairs_106 (lv_at hl 6 rfl) ?_
        obtain ⟨b9, h⟩ := z_gd h
        refine z_iasts C0 hw hS 17 rfl rfl zri_17 (zin_in b9) dX12_pairs_108 (fun H locs hw hS => ?_)
        refine lv_aload_n hx hb dX12_pairs_109 rfl (lv_at hl 0 rfl) ?_
        refine lv_iload_n hx hb dX12_pairs_110 rfl (lv_at hl 1 rfl) ?_
        refine lv_iload_n hx hb dX12_pairs_111 rfl (lv_at hl 2 rfl) ?_
        refine lv_iload_n hx hb dX12_pairs_112 rfl (lv_at hl 3 rfl) ?_
        refine lv_iconst (v := 1) hx hb dX12_pairs_113 (by decide) ?_
        refine lv_iadd hx hb dX12_pairs_114 ?_
        refine lv_iload hx hb dX12_pairs_115 (lv_at hl 4 rfl) ?_
        refine lv_iconst (v := 1) hx hb dX12_pairs_117 (by decide) ?_
        refine lv_iload hx hb dX12_pairs_118 (lv_at hl 6 rfl) ?_
        refine lv_ishl hx hb dX12_pairs_120 ?_
        refine lv_ior hx hb dX12_pairs_121 ?_
        refine lv_iload hx hb dX12_pairs_122 (lv_at hl 5 rfl) ?_
        refine lv_aload_n hx hb dX12_pairs_124 rfl (lv_at hl 0 rfl) ?_
        refine lv_iload_n hx hb dX12_pairs_125 rfl (lv_at hl 1 rfl) ?_
        refine lv_iload_n hx hb dX12_pairs_126 rfl (lv_at hl 3 rfl) ?_
        obtain ⟨w10, ew10, h⟩ := z_bd h
        refine z_callVip C0 hw hS (k := 0) (As := [.int x1, .int x3]) (rest := [.int x5, .int ((x4 ||| ((1 : Int32) <<< (x6 &&& 31)))), .int ((x3 + 1)), .int x2, .int x1, .ref (F 0)]) rfl rfl rfl rfl (c_X12_hasAll l D Y F G ((zAs S 17 (Int32.toNatClampNeg x3) x6)) _ x1 x3 w10 ew10) (cwV 2 hts gX12_pairs_X12_hasAll rfl rfl rfl (by decide +kernel) ⟨Nat.le_of_ble_eq_true rfl, Nat.le_of_ble_eq_true rfl⟩) rfl hl.1 rfl (Nat.le_of_ble_eq_true rfl) dX12_pairs_127 ⟨Nat.zero_le _, Nat.zero_le _⟩ (fun H locs hw hS => ?_)
        refine lv_aload_n hx hb dX12_pairs_130 rfl (lv_at hl 0 rfl) ?_
        refine lv_iload_n hx hb dX12_pairs_131 rfl (lv_at hl 2 rfl) ?_
        refine lv_iload hx hb dX12_pairs_132 (lv_at hl 6 rfl) ?_
        obtain ⟨w11, ew11, h⟩ := z_bd h
        refine z_callVip C0 hw hS (k := 0) (As := [.int x2, .int x6]) (rest := [.int w10, .int x5, .int ((x4 ||| ((1 : Int32) <<< (x6 &&& 31)))), .int ((x3 + 1)), .int x2, .int x1, .ref (F 0)]) rfl rfl rfl rfl (c_X12_hasAll l D Y F G ((zAs S 17 (Int32.toNatClampNeg x3) x6)) _ x2 x6 w11 ew11) (cwV 2 hts gX12_pairs_X12_hasAll rfl rfl rfl (by decide +kernel) ⟨Nat.le_of_ble_eq_true rfl, Nat.le_of_ble_eq_true rfl⟩) rfl hl.1 rfl (Nat.le_of_ble_eq_true rfl) dX12_pairs_134 ⟨Nat.zero_le _, Nat.zero_le _⟩ (fun H locs hw hS => ?_)
        refine lv_iand hx hb dX12_pairs_137 ?_
        obtain ⟨w12, ew12, h⟩ := z_bd h
        refine z_callSip C0 hw hS (As := [.int ((w10 &&& w11))]) (rest := [.int x5, .int ((x4 ||| ((1 : Int32) <<< (x6 &&& 31)))), .int ((x3 + 1)), .int x2, .int x1, .ref (F 0)]) (c_J6_bitCount_0f7a4 l D Y F G ((zAs S 17 (Int32.toNatClampNeg x3) x6)) _ ((w10 &&& w11)) w12 ew12) (va_cwS 1 hts gX12_pairs_J6_bitCount_0f7a4 rfl rfl rfl (by decide +kernel) ⟨Nat.le_of_ble_eq_true rfl, Nat.le_of_ble_eq_true rfl⟩) rfl hl.1 rfl (Nat.le_of_ble_eq_true rfl) dX12_pairs_138 ⟨Nat.zero_le _, Nat.zero_le _⟩ (fun H locs hw hS => ?_)
        refine lv_iadd hx hb dX12_pairs_141 ?_
        obtain ⟨w13, ew13, h⟩ := z_bd h
        refine z_callVv0 C0 hw hS (k := 0) (As := [.int x1, .int x2, .int ((x3 + 1)), .int ((x4 ||| ((1 : Int32) <<< (x6 &&& 31)))), .int ((x5 + w12))]) (rest := []) rfl rfl rfl rfl (c_X12_pairs_d1 l D Y F G ((zAs S 17 (Int32.toNatClampNeg x3) x6)) _ x1 x2 ((x3 + 1)) ((x4 ||| ((1 : Int32) <<< (x6 &&& 31)))) ((x5 + w12)) w13 ew13) (cwV 5 hts gX12_pairs_X12_pairs rfl rfl rfl (by decide +kernel) ⟨Nat.le_of_ble_eq_true rfl, Nat.le_of_ble_eq_true rfl⟩) rfl hl.1 rfl (Nat.le_of_ble_eq_true rfl) dX12_pairs_142 ⟨Nat.zero_le _, Nat.zero_le _⟩ (fun H locs hw hS => ?_)
        refine lv_iinc (v := (x6 + 1)) (lv' := [(6, .int ((x6 + 1))), (0, .ref (F 0)), (1, .int x1), (2, .int x2), (3, .int x3), (4, .int x4), (5, .int x5)]) hx hb dX12_pairs_145 hl (k := 6) rfl rfl (by decide) rfl (fun ls hl => ?_)
        refine lv_goto (tgt := 81) hx hb dX12_pairs_148 (by decide) ?_
        exact ih w13 x1 x2 x3 x4 x5 ((x6 + 1)) h _ _ _ hw hS (lv_sub hl [1, 2, 3, 4, 5, 6, 0] rfl)
      · replace h := z_ifn c8 h
        refine lv_goto (tgt := 145) hx hb dX12_pairs_98 (by decide) ?_
        refine lv_iinc (v := (x6 + 1)) (lv' := [(6, .int ((x6 + 1))), (0, .ref (F 0)), (1, .int x1), (2, .int x2), (3, .int x3), (4, .int x4), (5, .int x5)]) hx hb dX12_pairs_145 hl (k := 6) rfl rfl (by decide) rfl (fun ls hl => ?_)
        refine lv_goto (tgt := 81) hx hb dX12_pairs_148 (by decide) ?_
        exact ih S x1 x2 x3 x4 x5 ((x6 + 1)) h _ _ _ hw hS (lv_sub hl [1, 2, 3, 4, 5, 6, 0] rfl)
def M_X12_pairs_d2_B25 : Nat → zSt → Int32 → Option (zSt)
  | 0, _, _ => none
  | n + 1, S, x6 =>
  (if 6 ≤ x6 then some S else zg (zin x6 6) (zg (zin x6 6) (M_X12_pairs_d2_B25 n ((zAs S 18 (Int32.toNatClampNeg x6) ((zar S 17 (Int32.toNatClampNeg x6))))) ((x6 + 1)))))
set_option maxHeartbeats 4000000 in
set_option maxRecDepth 100000 in
theorem t_X12_pairs_d2_B25 {p : Program} {l : Launch} {e : Env} {s : State} {m : MethodId} {args : Array Value} {below : List Frame} {meth : Method} {c : Code} {D : va_G} {Y : Nat → ClassId} {F : Nat → Nat} {A : Nat → Prop} {G : zG} (C0 : zCx p s m args meth c D Y F A RX12 cX12_pairs 7 none wsX12_pairs) (res : zSt) : ∀ (n : Nat), ∀ (S : zSt) (x6 : Int32), M_X12_pairs_d2_B25 n S x6 = some res → ∀ (H : Heap) (locs : List Loc) (ls : Array Slot), zH D Y F A G S H → va_S A s.heap H locs → lv_has ls 7 [(0, .ref (F 0)), (6, .int x6)] → W p l e (zRm 4 96) s m args below meth c H locs 0 0 (MQ below (zQv D Y F A G res) args s 0 0 A) (F0 m 25 ls []) := by
  obtain ⟨hx, hb, hml, hr, hown, hts, hK, hA, hlk, hN⟩ := id C0
  intro n
  induction n with
  | zero =>
    intro S x6 h
    unfold M_X12_pairs_d2_B25 at h
    cases h
  | succ n ih =>
    intro S x6 h H locs ls hw hS hl
    rw [M_X12_pairs_d2_B25] at h
    refine lv_iload hx hb dX12_pairs_25 (lv_at hl 1 rfl) ?_
    refine lv_bipush (v := 6) hx hb dX12_pairs_27 (by decide) ?_
    refine lv_icmp_ge (tgt := 52) hx hb dX12_pairs_29 (by decide) (fun c15 => ?_) (fun c15 => ?_)
    · replace h := z_ifp c15 h
      exact z_retv C0 hw hS (Option.some.inj h) dX12_pairs_52
    · replace h := z_ifn c15 h
      refine lv_aload_n hx hb dX12_pairs_32 rfl (lv_at hl 0 rfl) ?_
      refine z_get C0 in_X12_pairs_X12 (C := RX12) (T := TX12) (N := 27) hw (k := 0) (ci := 12) (v := .ref (F 18)) rfl rfl rfl rfl 25 (by decide) rfl 2 rfl dX12_pairs_33 ?_
      refine lv_iload hx hb dX12_pairs_36 (lv_at hl 1 rfl) ?_
      refine lv_aload_n hx hb dX12_pairs_38 rfl (lv_at hl 0 rfl) ?_
      refine z_get C0 in_X12_pairs_X12 (C := RX12) (T := TX12) (N := 27) hw (k := 0) (ci := 12) (v := .ref (F 17)) rfl rfl rfl rfl 24 (by decide) rfl 3 rfl dX12_pairs_39 ?_
      refine lv_iload hx hb dX12_pairs_42 (lv_at hl 1 rfl) ?_
      obtain ⟨b16, h⟩ := z_gd h
      refine z_iald C0 hw 17 rfl rfl zri_17 (zin_in b16) dX12_pairs_44 ?_
      obtain ⟨b17, h⟩ := z_gd h
      refine z_iasts C0 hw hS 18 rfl rfl zri_18 (zin_in b17) dX12_pairs_45 (fun H locs hw hS => ?_)
      refine lv_iinc (v := (x6 + 1)) (lv' := [(6, .int ((x6 + 1))), (0, .ref (F 0))]) hx hb dX12_pairs_46 hl (k := 1) rfl rfl (by decide) rfl (fun ls hl => ?_)
      refine lv_goto (tgt := 25) hx hb dX12_pairs_49 (by decide) ?_
      exact ih ((zAs S 18 (Int32.toNatClampNeg x6) ((zar S 17 (Int32.toNatClampNeg x6))))) ((x6 + 1)) h _ _ _ hw hS (lv_sub hl [1, 0] rfl)
def M_X12_pairs_d2 (S : zSt) (x1 : Int32) (x2 : Int32) (x3 : Int32) (x4 : Int32) (x5 : Int32) : Option (zSt) :=
  (if x3 = 6 then (if (zsc S 0 26) < x5 then M_X12_pairs_d2_B25 zF ((zP S 0 26 x5)) 0 else some S) else zg (zin x3 6) (Option.bind (M_X12_pairs_d1 ((zAs S 17 (Int32.toNatClampNeg x3) (-1))) x1 x2 ((x3 + 1)) x4 x5) (fun w3 => zg (zin x2 6) (Option.bind (some ((zar w3 7 (Int32.toNatClampNeg x2)))) (fun v5 => M_X12_pairs_d2_B81 zF w3 x1 x2 x3 x4 x5 v5)))))
set_option maxHeartbeats 4000000 in
set_option maxRecDepth 100000 in
theorem c_X12_pairs_d2 (l : Launch) (D : va_G) (Y : Nat → ClassId) (F : Nat → Nat) (G : zG) (S : zSt) (sz : Nat) (x1 : Int32) (x2 : Int32) (x3 : Int32) (x4 : Int32) (x5 : Int32) (res : zSt) (h : M_X12_pairs_d2 S x1 x2 x3 x4 x5 = some res) : Met l yX12_pairs wsX12_pairs (zRm 4 96) (zPc D Y F G S sz [.ref (F 0), .int x1, .int x2, .int x3, .int x4, .int x5]) (zQv D Y F (zAo F G sz) G res) 0 0 (zAo F G sz) := by
  unfold M_X12_pairs_d2 at h
  refine zMet (cc := cX12_pairs) (maxL := 7) (ret := none) (own := RX12) (by decide +kernel) rfl rfl (Nat.le_of_ble_eq_true rfl) ?_
  intro p e s m args below meth c C0 hin hw hS ls hl
  have hl : lv_has ls 7 [(0, .ref (F 0)), (1, .int x1), (2, .int x2), (3, .int x3), (4, .int x4), (5, .int x5)] := hl
  generalize zAo F G sz = A at C0 hw hS ⊢
  obtain ⟨hx, hb, hml, hr, hown, hts, hK, hA, hlk, hN⟩ := id C0
  refine lv_iload_n hx hb dX12_pairs_0 rfl (lv_at hl 3 rfl) ?_
  refine lv_bipush (v := 6) hx hb dX12_pairs_1 (by decide) ?_
  refine lv_icmp_ne (tgt := 53) hx hb dX12_pairs_3 (by decide) (fun c1 => ?_) (fun c1 => ?_)
  · replace h := z_ifn c1 h
    refine lv_aload_n hx hb dX12_pairs_53 rfl (lv_at hl 0 rfl) ?_
    refine z_get C0 in_X12_pairs_X12 (C := RX12) (T := TX12) (N := 27) hw (k := 0) (ci := 12) (v := .ref (F 17)) rfl rfl rfl rfl 24 (by decide) rfl 3 rfl dX12_pairs_54 ?_
    refine lv_iload_n hx hb dX12_pairs_57 rfl (lv_at hl 3 rfl) ?_
    refine lv_iconst (v := (-1)) hx hb dX12_pairs_58 (by decide) ?_
    obtain ⟨b2, h⟩ := z_gd h
    refine z_iasts C0 hw hS 17 rfl rfl zri_17 (zin_in b2) dX12_pairs_59 (fun H locs hw hS => ?_)
    refine lv_aload_n hx hb dX12_pairs_60 rfl (lv_at hl 0 rfl) ?_
    refine lv_iload_n hx hb dX12_pairs_61 rfl (lv_at hl 1 rfl) ?_
    refine lv_iload_n hx hb dX12_pairs_62 rfl (lv_at hl 2 rfl) ?_
    refine lv_iload_n hx hb dX12_pairs_63 rfl (lv_at hl 3 rfl) ?_
    refine lv_iconst (v := 1) hx hb dX12_pairs_64 (by decide) ?_
    refine lv_iadd hx hb dX12_pairs_65 ?_
    refine lv_iload hx hb dX12_pairs_66 (lv_at hl 4 rfl) ?_
    refine lv_iload hx hb dX12_pairs_68 (lv_at hl 5 rfl) ?_
    obtain ⟨w3, ew3, h⟩ := z_bd h
    refine z_callVv0 C0 hw hS (k := 0) (As := [.int x1, .int x2, .int ((x3 + 1)), .int x4, .int x5]) (rest := []) rfl rfl rfl rfl (c_X12_pairs_d1 l D Y F G ((zAs S 17 (Int32.toNatClampNeg x3) (-1))) _ x1 x2 ((x3 + 1)) x4 x5 w3 ew3) (cwV 5 hts gX12_pairs_X12_pairs rfl rfl rfl (by decide +kernel) ⟨Nat.le_of_ble_eq_true rfl, Nat.le_of_ble_eq_true rfl⟩) rfl hl.1 rfl (Nat.le_of_ble_eq_true rfl) dX12_pairs_70 ⟨Nat.zero_le _, Nat.zero_le _⟩ (fun H locs hw hS => ?_)
    refine lv_aload_n hx hb dX12_pairs_73 rfl (lv_at hl 0 rfl) ?_
    refine z_get C0 in_X12_pairs_X12 (C := RX12) (T := TX12) (N := 27) hw (k := 0) (ci := 12) (v := .ref (F 7)) rfl rfl rfl rfl 7 (by decide) rfl 4 rfl dX12_pairs_74 ?_
    refine lv_iload_n hx hb dX12_pairs_77 rfl (lv_at hl 2 rfl) ?_
    obtain ⟨b4, h⟩ := z_gd h
    refine z_iald C0 hw 7 rfl rfl zri_7 (zin_in b4) dX12_pairs_78 ?_
    obtain ⟨v5, ev5, h⟩ := z_bd h
    refine z_top (Option.some.inj ev5) ?_
    refine lv_istore (lv' := [(6, .int v5), (0, .ref (F 0)), (1, .int x1), (2, .int x2), (3, .int x3), (4, .int x4), (5, .int x5)]) hx hb dX12_pairs_79 hl (by decide) rfl (fun ls hl => ?_)
    exact t_X12_pairs_d2_B81 C0 res zF w3 x1 x2 x3 x4 x5 v5 h _ _ _ hw hS (lv_sub hl [1, 2, 3, 4, 5, 6, 0] rfl)
  · replace h := z_ifp c1 h
    refine lv_iload hx hb dX12_pairs_6 (lv_at hl 5 rfl) ?_
    refine lv_aload_n hx hb dX12_pairs_8 rfl (lv_at hl 0 rfl) ?_
    refine z_get C0 in_X12_pairs_X12 (C := RX12) (T := TX12) (N := 27) hw (k := 0) (ci := 12) (v := .int ((zsc S 0 26))) rfl rfl rfl rfl 26 (by decide) rfl 1 rfl dX12_pairs_9 ?_
    refine lv_icmp_gt (tgt := 16) hx hb dX12_pairs_12 (by decide) (fun c14 => ?_) (fun c14 => ?_)
    · replace h := z_ifp c14 h
      refine lv_aload_n hx hb dX12_pairs_16 rfl (lv_at hl 0 rfl) ?_
      refine lv_iload hx hb dX12_pairs_17 (lv_at hl 5 rfl) ?_
      refine z_put C0 in_X12_pairs_X12 tyX12 tyX12_ok nmX12 (C := RX12) (T := TX12) (N := 27) hw hS (k := 0) (ci := 12) (v := x5) (ty := .int) rfl rfl rfl rfl 26 (by decide) 1 rfl rfl rfl rfl rfl (Nat.le_of_ble_eq_true rfl) rfl dX12_pairs_19 (fun H locs hw hS => ?_)
      refine lv_iconst (v := 0) hx hb dX12_pairs_22 (by decide) ?_
      refine lv_istore (lv' := [(6, .int 0), (0, .ref (F 0)), (1, .int x1), (2, .int x2), (3, .int x3), (4, .int x4), (5, .int x5)]) hx hb dX12_pairs_23 hl (by decide) rfl (fun ls hl => ?_)
      exact t_X12_pairs_d2_B25 C0 res zF ((zP S 0 26 x5)) 0 h _ _ _ hw hS (lv_sub hl [1, 0] rfl)
    · replace h := z_ifn c14 h
      exact z_retv C0 hw hS (Option.some.inj h) dX12_pairs_15
def M_X12_pairs_d3_B81 : Nat → zSt → Int32 → Int32 → Int32 → Int32 → Int32 → Int32 → Option (zSt)
  | 0, _, _, _, _, _, _, _ => none
  | n + 1, S, x1, x2, x3, x4, x5, x6 =>
  (if 6 ≤ x6 then some S else Option.bind (M_X12_has S x4 x6) (fun w7 => (if w7 = 0 then zg (zin x3 6) (Option.bind (M_X12_hasAll ((zAs S 17 (Int32.toNatClampNeg x3) x6)) x1 x3) (fun w10 => Option.bind (M_X12_hasAll ((zAs S 17 (Int32.toNatClampNeg x3) x6)) x2 x6) (fun w11 => Option.bind (M_J6_bitCount_0f7a4 ((zAs S 17 (Int32.toNatClampNeg x3) x6)) ((w10 &&& w11))) (fun w12 => Option.bind (M_X12_pairs_d2 ((zAs S 17 (Int32.toNatClampNeg x3) x6)) x1 x2 ((x3 + 1)) ((x4 ||| ((1 : Int32) <<< (x6 &&& 31)))) ((x5 + w12))) (fun w13 => M_X12_pairs_d3_B81 n w13 x1 x2 x3 x4 x5 ((x6 + 1))))))) else M_X12_pairs_d3_B81 n S x1 x2 x3 x4 x5 ((x6 + 1)))))
set_option maxHeartbeats 4000000 in
set_option maxRecDepth 100000 in
theorem t_X12_pairs_d3_B81 {p : Program} {l : Launch} {e : Env} {s : State} {m : MethodId} {args : Array Value} {below : List Frame} {meth : Method} {c : Code} {D : va_G} {Y : Nat → ClassId} {F : Nat → Nat} {A : Nat → Prop} {G : zG} (C0 : zCx p s m args meth c D Y F A RX12 cX12_pairs 7 none wsX12_pairs) (res : zSt) : ∀ (n : Nat), ∀ (S : zSt) (x1 : Int32) (x2 : Int32) (x3 : Int32) (x4 : Int32) (x5 : Int32) (x6 : Int32), M_X12_pairs_d3_B81 n S x1 x2 x3 x4 x5 x6 = some res → ∀ (H : Heap) (locs : List Loc) (ls : Array Slot), zH D Y F A G S H → va_S A s.heap H locs → lv_has ls 7 [(0, .ref (F 0)), (1, .int x1), (2, .int x2), (3, .int x3), (4, .int x4), (5, .int x5), (6, .int x6)] → W p l e (zRm 5 122) s m args below meth c H locs 0 0 (MQ below (zQv D Y F A G res) args s 0 0 A) (F0 m 81 ls []) := by
  obtain ⟨hx, hb, hml, hr, hown, hts, hK, hA, hlk, hN⟩ := id C0
  intro n
  induction n with
  | zero =>
    intro S x1 x2 x3 x4 x5 x6 h
    unfold M_X12_pairs_d3_B81 at h
    cases h
  | succ n ih =>
    intro S x1 x2 x3 x4 x5 x6 h H locs ls hw hS hl
    rw [M_X12_pairs_d3_B81] at h
    refine lv_iload hx hb dX12_pairs_81 (lv_at hl 6 rfl) ?_
    refine lv_bipush (v := 6) hx hb dX12_pairs_83 (by decide) ?_
    refine lv_icmp_ge (tgt := 151) hx hb dX12_pairs_85 (by decide) (fun c6 => ?_) (fun c6 => ?_)
    · replace h := z_ifp c6 h
      exact z_retv C0 hw hS (Option.some.inj h) dX12_pairs_151
    · replace h := z_ifn c6 h
      refine lv_iload hx hb dX12_pairs_88 (lv_at hl 4 rfl) ?_
      refine lv_iload hx hb dX12_pairs_90 (lv_at hl 6 rfl) ?_
      obtain ⟨w7, ew7, h⟩ := z_bd h
      refine z_callSip C0 hw hS (As := [.int x4, .int x6]) (rest := []) (c_X12_has l D Y F G S _ x4 x6 w7 ew7) (va_cwS 2 hts gX12_pairs_X12_has rfl rfl rfl (by decide +kernel) ⟨Nat.le_of_ble_eq_true rfl, Nat.le_of_ble_eq_true rfl⟩) rfl hl.1 rfl (Nat.le_of_ble_eq_true rfl) dX12_pairs_92 ⟨Nat.zero_le _, Nat.zero_le _⟩ (fun H locs hw hS => ?_)
      refine lv_if_eq (tgt := 101) hx hb dX12_pairs_95 (by decide) (fun c8 => ?_) (fun c8 => ?_)
      · replace h := z_ifp c8 h
        refine lv_aload_n hx hb dX12_pairs_101 rfl (lv_at hl 0 rfl) ?_
        refine z_get C0 in_X12_pairs_X12 (C := RX12) (T := TX12) (N := 27) hw (k := 0) (ci := 12) (v := .ref (F 17)) rfl rfl rfl rfl 24 (by decide) rfl 3 rfl dX12_pairs_102 ?_
        refine lv_iload_n hx hb dX12_pairs_105 rfl (lv_at hl 3 rfl) ?_
        refine lv_iload hx hb dX12_pairs_106 (lv_at hl 6 rfl) ?_
        obtain ⟨b9, h⟩ := z_gd h
        refine z_iasts C0 hw hS 17 rfl rfl zri_17 (zin_in b9) dX12_pairs_108 (fun H locs hw hS => ?_)
        refine lv_aload_n hx hb dX12_pairs_109 rfl (lv_at hl 0 rfl) ?_
        refine lv_iload_n hx hb dX12_pairs_110 rfl (lv_at hl 1 rfl) ?_
        refine lv_iload_n hx hb dX12_pairs_111 rfl (lv_at hl 2 rfl) ?_
        refine lv_iload_n hx hb dX12_pairs_112 rfl (lv_at hl 3 rfl) ?_
        refine lv_iconst (v := 1) hx hb dX12_pairs_113 (by decide) ?_
        refine lv_iadd hx hb dX12_pairs_114 ?_
        refine lv_iload hx hb dX12_pairs_115 (lv_at hl 4 rfl) ?_
        refine lv_iconst (v := 1) hx hb dX12_pairs_117 (by decide) ?_
        refine lv_iload hx hb dX12_pairs_118 (lv_at hl 6 rfl) ?_
        refine lv_ishl hx hb dX12_pairs_120 ?_
        refine lv_ior hx hb dX12_pairs_121 ?_
        refine lv_iload hx hb dX12_pairs_122 (lv_at hl 5 rfl) ?_
        refine lv_aload_n hx hb dX12_pairs_124 rfl (lv_at hl 0 rfl) ?_
        refine lv_iload_n hx hb dX12_pairs_125 rfl (lv_at hl 1 rfl) ?_
        refine lv_iload_n hx hb dX12_pairs_126 rfl (lv_at hl 3 rfl) ?_
        obtain ⟨w10, ew10, h⟩ := z_bd h
        refine z_callVip C0 hw hS (k := 0) (As := [.int x1, .int x3]) (rest := [.int x5, .int ((x4 ||| ((1 : Int32) <<< (x6 &&& 31)))), .int ((x3 + 1)), .int x2, .int x1, .ref (F 0)]) rfl rfl rfl rfl (c_X12_hasAll l D Y F G ((zAs S 17 (Int32.toNatClampNeg x3) x6)) _ x1 x3 w10 ew10) (cwV 2 hts gX12_pairs_X12_hasAll rfl rfl rfl (by decide +kernel) ⟨Nat.le_of_ble_eq_true rfl, Nat.le_of_ble_eq_true rfl⟩) rfl hl.1 rfl (Nat.le_of_ble_eq_true rfl) dX12_pairs_127 ⟨Nat.zero_le _, Nat.zero_le _⟩ (fun H locs hw hS => ?_)
        refine lv_aload_n hx hb dX12_pairs_130 rfl (lv_at hl 0 rfl) ?_
        refine lv_iload_n hx hb dX12_pairs_131 rfl (lv_at hl 2 rfl) ?_
        refine lv_iload hx hb dX12_pairs_132 (lv_at hl 6 rfl) ?_
        obtain ⟨w11, ew11, h⟩ := z_bd h
        refine z_callVip C0 hw hS (k := 0) (As := [.int x2, .int x6]) (rest := [.int w10, .int x5, .int ((x4 ||| ((1 : Int32) <<< (x6 &&& 31)))), .int ((x3 + 1)), .int x2, .int x1, .ref (F 0)]) rfl rfl rfl rfl (c_X12_hasAll l D Y F G ((zAs S 17 (Int32.toNatClampNeg x3) x6)) _ x2 x6 w11 ew11) (cwV 2 hts gX12_pairs_X12_hasAll rfl rfl rfl (by decide +kernel) ⟨Nat.le_of_ble_eq_true rfl, Nat.le_of_ble_eq_true rfl⟩) rfl hl.1 rfl (Nat.le_of_ble_eq_true rfl) dX12_pairs_134 ⟨Nat.zero_le _, Nat.zero_le _⟩ (fun H locs hw hS => ?_)
        refine lv_iand hx hb dX12_pairs_137 ?_
        obtain ⟨w12, ew12, h⟩ := z_bd h
        refine z_callSip C0 hw hS (As := [.int ((w10 &&& w11))]) (rest := [.int x5, .int ((x4 ||| ((1 : Int32) <<< (x6 &&& 31)))), .int ((x3 + 1)), .int x2, .int x1, .ref (F 0)]) (c_J6_bitCount_0f7a4 l D Y F G ((zAs S 17 (Int32.toNatClampNeg x3) x6)) _ ((w10 &&& w11)) w12 ew12) (va_cwS 1 hts gX12_pairs_J6_bitCount_0f7a4 rfl rfl rfl (by decide +kernel) ⟨Nat.le_of_ble_eq_true rfl, Nat.le_of_ble_eq_true rfl⟩) rfl hl.1 rfl (Nat.le_of_ble_eq_true rfl) dX12_pairs_138 ⟨Nat.zero_le _, Nat.zero_le _⟩ (fun H locs hw hS => ?_)
        refine lv_iadd hx hb dX12_pairs_141 ?_
        obtain ⟨w13, ew13, h⟩ := z_bd h
        refine z_callVv0 C0 hw hS (k := 0) (As := [.int x1, .int x2, .int ((x3 + 1)), .int ((x4 ||| ((1 : Int32) <<< (x6 &&& 31)))), .int ((x5 + w12))]) (rest := []) rfl rfl rfl rfl (c_X12_pairs_d2 l D Y F G ((zAs S 17 (Int32.toNatClampNeg x3) x6)) _ x1 x2 ((x3 + 1)) ((x4 ||| ((1 : Int32) <<< (x6 &&& 31)))) ((x5 + w12)) w13 ew13) (cwV 5 hts gX12_pairs_X12_pairs rfl rfl rfl (by decide +kernel) ⟨Nat.le_of_ble_eq_true rfl, Nat.le_of_ble_eq_true rfl⟩) rfl hl.1 rfl (Nat.le_of_ble_eq_true rfl) dX12_pairs_142 ⟨Nat.zero_le _, Nat.zero_le _⟩ (fun H locs hw hS => ?_)
        refine lv_iinc (v := (x6 + 1)) (lv' := [(6, .int ((x6 + 1))), (0, .ref (F 0)), (1, .int x1), (2, .int x2), (3, .int x3), (4, .int x4), (5, .int x5)]) hx hb dX12_pairs_145 hl (k := 6) rfl rfl (by decide) rfl (fun ls hl => ?_)
        refine lv_goto (tgt := 81) hx hb dX12_pairs_148 (by decide) ?_
        exact ih w13 x1 x2 x3 x4 x5 ((x6 + 1)) h _ _ _ hw hS (lv_sub hl [1, 2, 3, 4, 5, 6, 0] rfl)
      · replace h := z_ifn c8 h
        refine lv_goto (tgt := 145) hx hb dX12_pairs_98 (by decide) ?_
        refine lv_iinc (v := (x6 + 1)) (lv' := [(6, .int ((x6 + 1))), (0, .ref (F 0)), (1, .int x1), (2, .int x2), (3, .int x3), (4, .int x4), (5, .int x5)]) hx hb dX12_pairs_145 hl (k := 6) rfl rfl (by decide) rfl (fun ls hl => ?_)
        refine lv_goto (tgt := 81) hx hb dX12_pairs_148 (by decide) ?_
        exact ih S x1 x2 x3 x4 x5 ((x6 + 1)) h _ _ _ hw hS (lv_sub hl [1, 2, 3, 4, 5, 6, 0] rfl)
def M_X12_pairs_d3_B25 : Nat → zSt → Int32 → Option (zSt)
  | 0, _, _ => none
  | n + 1, S, x6 =>
  (if 6 ≤ x6 then some S else zg (zin x6 6) (zg (zin x6 6) (M_X12_pairs_d3_B25 n ((zAs S 18 (Int32.toNatClampNeg x6) ((zar S 17 (Int32.toNatClampNeg x6))))) ((x6 + 1)))))
set_option maxHeartbeats 4000000 in
set_option maxRecDepth 100000 in
theorem t_X12_pairs_d3_B25 {p : Program} {l : Launch} {e : Env} {s : State} {m : MethodId} {args : Array Value} {below : List Frame} {meth : Method} {c : Code} {D : va_G} {Y : Nat → ClassId} {F : Nat → Nat} {A : Nat → Prop} {G : zG} (C0 : zCx p s m args meth c D Y F A RX12 cX12_pairs 7 none wsX12_pairs) (res : zSt) : ∀ (n : Nat), ∀ (S : zSt) (x6 : Int32), M_X12_pairs_d3_B25 n S x6 = some res → ∀ (H : Heap) (locs : List Loc) (ls : Array Slot), zH D Y F A G S H → va_S A s.heap H locs → lv_has ls 7 [(0, .ref (F 0)), (6, .int x6)] → W p l e (zRm 5 122) s m args below meth c H locs 0 0 (MQ below (zQv D Y F A G res) args s 0 0 A) (F0 m 25 ls []) := by
  obtain ⟨hx, hb, hml, hr, hown, hts, hK, hA, hlk, hN⟩ := id C0
  intro n
  induction n with
  | zero =>
    intro S x6 h
    unfold M_X12_pairs_d3_B25 at h
    cases h
  | succ n ih =>
    intro S x6 h H locs ls hw hS hl
    rw [M_X12_pairs_d3_B25] at h
    refine lv_iload hx hb dX12_pairs_25 (lv_at hl 1 rfl) ?_
    refine lv_bipush (v := 6) hx hb dX12_pairs_27 (by decide) ?_
    refine lv_icmp_ge (tgt := 52) hx hb dX12_pairs_29 (by decide) (fun c15 => ?_) (fun c15 => ?_)
    · replace h := z_ifp c15 h
      exact z_retv C0 hw hS (Option.some.inj h) dX12_pairs_52
    · replace h := z_ifn c15 h
      refine lv_aload_n hx hb dX12_pairs_32 rfl (lv_at hl 0 rfl) ?_
      refine z_get C0 in_X12_pairs_X12 (C := RX12) (T := TX12) (N := 27) hw (k := 0) (ci := 12) (v := .ref (F 18)) rfl rfl rfl rfl 25 (by decide) rfl 2 rfl dX12_pairs_33 ?_
      refine lv_iload hx hb dX12_pairs_36 (lv_at hl 1 rfl) ?_
      refine lv_aload_n hx hb dX12_pairs_38 rfl (lv_at hl 0 rfl) ?_
      refine z_get C0 in_X12_pairs_X12 (C := RX12) (T := TX12) (N := 27) hw (k := 0) (ci := 12) (v := .ref (F 17)) rfl rfl rfl rfl 24 (by decide) rfl 3 rfl dX12_pairs_39 ?_
      refine lv_iload hx hb dX12_pairs_42 (lv_at hl 1 rfl) ?_
      obtain ⟨b16, h⟩ := z_gd h
      refine z_iald C0 hw 17 rfl rfl zri_17 (zin_in b16) dX12_pairs_44 ?_
      obtain ⟨b17, h⟩ := z_gd h
      refine z_iasts C0 hw hS 18 rfl rfl zri_18 (zin_in b17) dX12_pairs_45 (fun H locs hw hS => ?_)
      refine lv_iinc (v := (x6 + 1)) (lv' := [(6, .int ((x6 + 1))), (0, .ref (F 0))]) hx hb dX12_pairs_46 hl (k := 1) rfl rfl (by decide) rfl (fun ls hl => ?_)
      refine lv_goto (tgt := 25) hx hb dX12_pairs_49 (by decide) ?_
      exact ih ((zAs S 18 (Int32.toNatClampNeg x6) ((zar S 17 (Int32.toNatClampNeg x6))))) ((x6 + 1)) h _ _ _ hw hS (lv_sub hl [1, 0] rfl)
def M_X12_pairs_d3 (S : zSt) (x1 : Int32) (x2 : Int32) (x3 : Int32) (x4 : Int32) (x5 : Int32) : Option (zSt) :=
  (if x3 = 6 then (if (zsc S 0 26) < x5 then M_X12_pairs_d3_B25 zF ((zP S 0 26 x5)) 0 else some S) else zg (zin x3 6) (Option.bind (M_X12_pairs_d2 ((zAs S 17 (Int32.toNatClampNeg x3) (-1))) x1 x2 ((x3 + 1)) x4 x5) (fun w3 => zg (zin x2 6) (Option.bind (some ((zar w3 7 (Int32.toNatClampNeg x2)))) (fun v5 => M_X12_pairs_d3_B81 zF w3 x1 x2 x3 x4 x5 v5)))))
set_option maxHeartbeats 4000000 in
set_option maxRecDepth 100000 in
theorem c_X12_pairs_d3 (l : Launch) (D : va_G) (Y : Nat → ClassId) (F : Nat → Nat) (G : zG) (S : zSt) (sz : Nat) (x1 : Int32) (x2 : Int32) (x3 : Int32) (x4 : Int32) (x5 : Int32) (res : zSt) (h : M_X12_pairs_d3 S x1 x2 x3 x4 x5 = some res) : Met l yX12_pairs wsX12_pairs (zRm 5 122) (zPc D Y F G S sz [.ref (F 0), .int x1, .int x2, .int x3, .int x4, .int x5]) (zQv D Y F (zAo F G sz) G res) 0 0 (zAo F G sz) := by
  unfold M_X12_pairs_d3 at h
  refine zMet (cc := cX12_pairs) (maxL := 7) (ret := none) (own := RX12) (by decide +kernel) rfl rfl (Nat.le_of_ble_eq_true rfl) ?_
  intro p e s m args below meth c C0 hin hw hS ls hl
  have hl : lv_has ls 7 [(0, .ref (F 0)), (1, .int x1), (2, .int x2), (3, .int x3), (4, .int x4), (5, .int x5)] := hl
  generalize zAo F G sz = A at C0 hw hS ⊢
  obtain ⟨hx, hb, hml, hr, hown, hts, hK, hA, hlk, hN⟩ := id C0
  refine lv_iload_n hx hb dX12_pairs_0 rfl (lv_at hl 3 rfl) ?_
  refine lv_bipush (v := 6) hx hb dX12_pairs_1 (by decide) ?_
  refine lv_icmp_ne (tgt := 53) hx hb dX12_pairs_3 (by decide) (fun c1 => ?_) (fun c1 => ?_)
  · replace h := z_ifn c1 h
    refine lv_aload_n hx hb dX12_pairs_53 rfl (lv_at hl 0 rfl) ?_
    refine z_get C0 in_X12_pairs_X12 (C := RX12) (T := TX12) (N := 27) hw (k := 0) (ci := 12) (v := .ref (F 17)) rfl rfl rfl rfl 24 (by decide) rfl 3 rfl dX12_pairs_54 ?_
    refine lv_iload_n hx hb dX12_pairs_57 rfl (lv_at hl 3 rfl) ?_
    refine lv_iconst (v := (-1)) hx hb dX12_pairs_58 (by decide) ?_
    obtain ⟨b2, h⟩ := z_gd h
    refine z_iasts C0 hw hS 17 rfl rfl zri_17 (zin_in b2) dX12_pairs_59 (fun H locs hw hS => ?_)
    refine lv_aload_n hx hb dX12_pairs_60 rfl (lv_at hl 0 rfl) ?_
    refine lv_iload_n hx hb dX12_pairs_61 rfl (lv_at hl 1 rfl) ?_
    refine lv_iload_n hx hb dX12_pairs_62 rfl (lv_at hl 2 rfl) ?_
    refine lv_iload_n hx hb dX12_pairs_63 rfl (lv_at hl 3 rfl) ?_
    refine lv_iconst (v := 1) hx hb dX12_pairs_64 (by decide) ?_
    refine lv_iadd hx hb dX12_pairs_65 ?_
    refine lv_iload hx hb dX12_pairs_66 (lv_at hl 4 rfl) ?_
    refine lv_iload hx hb dX12_pairs_68 (lv_at hl 5 rfl) ?_
    obtain ⟨w3, ew3, h⟩ := z_bd h
    refine z_callVv0 C0 hw hS (k := 0) (As := [.int x1, .int x2, .int ((x3 + 1)), .int x4, .int x5]) (rest := []) rfl rfl rfl rfl (c_X12_pairs_d2 l D Y F G ((zAs S 17 (Int32.toNatClampNeg x3) (-1))) _ x1 x2 ((x3 + 1)) x4 x5 w3 ew3) (cwV 5 hts gX12_pairs_X12_pairs rfl rfl rfl (by decide +kernel) ⟨Nat.le_of_ble_eq_true rfl, Nat.le_of_ble_eq_true rfl⟩) rfl hl.1 rfl (Nat.le_of_ble_eq_true rfl) dX12_pairs_70 ⟨Nat.zero_le _, Nat.zero_le _⟩ (fun H locs hw hS => ?_)
    refine lv_aload_n hx hb dX12_pairs_73 rfl (lv_at hl 0 rfl) ?_
    refine z_get C0 in_X12_pairs_X12 (C := RX12) (T := TX12) (N := 27) hw (k := 0) (ci := 12) (v := .ref (F 7)) rfl rfl rfl rfl 7 (by decide) rfl 4 rfl dX12_pairs_74 ?_
    refine lv_iload_n hx hb dX12_pairs_77 rfl (lv_at hl 2 rfl) ?_
    obtain ⟨b4, h⟩ := z_gd h
    refine z_iald C0 hw 7 rfl rfl zri_7 (zin_in b4) dX12_pairs_78 ?_
    obtain ⟨v5, ev5, h⟩ := z_bd h
    refine z_top (Option.some.inj ev5) ?_
    refine lv_istore (lv' := [(6, .int v5), (0, .ref (F 0)), (1, .int x1), (2, .int x2), (3, .int x3), (4, .int x4), (5, .int x5)]) hx hb dX12_pairs_79 hl (by decide) rfl (fun ls hl => ?_)
    exact t_X12_pairs_d3_B81 C0 res zF w3 x1 x2 x3 x4 x5 v5 h _ _ _ hw hS (lv_sub hl [1, 2, 3, 4, 5, 6, 0] rfl)
  · replace h := z_ifp c1 h
    refine lv_iload hx hb dX12_pairs_6 (lv_at hl 5 rfl) ?_
    refine lv_aload_n hx hb dX12_pairs_8 rfl (lv_at hl 0 rfl) ?_
    refine z_get C0 in_X12_pairs_X12 (C := RX12) (T := TX12) (N := 27) hw (k := 0) (ci := 12) (v := .int ((zsc S 0 26))) rfl rfl rfl rfl 26 (by decide) rfl 1 rfl dX12_pairs_9 ?_
    refine lv_icmp_gt (tgt := 16) hx hb dX12_pairs_12 (by decide) (fun c14 => ?_) (fun c14 => ?_)
    · replace h := z_ifp c14 h
      refine lv_aload_n hx hb dX12_pairs_16 rfl (lv_at hl 0 rfl) ?_
      refine lv_iload hx hb dX12_pairs_17 (lv_at hl 5 rfl) ?_
      refine z_put C0 in_X12_pairs_X12 tyX12 tyX12_ok nmX12 (C := RX12) (T := TX12) (N := 27) hw hS (k := 0) (ci := 12) (v := x5) (ty := .int) rfl rfl rfl rfl 26 (by decide) 1 rfl rfl rfl rfl rfl (Nat.le_of_ble_eq_true rfl) rfl dX12_pairs_19 (fun H locs hw hS => ?_)
      refine lv_iconst (v := 0) hx hb dX12_pairs_22 (by decide) ?_
      refine lv_istore (lv' := [(6, .int 0), (0, .ref (F 0)), (1, .int x1), (2, .int x2), (3, .int x3), (4, .int x4), (5, .int x5)]) hx hb dX12_pairs_23 hl (by decide) rfl (fun ls hl => ?_)
      exact t_X12_pairs_d3_B25 C0 res zF ((zP S 0 26 x5)) 0 h _ _ _ hw hS (lv_sub hl [1, 0] rfl)
    · replace h := z_ifn c14 h
      exact z_retv C0 hw hS (Option.some.inj h) dX12_pairs_15
def M_X12_pairs_d4_B81 : Nat → zSt → Int32 → Int32 → Int32 → Int32 → Int32 → Int32 → Option (zSt)
  | 0, _, _, _, _, _, _, _ => none
  | n + 1, S, x1, x2, x3, x4, x5, x6 =>
  (if 6 ≤ x6 then some S else Option.bind (M_X12_has S x4 x6) (fun w7 => (if w7 = 0 then zg (zin x3 6) (Option.bind (M_X12_hasAll ((zAs S 17 (Int32.toNatClampNeg x3) x6)) x1 x3) (fun w10 => Option.bind (M_X12_hasAll ((zAs S 17 (Int32.toNatClampNeg x3) x6)) x2 x6) (fun w11 => Option.bind (M_J6_bitCount_0f7a4 ((zAs S 17 (Int32.toNatClampNeg x3) x6)) ((w10 &&& w11))) (fun w12 => Option.bind (M_X12_pairs_d3 ((zAs S 17 (Int32.toNatClampNeg x3) x6)) x1 x2 ((x3 + 1)) ((x4 ||| ((1 : Int32) <<< (x6 &&& 31)))) ((x5 + w12))) (fun w13 => M_X12_pairs_d4_B81 n w13 x1 x2 x3 x4 x5 ((x6 + 1))))))) else M_X12_pairs_d4_B81 n S x1 x2 x3 x4 x5 ((x6 + 1)))))
set_option maxHeartbeats 4000000 in
set_option maxRecDepth 100000 in
theorem t_X12_pairs_d4_B81 {p : Program} {l : Launch} {e : Env} {s : State} {m : MethodId} {args : Array Value} {below : List Frame} {meth : Method} {c : Code} {D : va_G} {Y : Nat → ClassId} {F : Nat → Nat} {A : Nat → Prop} {G : zG} (C0 : zCx p s m args meth c D Y F A RX12 cX12_pairs 7 none wsX12_pairs) (res : zSt) : ∀ (n : Nat), ∀ (S : zSt) (x1 : Int32) (x2 : Int32) (x3 : Int32) (x4 : Int32) (x5 : Int32) (x6 : Int32), M_X12_pairs_d4_B81 n S x1 x2 x3 x4 x5 x6 = some res → ∀ (H : Heap) (locs : List Loc) (ls : Array Slot), zH D Y F A G S H → va_S A s.heap H locs → lv_has ls 7 [(0, .ref (F 0)), (1, .int x1), (2, .int x2), (3, .int x3), (4, .int x4), (5, .int x5), (6, .int x6)] → W p l e (zRm 6 148) s m args below meth c H locs 0 0 (MQ below (zQv D Y F A G res) args s 0 0 A) (F0 m 81 ls []) := by
  obtain ⟨hx, hb, hml, hr, hown, hts, hK, hA, hlk, hN⟩ := id C0
  intro n
  induction n with
  | zero =>
    intro S x1 x2 x3 x4 x5 x6 h
    unfold M_X12_pairs_d4_B81 at h
    cases h
  | succ n ih =>
    intro S x1 x2 x3 x4 x5 x6 h H locs ls hw hS hl
    rw [M_X12_pairs_d4_B81] at h
    refine lv_iload hx hb dX12_pairs_81 (lv_at hl 6 rfl) ?_
    refine lv_bipush (v := 6) hx hb dX12_pairs_83 (by decide) ?_
    refine lv_icmp_ge (tgt := 151) hx hb dX12_pairs_85 (by decide) (fun c6 => ?_) (fun c6 => ?_)
    · replace h := z_ifp c6 h
      exact z_retv C0 hw hS (Option.some.inj h) dX12_pairs_151
    · replace h := z_ifn c6 h
      refine lv_iload hx hb dX12_pairs_88 (lv_at hl 4 rfl) ?_
      refine lv_iload hx hb dX12_pairs_90 (lv_at hl 6 rfl) ?_
      obtain ⟨w7, ew7, h⟩ := z_bd h
      refine z_callSip C0 hw hS (As := [.int x4, .int x6]) (rest := []) (c_X12_has l D Y F G S _ x4 x6 w7 ew7) (va_cwS 2 hts gX12_pairs_X12_has rfl rfl rfl (by decide +kernel) ⟨Nat.le_of_ble_eq_true rfl, Nat.le_of_ble_eq_true rfl⟩) rfl hl.1 rfl (Nat.le_of_ble_eq_true rfl) dX12_pairs_92 ⟨Nat.zero_le _, Nat.zero_le _⟩ (fun H locs hw hS => ?_)
      refine lv_if_eq (tgt := 101) hx hb dX12_pairs_95 (by decide) (fun c8 => ?_) (fun c8 => ?_)
      · replace h := z_ifp c8 h
        refine lv_aload_n hx hb dX12_pairs_101 rfl (lv_at hl 0 rfl) ?_
        refine z_get C0 in_X12_pairs_X12 (C := RX12) (T := TX12) (N := 27) hw (k := 0) (ci := 12) (v := .ref (F 17)) rfl rfl rfl rfl 24 (by decide) rfl 3 rfl dX12_pairs_102 ?_
        refine lv_iload_n hx hb dX12_pairs_105 rfl (lv_at hl 3 rfl) ?_
        refine lv_iload hx hb dX12_pairs_106 (lv_at hl 6 rfl) ?_
        obtain ⟨b9, h⟩ := z_gd h
        refine z_iasts C0 hw hS 17 rfl rfl zri_17 (zin_in b9) dX12_pairs_108 (fun H locs hw hS => ?_)
        refine lv_aload_n hx hb dX12_pairs_109 rfl (lv_at hl 0 rfl) ?_
        refine lv_iload_n hx hb dX12_pairs_110 rfl (lv_at hl 1 rfl) ?_
        refine lv_iload_n hx hb dX12_pairs_111 rfl (lv_at hl 2 rfl) ?_
        refine lv_iload_n hx hb dX12_pairs_112 rfl (lv_at hl 3 rfl) ?_
        refine lv_iconst (v := 1) hx hb dX12_pairs_113 (by decide) ?_
        refine lv_iadd hx hb dX12_pairs_114 ?_
        refine lv_iload hx hb dX12_pairs_115 (lv_at hl 4 rfl) ?_
        refine lv_iconst (v := 1) hx hb dX12_pairs_117 (by decide) ?_
        refine lv_iload hx hb dX12_pairs_118 (lv_at hl 6 rfl) ?_
        refine lv_ishl hx hb dX12_pairs_120 ?_
        refine lv_ior hx hb dX12_pairs_121 ?_
        refine lv_iload hx hb dX12_pairs_122 (lv_at hl 5 rfl) ?_
        refine lv_aload_n hx hb dX12_pairs_124 rfl (lv_at hl 0 rfl) ?_
        refine lv_iload_n hx hb dX12_pairs_125 rfl (lv_at hl 1 rfl) ?_
        refine lv_iload_n hx hb dX12_pairs_126 rfl (lv_at hl 3 rfl) ?_
        obtain ⟨w10, ew10, h⟩ := z_bd h
        refine z_callVip C0 hw hS (k := 0) (As := [.int x1, .int x3]) (rest := [.int x5, .int ((x4 ||| ((1 : Int32) <<< (x6 &&& 31)))), .int ((x3 + 1)), .int x2, .int x1, .ref (F 0)]) rfl rfl rfl rfl (c_X12_hasAll l D Y F G ((zAs S 17 (Int32.toNatClampNeg x3) x6)) _ x1 x3 w10 ew10) (cwV 2 hts gX12_pairs_X12_hasAll rfl rfl rfl (by decide +kernel) ⟨Nat.le_of_ble_eq_true rfl, Nat.le_of_ble_eq_true rfl⟩) rfl hl.1 rfl (Nat.le_of_ble_eq_true rfl) dX12_pairs_127 ⟨Nat.zero_le _, Nat.zero_le _⟩ (fun H locs hw hS => ?_)
        refine lv_aload_n hx hb dX12_pairs_130 rfl (lv_at hl 0 rfl) ?_
        refine lv_iload_n hx hb dX12_pairs_131 rfl (lv_at hl 2 rfl) ?_
        refine lv_iload hx hb dX12_pairs_132 (lv_at hl 6 rfl) ?_
        obtain ⟨w11, ew11, h⟩ := z_bd h
        refine z_callVip C0 hw hS (k := 0) (As := [.int x2, .int x6]) (rest := [.int w10, .int x5, .int ((x4 ||| ((1 : Int32) <<< (x6 &&& 31)))), .int ((x3 + 1)), .int x2, .int x1, .ref (F 0)]) rfl rfl rfl rfl (c_X12_hasAll l D Y F G ((zAs S 17 (Int32.toNatClampNeg x3) x6)) _ x2 x6 w11 ew11) (cwV 2 hts gX12_pairs_X12_hasAll rfl rfl rfl (by decide +kernel) ⟨Nat.le_of_ble_eq_true rfl, Nat.le_of_ble_eq_true rfl⟩) rfl hl.1 rfl (Nat.le_of_ble_eq_true rfl) dX12_pairs_134 ⟨Nat.zero_le _, Nat.zero_le _⟩ (fun H locs hw hS => ?_)
        refine lv_iand hx hb dX12_pairs_137 ?_
        obtain ⟨w12, ew12, h⟩ := z_bd h
        refine z_callSip C0 hw hS (As := [.int ((w10 &&& w11))]) (rest := [.int x5, .int ((x4 ||| ((1 : Int32) <<< (x6 &&& 31)))), .int ((x3 + 1)), .int x2, .int x1, .ref (F 0)]) (c_J6_bitCount_0f7a4 l D Y F G ((zAs S 17 (Int32.toNatClampNeg x3) x6)) _ ((w10 &&& w11)) w12 ew12) (va_cwS 1 hts gX12_pairs_J6_bitCount_0f7a4 rfl rfl rfl (by decide +kernel) ⟨Nat.le_of_ble_eq_true rfl, Nat.le_of_ble_eq_true rfl⟩) rfl hl.1 rfl (Nat.le_of_ble_eq_true rfl) dX12_pairs_138 ⟨Nat.zero_le _, Nat.zero_le _⟩ (fun H locs hw hS => ?_)
        refine lv_iadd hx hb dX12_pairs_141 ?_
        obtain ⟨w13, ew13, h⟩ := z_bd h
        refine z_callVv0 C0 hw hS (k := 0) (As := [.int x1, .int x2, .int ((x3 + 1)), .int ((x4 ||| ((1 : Int32) <<< (x6 &&& 31)))), .int ((x5 + w12))]) (rest := []) rfl rfl rfl rfl (c_X12_pairs_d3 l D Y F G ((zAs S 17 (Int32.toNatClampNeg x3) x6)) _ x1 x2 ((x3 + 1)) ((x4 ||| ((1 : Int32) <<< (x6 &&& 31)))) ((x5 + w12)) w13 ew13) (cwV 5 hts gX12_pairs_X12_pairs rfl rfl rfl (by decide +kernel) ⟨Nat.le_of_ble_eq_true rfl, Nat.le_of_ble_eq_true rfl⟩) rfl hl.1 rfl (Nat.le_of_ble_eq_true rfl) dX12_pairs_142 ⟨Nat.zero_le _, Nat.zero_le _⟩ (fun H locs hw hS => ?_)
        refine lv_iinc (v := (x6 + 1)) (lv' := [(6, .int ((x6 + 1))), (0, .ref (F 0)), (1, .int x1), (2, .int x2), (3, .int x3), (4, .int x4), (5, .int x5)]) hx hb dX12_pairs_145 hl (k := 6) rfl rfl (by decide) rfl (fun ls hl => ?_)
        refine lv_goto (tgt := 81) hx hb dX12_pairs_148 (by decide) ?_
        exact ih w13 x1 x2 x3 x4 x5 ((x6 + 1)) h _ _ _ hw hS (lv_sub hl [1, 2, 3, 4, 5, 6, 0] rfl)
      · replace h := z_ifn c8 h
        refine lv_goto (tgt := 145) hx hb dX12_pairs_98 (by decide) ?_
        refine lv_iinc (v := (x6 + 1)) (lv' := [(6, .int ((x6 + 1))), (0, .ref (F 0)), (1, .int x1), (2, .int x2), (3, .int x3), (4, .int x4), (5, .int x5)]) hx hb dX12_pairs_145 hl (k := 6) rfl rfl (by decide) rfl (fun ls hl => ?_)
        refine lv_goto (tgt := 81) hx hb dX12_pairs_148 (by decide) ?_
        exact ih S x1 x2 x3 x4 x5 ((x6 + 1)) h _ _ _ hw hS (lv_sub hl [1, 2, 3, 4, 5, 6, 0] rfl)
def M_X12_pairs_d4_B25 : Nat → zSt → Int32 → Option (zSt)
  | 0, _, _ => none
  | n + 1, S, x6 =>
  (if 6 ≤ x6 then some S else zg (zin x6 6) (zg (zin x6 6) (M_X12_pairs_d4_B25 n ((zAs S 18 (Int32.toNatClampNeg x6) ((zar S 17 (Int32.toNatClampNeg x6))))) ((x6 + 1)))))
set_option maxHeartbeats 4000000 in
set_option maxRecDepth 100000 in
theorem t_X12_pairs_d4_B25 {p : Program} {l : Launch} {e : Env} {s : State} {m : MethodId} {args : Array Value} {below : List Frame} {meth : Method} {c : Code} {D : va_G} {Y : Nat → ClassId} {F : Nat → Nat} {A : Nat → Prop} {G : zG} (C0 : zCx p s m args meth c D Y F A RX12 cX12_pairs 7 none wsX12_pairs) (res : zSt) : ∀ (n : Nat), ∀ (S : zSt) (x6 : Int32), M_X12_pairs_d4_B25 n S x6 = some res → ∀ (H : Heap) (locs : List Loc) (ls : Array Slot), zH D Y F A G S H → va_S A s.heap H locs → lv_has ls 7 [(0, .ref (F 0)), (6, .int x6)] → W p l e (zRm 6 148) s m args below meth c H locs 0 0 (MQ below (zQv D Y F A G res) args s 0 0 A) (F0 m 25 ls []) := by
  obtain ⟨hx, hb, hml, hr, hown, hts, hK, hA, hlk, hN⟩ := id C0
  intro n
  induction n with
  | zero =>
    intro S x6 h
    unfold M_X12_pairs_d4_B25 at h
    cases h
  | succ n ih =>
    intro S x6 h H locs ls hw hS hl
    rw [M_X12_pairs_d4_B25] at h
    refine lv_iload hx hb dX12_pairs_25 (lv_at hl 1 rfl) ?_
    refine lv_bipush (v := 6) hx hb dX12_pairs_27 (by decide) ?_
    refine lv_icmp_ge (tgt := 52) hx hb dX12_pairs_29 (by decide) (fun c15 => ?_) (fun c15 => ?_)
    · replace h := z_ifp c15 h
      exact z_retv C0 hw hS (Option.some.inj h) dX12_pairs_52
    · replace h := z_ifn c15 h
      refine lv_aload_n hx hb dX12_pairs_32 rfl (lv_at hl 0 rfl) ?_
      refine z_get C0 in_X12_pairs_X12 (C := RX12) (T := TX12) (N := 27) hw (k := 0) (ci := 12) (v := .ref (F 18)) rfl rfl rfl rfl 25 (by decide) rfl 2 rfl dX12_pairs_33 ?_
      refine lv_iload hx hb dX12_pairs_36 (lv_at hl 1 rfl) ?_
      refine lv_aload_n hx hb dX12_pairs_38 rfl (lv_at hl 0 rfl) ?_
      refine z_get C0 in_X12_pairs_X12 (C := RX12) (T := TX12) (N := 27) hw (k := 0) (ci := 12) (v := .ref (F 17)) rfl rfl rfl rfl 24 (by decide) rfl 3 rfl dX12_pairs_39 ?_
      refine lv_iload hx hb dX12_pairs_42 (lv_at hl 1 rfl) ?_
      obtain ⟨b16, h⟩ := z_gd h
      refine z_iald C0 hw 17 rfl rfl zri_17 (zin_in b16) dX12_pairs_44 ?_
      obtain ⟨b17, h⟩ := z_gd h
      refine z_iasts C0 hw hS 18 rfl rfl zri_18 (zin_in b17) dX12_pairs_45 (fun H locs hw hS => ?_)
      refine lv_iinc (v := (x6 + 1)) (lv' := [(6, .int ((x6 + 1))), (0, .ref (F 0))]) hx hb dX12_pairs_46 hl (k := 1) rfl rfl (by decide) rfl (fun ls hl => ?_)
      refine lv_goto (tgt := 25) hx hb dX12_pairs_49 (by decide) ?_
      exact ih ((zAs S 18 (Int32.toNatClampNeg x6) ((zar S 17 (Int32.toNatClampNeg x6))))) ((x6 + 1)) h _ _ _ hw hS (lv_sub hl [1, 0] rfl)
def M_X12_pairs_d4 (S : zSt) (x1 : Int32) (x2 : Int32) (x3 : Int32) (x4 : Int32) (x5 : Int32) : Option (zSt) :=
  (if x3 = 6 then (if (zsc S 0 26) < x5 then M_X12_pairs_d4_B25 zF ((zP S 0 26 x5)) 0 else some S) else zg (zin x3 6) (Option.bind (M_X12_pairs_d3 ((zAs S 17 (Int32.toNatClampNeg x3) (-1))) x1 x2 ((x3 + 1)) x4 x5) (fun w3 => zg (zin x2 6) (Option.bind (some ((zar w3 7 (Int32.toNatClampNeg x2)))) (fun v5 => M_X12_pairs_d4_B81 zF w3 x1 x2 x3 x4 x5 v5)))))
set_option maxHeartbeats 4000000 in
set_option maxRecDepth 100000 in
theorem c_X12_pairs_d4 (l : Launch) (D : va_G) (Y : Nat → ClassId) (F : Nat → Nat) (G : zG) (S : zSt) (sz : Nat) (x1 : Int32) (x2 : Int32) (x3 : Int32) (x4 : Int32) (x5 : Int32) (res : zSt) (h : M_X12_pairs_d4 S x1 x2 x3 x4 x5 = some res) : Met l yX12_pairs wsX12_pairs (zRm 6 148) (zPc D Y F G S sz [.ref (F 0), .int x1, .int x2, .int x3, .int x4, .int x5]) (zQv D Y F (zAo F G sz) G res) 0 0 (zAo F G sz) := by
  unfold M_X12_pairs_d4 at h
  refine zMet (cc := cX12_pairs) (maxL := 7) (ret := none) (own := RX12) (by decide +kernel) rfl rfl (Nat.le_of_ble_eq_true rfl) ?_
  intro p e s m args below meth c C0 hin hw hS ls hl
  have hl : lv_has ls 7 [(0, .ref (F 0)), (1, .int x1), (2, .int x2), (3, .int x3), (4, .int x4), (5, .int x5)] := hl
  generalize zAo F G sz = A at C0 hw hS ⊢
  obtain ⟨hx, hb, hml, hr, hown, hts, hK, hA, hlk, hN⟩ := id C0
  refine lv_iload_n hx hb dX12_pairs_0 rfl (lv_at hl 3 rfl) ?_
  refine lv_bipush (v := 6) hx hb dX12_pairs_1 (by decide) ?_
  refine lv_icmp_ne (tgt := 53) hx hb dX12_pairs_3 (by decide) (fun c1 => ?_) (fun c1 => ?_)
  · replace h := z_ifn c1 h
    refine lv_aload_n hx hb dX12_pairs_53 rfl (lv_at hl 0 rfl) ?_
    refine z_get C0 in_X12_pairs_X12 (C := RX12) (T := TX12) (N := 27) hw (k := 0) (ci := 12) (v := .ref (F 17)) rfl rfl rfl rfl 24 (by decide) rfl 3 rfl dX12_pairs_54 ?_
    refine lv_iload_n hx hb dX12_pairs_57 rfl (lv_at hl 3 rfl) ?_
    refine lv_iconst (v := (-1)) hx hb dX12_pairs_58 (by decide) ?_
    obtain ⟨b2, h⟩ := z_gd h
    refine z_iasts C0 hw hS 17 rfl rfl zri_17 (zin_in b2) dX12_pairs_59 (fun H locs hw hS => ?_)
    refine lv_aload_n hx hb dX12_pairs_60 rfl (lv_at hl 0 rfl) ?_
    refine lv_iload_n hx hb dX12_pairs_61 rfl (lv_at hl 1 rfl) ?_
    refine lv_iload_n hx hb dX12_pairs_62 rfl (lv_at hl 2 rfl) ?_
    refine lv_iload_n hx hb dX12_pairs_63 rfl (lv_at hl 3 rfl) ?_
    refine lv_iconst (v := 1) hx hb dX12_pairs_64 (by decide) ?_
    refine lv_iadd hx hb dX12_pairs_65 ?_
    refine lv_iload hx hb dX12_pairs_66 (lv_at hl 4 rfl) ?_
    refine lv_iload hx hb dX12_pairs_68 (lv_at hl 5 rfl) ?_
    obtain ⟨w3, ew3, h⟩ := z_bd h
    refine z_callVv0 C0 hw hS (k := 0) (As := [.int x1, .int x2, .int ((x3 + 1)), .int x4, .int x5]) (rest := []) rfl rfl rfl rfl (c_X12_pairs_d3 l D Y F G ((zAs S 17 (Int32.toNatClampNeg x3) (-1))) _ x1 x2 ((x3 + 1)) x4 x5 w3 ew3) (cwV 5 hts gX12_pairs_X12_pairs rfl rfl rfl (by decide +kernel) ⟨Nat.le_of_ble_eq_true rfl, Nat.le_of_ble_eq_true rfl⟩) rfl hl.1 rfl (Nat.le_of_ble_eq_true rfl) dX12_pairs_70 ⟨Nat.zero_le _, Nat.zero_le _⟩ (fun H locs hw hS => ?_)
    refine lv_aload_n hx hb dX12_pairs_73 rfl (lv_at hl 0 rfl) ?_
    refine z_get C0 in_X12_pairs_X12 (C := RX12) (T := TX12) (N := 27) hw (k := 0) (ci := 12) (v := .ref (F 7)) rfl rfl rfl rfl 7 (by decide) rfl 4 rfl dX12_pairs_74 ?_
    refine lv_iload_n hx hb dX12_pairs_77 rfl (lv_at hl 2 rfl) ?_
    obtain ⟨b4, h⟩ := z_gd h
    refine z_iald C0 hw 7 rfl rfl zri_7 (zin_in b4) dX12_pairs_78 ?_
    obtain ⟨v5, ev5, h⟩ := z_bd h
    refine z_top (Option.some.inj ev5) ?_
    refine lv_istore (lv' := [(6, .int v5), (0, .ref (F 0)), (1, .int x1), (2, .int x2), (3, .int x3), (4, .int x4), (5, .int x5)]) hx hb dX12_pairs_79 hl (by decide) rfl (fun ls hl => ?_)
    exact t_X12_pairs_d4_B81 C0 res zF w3 x1 x2 x3 x4 x5 v5 h _ _ _ hw hS (lv_sub hl [1, 2, 3, 4, 5, 6, 0] rfl)
  · replace h := z_ifp c1 h
    refine lv_iload hx hb dX12_pairs_6 (lv_at hl 5 rfl) ?_
    refine lv_aload_n hx hb dX12_pairs_8 rfl (lv_at hl 0 rfl) ?_
    refine z_get C0 in_X12_pairs_X12 (C := RX12) (T := TX12) (N := 27) hw (k := 0) (ci := 12) (v := .int ((zsc S 0 26))) rfl rfl rfl rfl 26 (by decide) rfl 1 rfl dX12_pairs_9 ?_
    refine lv_icmp_gt (tgt := 16) hx hb dX12_pairs_12 (by decide) (fun c14 => ?_) (fun c14 => ?_)
    · replace h := z_ifp c14 h
      refine lv_aload_n hx hb dX12_pairs_16 rfl (lv_at hl 0 rfl) ?_
      refine lv_iload hx hb dX12_pairs_17 (lv_at hl 5 rfl) ?_
      refine z_put C0 in_X12_pairs_X12 tyX12 tyX12_ok nmX12 (C := RX12) (T := TX12) (N := 27) hw hS (k := 0) (ci := 12) (v := x5) (ty := .int) rfl rfl rfl rfl 26 (by decide) 1 rfl rfl rfl rfl rfl (Nat.le_of_ble_eq_true rfl) rfl dX12_pairs_19 (fun H locs hw hS => ?_)
      refine lv_iconst (v := 0) hx hb dX12_pairs_22 (by decide) ?_
      refine lv_istore (lv' := [(6, .int 0), (0, .ref (F 0)), (1, .int x1), (2, .int x2), (3, .int x3), (4, .int x4), (5, .int x5)]) hx hb dX12_pairs_23 hl (by decide) rfl (fun ls hl => ?_)
      exact t_X12_pairs_d4_B25 C0 res zF ((zP S 0 26 x5)) 0 h _ _ _ hw hS (lv_sub hl [1, 0] rfl)
    · replace h := z_ifn c14 h
      exact z_retv C0 hw hS (Option.some.inj h) dX12_pairs_15
def M_X12_pairs_d5_B81 : Nat → zSt → Int32 → Int32 → Int32 → Int32 → Int32 → Int32 → Option (zSt)
  | 0, _, _, _, _, _, _, _ => none
  | n + 1, S, x1, x2, x3, x4, x5, x6 =>
  (if 6 ≤ x6 then some S else Option.bind (M_X12_has S x4 x6) (fun w7 => (if w7 = 0 then zg (zin x3 6) (Option.bind (M_X12_hasAll ((zAs S 17 (Int32.toNatClampNeg x3) x6)) x1 x3) (fun w10 => Option.bind (M_X12_hasAll ((zAs S 17 (Int32.toNatClampNeg x3) x6)) x2 x6) (fun w11 => Option.bind (M_J6_bitCount_0f7a4 ((zAs S 17 (Int32.toNatClampNeg x3) x6)) ((w10 &&& w11))) (fun w12 => Option.bind (M_X12_pairs_d4 ((zAs S 17 (Int32.toNatClampNeg x3) x6)) x1 x2 ((x3 + 1)) ((x4 ||| ((1 : Int32) <<< (x6 &&& 31)))) ((x5 + w12))) (fun w13 => M_X12_pairs_d5_B81 n w13 x1 x2 x3 x4 x5 ((x6 + 1))))))) else M_X12_pairs_d5_B81 n S x1 x2 x3 x4 x5 ((x6 + 1)))))
set_option maxHeartbeats 4000000 in
set_option maxRecDepth 100000 in
theorem t_X12_pairs_d5_B81 {p : Program} {l : Launch} {e : Env} {s : State} {m : MethodId} {args : Array Value} {below : List Frame} {meth : Method} {c : Code} {D : va_G} {Y : Nat → ClassId} {F : Nat → Nat} {A : Nat → Prop} {G : zG} (C0 : zCx p s m args meth c D Y F A RX12 cX12_pairs 7 none wsX12_pairs) (res : zSt) : ∀ (n : Nat), ∀ (S : zSt) (x1 : Int32) (x2 : Int32) (x3 : Int32) (x4 : Int32) (x5 : Int32) (x6 : Int32), M_X12_pairs_d5_B81 n S x1 x2 x3 x4 x5 x6 = some res → ∀ (H : Heap) (locs : List Loc) (ls : Array Slot), zH D Y F A G S H → va_S A s.heap H locs → lv_has ls 7 [(0, .ref (F 0)), (1, .int x1), (2, .int x2), (3, .int x3), (4, .int x4), (5, .int x5), (6, .int x6)] → W p l e (zRm 7 174) s m args below meth c H locs 0 0 (MQ below (zQv D Y F A G res) args s 0 0 A) (F0 m 81 ls []) := by
  obtain ⟨hx, hb, hml, hr, hown, hts, hK, hA, hlk, hN⟩ := id C0
  intro n
  induction n with
  | zero =>
    intro S x1 x2 x3 x4 x5 x6 h
    unfold M_X12_pairs_d5_B81 at h
    cases h
  | succ n ih =>
    intro S x1 x2 x3 x4 x5 x6 h H locs ls hw hS hl
    rw [M_X12_pairs_d5_B81] at h
    refine lv_iload hx hb dX12_pairs_81 (lv_at hl 6 rfl) ?_
    refine lv_bipush (v := 6) hx hb dX12_pairs_83 (by decide) ?_
    refine lv_icmp_ge (tgt := 151) hx hb dX12_pairs_85 (by decide) (fun c6 => ?_) (fun c6 => ?_)
    · replace h := z_ifp c6 h
      exact z_retv C0 hw hS (Option.some.inj h) dX12_pairs_151
    · replace h := z_ifn c6 h
      refine lv_iload hx hb dX12_pairs_88 (lv_at hl 4 rfl) ?_
      refine lv_iload hx hb dX12_pairs_90 (lv_at hl 6 rfl) ?_
      obtain ⟨w7, ew7, h⟩ := z_bd h
      refine z_callSip C0 hw hS (As := [.int x4, .int x6]) (rest := []) (c_X12_has l D Y F G S _ x4 x6 w7 ew7) (va_cwS 2 hts gX12_pairs_X12_has rfl rfl rfl (by decide +kernel) ⟨Nat.le_of_ble_eq_true rfl, Nat.le_of_ble_eq_true rfl⟩) rfl hl.1 rfl (Nat.le_of_ble_eq_true rfl) dX12_pairs_92 ⟨Nat.zero_le _, Nat.zero_le _⟩ (fun H locs hw hS => ?_)
      refine lv_if_eq (tgt := 101) hx hb dX12_pairs_95 (by decide) (fun c8 => ?_) (fun c8 => ?_)
      · replace h := z_ifp c8 h
        refine lv_aload_n hx hb dX12_pairs_101 rfl (lv_at hl 0 rfl) ?_
        refine z_get C0 in_X12_pairs_X12 (C := RX12) (T := TX12) (N := 27) hw (k := 0) (ci := 12) (v := .ref (F 17)) rfl rfl rfl rfl 24 (by decide) rfl 3 rfl dX12_pairs_102 ?_
        refine lv_iload_n hx hb dX12_pairs_105 rfl (lv_at hl 3 rfl) ?_
        refine lv_iload hx hb dX12_pairs_106 (lv_at hl 6 rfl) ?_
        obtain ⟨b9, h⟩ := z_gd h
        refine z_iasts C0 hw hS 17 rfl rfl zri_17 (zin_in b9) dX12_pairs_108 (fun H locs hw hS => ?_)
        refine lv_aload_n hx hb dX12_pairs_109 rfl (lv_at hl 0 rfl) ?_
        refine lv_iload_n hx hb dX12_pairs_110 rfl (lv_at hl 1 rfl) ?_
        refine lv_iload_n hx hb dX12_pairs_111 rfl (lv_at hl 2 rfl) ?_
        refine lv_iload_n hx hb dX12_pairs_112 rfl (lv_at hl 3 rfl) ?_
        refine lv_iconst (v := 1) hx hb dX12_pairs_113 (by decide) ?_
        refine lv_iadd hx hb dX12_pairs_114 ?_
        refine lv_iload hx hb dX12_pairs_115 (lv_at hl 4 rfl) ?_
        refine lv_iconst (v := 1) hx hb dX12_pairs_117 (by decide) ?_
        refine lv_iload hx hb dX12_pairs_118 (lv_at hl 6 rfl) ?_
        refine lv_ishl hx hb dX12_pairs_120 ?_
        refine lv_ior hx hb dX12_pairs_121 ?_
        refine lv_iload hx hb dX12_pairs_122 (lv_at hl 5 rfl) ?_
        refine lv_aload_n hx hb dX12_pairs_124 rfl (lv_at hl 0 rfl) ?_
        refine lv_iload_n hx hb dX12_pairs_125 rfl (lv_at hl 1 rfl) ?_
        refine lv_iload_n hx hb dX12_pairs_126 rfl (lv_at hl 3 rfl) ?_
        obtain ⟨w10, ew10, h⟩ := z_bd h
        refine z_callVip C0 hw hS (k := 0) (As := [.int x1, .int x3]) (rest := [.int x5, .int ((x4 ||| ((1 : Int32) <<< (x6 &&& 31)))), .int ((x3 + 1)), .int x2, .int x1, .ref (F 0)]) rfl rfl rfl rfl (c_X12_hasAll l D Y F G ((zAs S 17 (Int32.toNatClampNeg x3) x6)) _ x1 x3 w10 ew10) (cwV 2 hts gX12_pairs_X12_hasAll rfl rfl rfl (by decide +kernel) ⟨Nat.le_of_ble_eq_true rfl, Nat.le_of_ble_eq_true rfl⟩) rfl hl.1 rfl (Nat.le_of_ble_eq_true rfl) dX12_pairs_127 ⟨Nat.zero_le _, Nat.zero_le _⟩ (fun H locs hw hS => ?_)
        refine lv_aload_n hx hb dX12_pairs_130 rfl (lv_at hl 0 rfl) ?_
        refine lv_iload_n hx hb dX12_pairs_131 rfl (lv_at hl 2 rfl) ?_
        refine lv_iload hx hb dX12_pairs_132 (lv_at hl 6 rfl) ?_
        obtain ⟨w11, ew11, h⟩ := z_bd h
        refine z_callVip C0 hw hS (k := 0) (As := [.int x2, .int x6]) (rest := [.int w10, .int x5, .int ((x4 ||| ((1 : Int32) <<< (x6 &&& 31)))), .int ((x3 + 1)), .int x2, .int x1, .ref (F 0)]) rfl rfl rfl rfl (c_X12_hasAll l D Y F G ((zAs S 17 (Int32.toNatClampNeg x3) x6)) _ x2 x6 w11 ew11) (cwV 2 hts gX12_pairs_X12_hasAll rfl rfl rfl (by decide +kernel) ⟨Nat.le_of_ble_eq_true rfl, Nat.le_of_ble_eq_true rfl⟩) rfl hl.1 rfl (Nat.le_of_ble_eq_true rfl) dX12_pairs_134 ⟨Nat.zero_le _, Nat.zero_le _⟩ (fun H locs hw hS => ?_)
        refine lv_iand hx hb dX12_pairs_137 ?_
        obtain ⟨w12, ew12, h⟩ := z_bd h
        refine z_callSip C0 hw hS (As := [.int ((w10 &&& w11))]) (rest := [.int x5, .int ((x4 ||| ((1 : Int32) <<< (x6 &&& 31)))), .int ((x3 + 1)), .int x2, .int x1, .ref (F 0)]) (c_J6_bitCount_0f7a4 l D Y F G ((zAs S 17 (Int32.toNatClampNeg x3) x6)) _ ((w10 &&& w11)) w12 ew12) (va_cwS 1 hts gX12_pairs_J6_bitCount_0f7a4 rfl rfl rfl (by decide +kernel) ⟨Nat.le_of_ble_eq_true rfl, Nat.le_of_ble_eq_true rfl⟩) rfl hl.1 rfl (Nat.le_of_ble_eq_true rfl) dX12_pairs_138 ⟨Nat.zero_le _, Nat.zero_le _⟩ (fun H locs hw hS => ?_)
        refine lv_iadd hx hb dX12_pairs_141 ?_
        obtain ⟨w13, ew13, h⟩ := z_bd h
        refine z_callVv0 C0 hw hS (k := 0) (As := [.int x1, .int x2, .int ((x3 + 1)), .int ((x4 ||| ((1 : Int32) <<< (x6 &&& 31)))), .int ((x5 + w12))]) (rest := []) rfl rfl rfl rfl (c_X12_pairs_d4 l D Y F G ((zAs S 17 (Int32.toNatClampNeg x3) x6)) _ x1 x2 ((x3 + 1)) ((x4 ||| ((1 : Int32) <<< (x6 &&& 31)))) ((x5 + w12)) w13 ew13) (cwV 5 hts gX12_pairs_X12_pairs rfl rfl rfl (by decide +kernel) ⟨Nat.le_of_ble_eq_true rfl, Nat.le_of_ble_eq_true rfl⟩) rfl hl.1 rfl (Nat.le_of_ble_eq_true rfl) dX12_pairs_142 ⟨Nat.zero_le _, Nat.zero_le _⟩ (fun H locs hw hS => ?_)
        refine lv_iinc (v := (x6 + 1)) (lv' := [(6, .int ((x6 + 1))), (0, .ref (F 0)), (1, .int x1), (2, .int x2), (3, .int x3), (4, .int x4), (5, .int x5)]) hx hb dX12_pairs_145 hl (k := 6) rfl rfl (by decide) rfl (fun ls hl => ?_)
        refine lv_goto (tgt := 81) hx hb dX12_pairs_148 (by decide) ?_
        exact ih w13 x1 x2 x3 x4 x5 ((x6 + 1)) h _ _ _ hw hS (lv_sub hl [1, 2, 3, 4, 5, 6, 0] rfl)
      · replace h := z_ifn c8 h
        refine lv_goto (tgt := 145) hx hb dX12_pairs_98 (by decide) ?_
        refine lv_iinc (v := (x6 + 1)) (lv' := [(6, .int ((x6 + 1))), (0, .ref (F 0)), (1, .int x1), (2, .int x2), (3, .int x3), (4, .int x4), (5, .int x5)]) hx hb dX12_pairs_145 hl (k := 6) rfl rfl (by decide) rfl (fun ls hl => ?_)
        refine lv_goto (tgt := 81) hx hb dX12_pairs_148 (by decide) ?_
        exact ih S x1 x2 x3 x4 x5 ((x6 + 1)) h _ _ _ hw hS (lv_sub hl [1, 2, 3, 4, 5, 6, 0] rfl)
def M_X12_pairs_d5_B25 : Nat → zSt → Int32 → Option (zSt)
  | 0, _, _ => none
  | n + 1, S, x6 =>
  (if 6 ≤ x6 then some S else zg (zin x6 6) (zg (zin x6 6) (M_X12_pairs_d5_B25 n ((zAs S 18 (Int32.toNatClampNeg x6) ((zar S 17 (Int32.toNatClampNeg x6))))) ((x6 + 1)))))
set_option maxHeartbeats 4000000 in
set_option maxRecDepth 100000 in
theorem t_X12_pairs_d5_B25 {p : Program} {l : Launch} {e : Env} {s : State} {m : MethodId} {args : Array Value} {below : List Frame} {meth : Method} {c : Code} {D : va_G} {Y : Nat → ClassId} {F : Nat → Nat} {A : Nat → Prop} {G : zG} (C0 : zCx p s m args meth c D Y F A RX12 cX12_pairs 7 none wsX12_pairs) (res : zSt) : ∀ (n : Nat), ∀ (S : zSt) (x6 : Int32), M_X12_pairs_d5_B25 n S x6 = some res → ∀ (H : Heap) (locs : List Loc) (ls : Array Slot), zH D Y F A G S H → va_S A s.heap H locs → lv_has ls 7 [(0, .ref (F 0)), (6, .int x6)] → W p l e (zRm 7 174) s m args below meth c H locs 0 0 (MQ below (zQv D Y F A G res) args s 0 0 A) (F0 m 25 ls []) := by
  obtain ⟨hx, hb, hml, hr, hown, hts, hK, hA, hlk, hN⟩ := id C0
  intro n
  induction n with
  | zero =>
    intro S x6 h
    unfold M_X12_pairs_d5_B25 at h
    cases h
  | succ n ih =>
    intro S x6 h H locs ls hw hS hl
    rw [M_X12_pairs_d5_B25] at h
    refine lv_iload hx hb dX12_pairs_25 (lv_at hl 1 rfl) ?_
    refine lv_bipush (v := 6) hx hb dX12_pairs_27 (by decide) ?_
    refine lv_icmp_ge (tgt := 52) hx hb dX12_pairs_29 (by decide) (fun c15 => ?_) (fun c15 => ?_)
    · replace h := z_ifp c15 h
      exact z_retv C0 hw hS (Option.some.inj h) dX12_pairs_52
    · replace h := z_ifn c15 h
      refine lv_aload_n hx hb dX12_pairs_32 rfl (lv_at hl 0 rfl) ?_
      refine z_get C0 in_X12_pairs_X12 (C := RX12) (T := TX12) (N := 27) hw (k := 0) (ci := 12) (v := .ref (F 18)) rfl rfl rfl rfl 25 (by decide) rfl 2 rfl dX12_pairs_33 ?_
      refine lv_iload hx hb dX12_pairs_36 (lv_at hl 1 rfl) ?_
      refine lv_aload_n hx hb dX12_pairs_38 rfl (lv_at hl 0 rfl) ?_
      refine z_get C0 in_X12_pairs_X12 (C := RX12) (T := TX12) (N := 27) hw (k := 0) (ci := 12) (v := .ref (F 17)) rfl rfl rfl rfl 24 (by decide) rfl 3 rfl dX12_pairs_39 ?_
      refine lv_iload hx hb dX12_pairs_42 (lv_at hl 1 rfl) ?_
      obtain ⟨b16, h⟩ := z_gd h
      refine z_iald C0 hw 17 rfl rfl zri_17 (zin_in b16) dX12_pairs_44 ?_
      obtain ⟨b17, h⟩ := z_gd h
      refine z_iasts C0 hw hS 18 rfl rfl zri_18 (zin_in b17) dX12_pairs_45 (fun H locs hw hS => ?_)
      refine lv_iinc (v := (x6 + 1)) (lv' := [(6, .int ((x6 + 1))), (0, .ref (F 0))]) hx hb dX12_pairs_46 hl (k := 1) rfl rfl (by decide) rfl (fun ls hl => ?_)
      refine lv_goto (tgt := 25) hx hb dX12_pairs_49 (by decide) ?_
      exact ih ((zAs S 18 (Int32.toNatClampNeg x6) ((zar S 17 (Int32.toNatClampNeg x6))))) ((x6 + 1)) h _ _ _ hw hS (lv_sub hl [1, 0] rfl)
def M_X12_pairs_d5 (S : zSt) (x1 : Int32) (x2 : Int32) (x3 : Int32) (x4 : Int32) (x5 : Int32) : Option (zSt) :=
  (if x3 = 6 then (if (zsc S 0 26) < x5 then M_X12_pairs_d5_B25 zF ((zP S 0 26 x5)) 0 else some S) else zg (zin x3 6) (Option.bind (M_X12_pairs_d4 ((zAs S 17 (Int32.toNatClampNeg x3) (-1))) x1 x2 ((x3 + 1)) x4 x5) (fun w3 => zg (zin x2 6) (Option.bind (some ((zar w3 7 (Int32.toNatClampNeg x2)))) (fun v5 => M_X12_pairs_d5_B81 zF w3 x1 x2 x3 x4 x5 v5)))))
set_option maxHeartbeats 4000000 in
set_option maxRecDepth 100000 in
theorem c_X12_pairs_d5 (l : Launch) (D : va_G) (Y : Nat → ClassId) (F : Nat → Nat) (G : zG) (S : zSt) (sz : Nat) (x1 : Int32) (x2 : Int32) (x3 : Int32) (x4 : Int32) (x5 : Int32) (res : zSt) (h : M_X12_pairs_d5 S x1 x2 x3 x4 x5 = some res) : Met l yX12_pairs wsX12_pairs (zRm 7 174) (zPc D Y F G S sz [.ref (F 0), .int x1, .int x2, .int x3, .int x4, .int x5]) (zQv D Y F (zAo F G sz) G res) 0 0 (zAo F G sz) := by
  unfold M_X12_pairs_d5 at h
  refine zMet (cc := cX12_pairs) (maxL := 7) (ret := none) (own := RX12) (by decide +kernel) rfl rfl (Nat.le_of_ble_eq_true rfl) ?_
  intro p e s m args below meth c C0 hin hw hS ls hl
  have hl : lv_has ls 7 [(0, .ref (F 0)), (1, .int x1), (2, .int x2), (3, .int x3), (4, .int x4), (5, .int x5)] := hl
  generalize zAo F G sz = A at C0 hw hS ⊢
  obtain ⟨hx, hb, hml, hr, hown, hts, hK, hA, hlk, hN⟩ := id C0
  refine lv_iload_n hx hb dX12_pairs_0 rfl (lv_at hl 3 rfl) ?_
  refine lv_bipush (v := 6) hx hb dX12_pairs_1 (by decide) ?_
  refine lv_icmp_ne (tgt := 53) hx hb dX12_pairs_3 (by decide) (fun c1 => ?_) (fun c1 => ?_)
  · replace h := z_ifn c1 h
    refine lv_aload_n hx hb dX12_pairs_53 rfl (lv_at hl 0 rfl) ?_
    refine z_get C0 in_X12_pairs_X12 (C := RX12) (T := TX12) (N := 27) hw (k := 0) (ci := 12) (v := .ref (F 17)) rfl rfl rfl rfl 24 (by decide) rfl 3 rfl dX12_pairs_54 ?_
    refine lv_iload_n hx hb dX12_pairs_57 rfl (lv_at hl 3 rfl) ?_
    refine lv_iconst (v := (-1)) hx hb dX12_pairs_58 (by decide) ?_
    obtain ⟨b2, h⟩ := z_gd h
    refine z_iasts C0 hw hS 17 rfl rfl zri_17 (zin_in b2) dX12_pairs_59 (fun H locs hw hS => ?_)
    refine lv_aload_n hx hb dX12_pairs_60 rfl (lv_at hl 0 rfl) ?_
    refine lv_iload_n hx hb dX12_pairs_61 rfl (lv_at hl 1 rfl) ?_
    refine lv_iload_n hx hb dX12_pairs_62 rfl (lv_at hl 2 rfl) ?_
    refine lv_iload_n hx hb dX12_pairs_63 rfl (lv_at hl 3 rfl) ?_
    refine lv_iconst (v := 1) hx hb dX12_pairs_64 (by decide) ?_
    refine lv_iadd hx hb dX12_pairs_65 ?_
    refine lv_iload hx hb dX12_pairs_66 (lv_at hl 4 rfl) ?_
    refine lv_iload hx hb dX12_pairs_68 (lv_at hl 5 rfl) ?_
    obtain ⟨w3, ew3, h⟩ := z_bd h
    refine z_callVv0 C0 hw hS (k := 0) (As := [.int x1, .int x2, .int ((x3 + 1)), .int x4, .int x5]) (rest := []) rfl rfl rfl rfl (c_X12_pairs_d4 l D Y F G ((zAs S 17 (Int32.toNatClampNeg x3) (-1))) _ x1 x2 ((x3 + 1)) x4 x5 w3 ew3) (cwV 5 hts gX12_pairs_X12_pairs rfl rfl rfl (by decide +kernel) ⟨Nat.le_of_ble_eq_true rfl, Nat.le_of_ble_eq_true rfl⟩) rfl hl.1 rfl (Nat.le_of_ble_eq_true rfl) dX12_pairs_70 ⟨Nat.zero_le _, Nat.zero_le _⟩ (fun H locs hw hS => ?_)
    refine lv_aload_n hx hb dX12_pairs_73 rfl (lv_at hl 0 rfl) ?_
    refine z_get C0 in_X12_pairs_X12 (C := RX12) (T := TX12) (N := 27) hw (k := 0) (ci := 12) (v := .ref (F 7)) rfl rfl rfl rfl 7 (by decide) rfl 4 rfl dX12_pairs_74 ?_
    refine lv_iload_n hx hb dX12_pairs_77 rfl (lv_at hl 2 rfl) ?_
    obtain ⟨b4, h⟩ := z_gd h
    refine z_iald C0 hw 7 rfl rfl zri_7 (zin_in b4) dX12_pairs_78 ?_
    obtain ⟨v5, ev5, h⟩ := z_bd h
    refine z_top (Option.some.inj ev5) ?_
    refine lv_istore (lv' := [(6, .int v5), (0, .ref (F 0)), (1, .int x1), (2, .int x2), (3, .int x3), (4, .int x4), (5, .int x5)]) hx hb dX12_pairs_79 hl (by decide) rfl (fun ls hl => ?_)
    exact t_X12_pairs_d5_B81 C0 res zF w3 x1 x2 x3 x4 x5 v5 h _ _ _ hw hS (lv_sub hl [1, 2, 3, 4, 5, 6, 0] rfl)
  · replace h := z_ifp c1 h
    refine lv_iload hx hb dX12_pairs_6 (lv_at hl 5 rfl) ?_
    refine lv_aload_n hx hb dX12_pairs_8 rfl (lv_at hl 0 rfl) ?_
    refine z_get C0 in_X12_pairs_X12 (C := RX12) (T := TX12) (N := 27) hw (k := 0) (ci := 12) (v := .int ((zsc S 0 26))) rfl rfl rfl rfl 26 (by decide) rfl 1 rfl dX12_pairs_9 ?_
    refine lv_icmp_gt (tgt := 16) hx hb dX12_pairs_12 (by decide) (fun c14 => ?_) (fun c14 => ?_)
    · replace h := z_ifp c14 h
      refine lv_aload_n hx hb dX12_pairs_16 rfl (lv_at hl 0 rfl) ?_
      refine lv_iload hx hb dX12_pairs_17 (lv_at hl 5 rfl) ?_
      refine z_put C0 in_X12_pairs_X12 tyX12 tyX12_ok nmX12 (C := RX12) (T := TX12) (N := 27) hw hS (k := 0) (ci := 12) (v := x5) (ty := .int) rfl rfl rfl rfl 26 (by decide) 1 rfl rfl rfl rfl rfl (Nat.le_of_ble_eq_true rfl) rfl dX12_pairs_19 (fun H locs hw hS => ?_)
      refine lv_iconst (v := 0) hx hb dX12_pairs_22 (by decide) ?_
      refine lv_istore (lv' := [(6, .int 0), (0, .ref (F 0)), (1, .int x1), (2, .int x2), (3, .int x3), (4, .int x4), (5, .int x5)]) hx hb dX12_pairs_23 hl (by decide) rfl (fun ls hl => ?_)
      exact t_X12_pairs_d5_B25 C0 res zF ((zP S 0 26 x5)) 0 h _ _ _ hw hS (lv_sub hl [1, 0] rfl)
    · replace h := z_ifn c14 h
      exact z_retv C0 hw hS (Option.some.inj h) dX12_pairs_15
def M_X12_pairs_B81 : Nat → zSt → Int32 → Int32 → Int32 → Int32 → Int32 → Int32 → Option (zSt)
  | 0, _, _, _, _, _, _, _ => none
  | n + 1, S, x1, x2, x3, x4, x5, x6 =>
  (if 6 ≤ x6 then some S else Option.bind (M_X12_has S x4 x6) (fun w7 => (if w7 = 0 then zg (zin x3 6) (Option.bind (M_X12_hasAll ((zAs S 17 (Int32.toNatClampNeg x3) x6)) x1 x3) (fun w10 => Option.bind (M_X12_hasAll ((zAs S 17 (Int32.toNatClampNeg x3) x6)) x2 x6) (fun w11 => Option.bind (M_J6_bitCount_0f7a4 ((zAs S 17 (Int32.toNatClampNeg x3) x6)) ((w10 &&& w11))) (fun w12 => Option.bind (M_X12_pairs_d5 ((zAs S 17 (Int32.toNatClampNeg x3) x6)) x1 x2 ((x3 + 1)) ((x4 ||| ((1 : Int32) <<< (x6 &&& 31)))) ((x5 + w12))) (fun w13 => M_X12_pairs_B81 n w13 x1 x2 x3 x4 x5 ((x6 + 1))))))) else M_X12_pairs_B81 n S x1 x2 x3 x4 x5 ((x6 + 1)))))
set_option maxHeartbeats 4000000 in
set_option maxRecDepth 100000 in
theorem t_X12_pairs_B81 {p : Program} {l : Launch} {e : Env} {s : State} {m : MethodId} {args : Array Value} {below : List Frame} {meth : Method} {c : Code} {D : va_G} {Y : Nat → ClassId} {F : Nat → Nat} {A : Nat → Prop} {G : zG} (C0 : zCx p s m args meth c D Y F A RX12 cX12_pairs 7 none wsX12_pairs) (res : zSt) : ∀ (n : Nat), ∀ (S : zSt) (x1 : Int32) (x2 : Int32) (x3 : Int32) (x4 : Int32) (x5 : Int32) (x6 : Int32), M_X12_pairs_B81 n S x1 x2 x3 x4 x5 x6 = some res → ∀ (H : Heap) (locs : List Loc) (ls : Array Slot), zH D Y F A G S H → va_S A s.heap H locs → lv_has ls 7 [(0, .ref (F 0)), (1, .int x1), (2, .int x2), (3, .int x3), (4, .int x4), (5, .int x5), (6, .int x6)] → W p l e (zRm 8 200) s m args below meth c H locs 0 0 (MQ below (zQv D Y F A G res) args s 0 0 A) (F0 m 81 ls []) := by
  obtain ⟨hx, hb, hml, hr, hown, hts, hK, hA, hlk, hN⟩ := id C0
  intro n
  induction n with
  | zero =>
    intro S x1 x2 x3 x4 x5 x6 h
    unfold M_X12_pairs_B81 at h
    cases h
  | succ n ih =>
    intro S x1 x2 x3 x4 x5 x6 h H locs ls hw hS hl
    rw [M_X12_pairs_B81] at h
    refine lv_iload hx hb dX12_pairs_81 (lv_at hl 6 rfl) ?_
    refine lv_bipush (v := 6) hx hb dX12_pairs_83 (by decide) ?_
    refine lv_icmp_ge (tgt := 151) hx hb dX12_pairs_85 (by decide) (fun c6 => ?_) (fun c6 => ?_)
    · replace h := z_ifp c6 h
      exact z_retv C0 hw hS (Option.some.inj h) dX12_pairs_151
    · replace h := z_ifn c6 h
      refine lv_iload hx hb dX12_pairs_88 (lv_at hl 4 rfl) ?_
      refine lv_iload hx hb dX12_pairs_90 (lv_at hl 6 rfl) ?_
      obtain ⟨w7, ew7, h⟩ := z_bd h
      refine z_callSip C0 hw hS (As := [.int x4, .int x6]) (rest := []) (c_X12_has l D Y F G S _ x4 x6 w7 ew7) (va_cwS 2 hts gX12_pairs_X12_has rfl rfl rfl (by decide +kernel) ⟨Nat.le_of_ble_eq_true rfl, Nat.le_of_ble_eq_true rfl⟩) rfl hl.1 rfl (Nat.le_of_ble_eq_true rfl) dX12_pairs_92 ⟨Nat.zero_le _, Nat.zero_le _⟩ (fun H locs hw hS => ?_)
      refine lv_if_eq (tgt := 101) hx hb dX12_pairs_95 (by decide) (fun c8 => ?_) (fun c8 => ?_)
      · replace h := z_ifp c8 h
        refine lv_aload_n hx hb dX12_pairs_101 rfl (lv_at hl 0 rfl) ?_
        refine z_get C0 in_X12_pairs_X12 (C := RX12) (T := TX12) (N := 27) hw (k := 0) (ci := 12) (v := .ref (F 17)) rfl rfl rfl rfl 24 (by decide) rfl 3 rfl dX12_pairs_102 ?_
        refine lv_iload_n hx hb dX12_pairs_105 rfl (lv_at hl 3 rfl) ?_
        refine lv_iload hx hb dX12_pairs_106 (lv_at hl 6 rfl) ?_
        obtain ⟨b9, h⟩ := z_gd h
        refine z_iasts C0 hw hS 17 rfl rfl zri_17 (zin_in b9) dX12_pairs_108 (fun H locs hw hS => ?_)
        refine lv_aload_n hx hb dX12_pairs_109 rfl (lv_at hl 0 rfl) ?_
        refine lv_iload_n hx hb dX12_pairs_110 rfl (lv_at hl 1 rfl) ?_
        refine lv_iload_n hx hb dX12_pairs_111 rfl (lv_at hl 2 rfl) ?_
        refine lv_iload_n hx hb dX12_pairs_112 rfl (lv_at hl 3 rfl) ?_
        refine lv_iconst (v := 1) hx hb dX12_pairs_113 (by decide) ?_
        refine lv_iadd hx hb dX12_pairs_114 ?_
        refine lv_iload hx hb dX12_pairs_115 (lv_at hl 4 rfl) ?_
        refine lv_iconst (v := 1) hx hb dX12_pairs_117 (by decide) ?_
        refine lv_iload hx hb dX12_pairs_118 (lv_at hl 6 rfl) ?_
        refine lv_ishl hx hb dX12_pairs_120 ?_
        refine lv_ior hx hb dX12_pairs_121 ?_
        refine lv_iload hx hb dX12_pairs_122 (lv_at hl 5 rfl) ?_
        refine lv_aload_n hx hb dX12_pairs_124 rfl (lv_at hl 0 rfl) ?_
        refine lv_iload_n hx hb dX12_pairs_125 rfl (lv_at hl 1 rfl) ?_
        refine lv_iload_n hx hb dX12_pairs_126 rfl (lv_at hl 3 rfl) ?_
        obtain ⟨w10, ew10, h⟩ := z_bd h
        refine z_callVip C0 hw hS (k := 0) (As := [.int x1, .int x3]) (rest := [.int x5, .int ((x4 ||| ((1 : Int32) <<< (x6 &&& 31)))), .int ((x3 + 1)), .int x2, .int x1, .ref (F 0)]) rfl rfl rfl rfl (c_X12_hasAll l D Y F G ((zAs S 17 (Int32.toNatClampNeg x3) x6)) _ x1 x3 w10 ew10) (cwV 2 hts gX12_pairs_X12_hasAll rfl rfl rfl (by decide +kernel) ⟨Nat.le_of_ble_eq_true rfl, Nat.le_of_ble_eq_true rfl⟩) rfl hl.1 rfl (Nat.le_of_ble_eq_true rfl) dX12_pairs_127 ⟨Nat.zero_le _, Nat.zero_le _⟩ (fun H locs hw hS => ?_)
        refine lv_aload_n hx hb dX12_pairs_130 rfl (lv_at hl 0 rfl) ?_
        refine lv_iload_n hx hb dX12_pairs_131 rfl (lv_at hl 2 rfl) ?_
        refine lv_iload hx hb dX12_pairs_132 (lv_at hl 6 rfl) ?_
        obtain ⟨w11, ew11, h⟩ := z_bd h
        refine z_callVip C0 hw hS (k := 0) (As := [.int x2, .int x6]) (rest := [.int w10, .int x5, .int ((x4 ||| ((1 : Int32) <<< (x6 &&& 31)))), .int ((x3 + 1)), .int x2, .int x1, .ref (F 0)]) rfl rfl rfl rfl (c_X12_hasAll l D Y F G ((zAs S 17 (Int32.toNatClampNeg x3) x6)) _ x2 x6 w11 ew11) (cwV 2 hts gX12_pairs_X12_hasAll rfl rfl rfl (by decide +kernel) ⟨Nat.le_of_ble_eq_true rfl, Nat.le_of_ble_eq_true rfl⟩) rfl hl.1 rfl (Nat.le_of_ble_eq_true rfl) dX12_pairs_134 ⟨Nat.zero_le _, Nat.zero_le _⟩ (fun H locs hw hS => ?_)
        refine lv_iand hx hb dX12_pairs_137 ?_
        obtain ⟨w12, ew12, h⟩ := z_bd h
        refine z_callSip C0 hw hS (As := [.int ((w10 &&& w11))]) (rest := [.int x5, .int ((x4 ||| ((1 : Int32) <<< (x6 &&& 31)))), .int ((x3 + 1)), .int x2, .int x1, .ref (F 0)]) (c_J6_bitCount_0f7a4 l D Y F G ((zAs S 17 (Int32.toNatClampNeg x3) x6)) _ ((w10 &&& w11)) w12 ew12) (va_cwS 1 hts gX12_pairs_J6_bitCount_0f7a4 rfl rfl rfl (by decide +kernel) ⟨Nat.le_of_ble_eq_true rfl, Nat.le_of_ble_eq_true rfl⟩) rfl hl.1 rfl (Nat.le_of_ble_eq_true rfl) dX12_pairs_138 ⟨Nat.zero_le _, Nat.zero_le _⟩ (fun H locs hw hS => ?_)
        refine lv_iadd hx hb dX12_pairs_141 ?_
        obtain ⟨w13, ew13, h⟩ := z_bd h
        refine z_callVv0 C0 hw hS (k := 0) (As := [.int x1, .int x2, .int ((x3 + 1)), .int ((x4 ||| ((1 : Int32) <<< (x6 &&& 31)))), .int ((x5 + w12))]) (rest := []) rfl rfl rfl rfl (c_X12_pairs_d5 l D Y F G ((zAs S 17 (Int32.toNatClampNeg x3) x6)) _ x1 x2 ((x3 + 1)) ((x4 ||| ((1 : Int32) <<< (x6 &&& 31)))) ((x5 + w12)) w13 ew13) (cwV 5 hts gX12_pairs_X12_pairs rfl rfl rfl (by decide +kernel) ⟨Nat.le_of_ble_eq_true rfl, Nat.le_of_ble_eq_true rfl⟩) rfl hl.1 rfl (Nat.le_of_ble_eq_true rfl) dX12_pairs_142 ⟨Nat.zero_le _, Nat.zero_le _⟩ (fun H locs hw hS => ?_)
        refine lv_iinc (v := (x6 + 1)) (lv' := [(6, .int ((x6 + 1))), (0, .ref (F 0)), (1, .int x1), (2, .int x2), (3, .int x3), (4, .int x4), (5, .int x5)]) hx hb dX12_pairs_145 hl (k := 6) rfl rfl (by decide) rfl (fun ls hl => ?_)
        refine lv_goto (tgt := 81) hx hb dX12_pairs_148 (by decide) ?_
        exact ih w13 x1 x2 x3 x4 x5 ((x6 + 1)) h _ _ _ hw hS (lv_sub hl [1, 2, 3, 4, 5, 6, 0] rfl)
      · replace h := z_ifn c8 h
        refine lv_goto (tgt := 145) hx hb dX12_pairs_98 (by decide) ?_
        refine lv_iinc (v := (x6 + 1)) (lv' := [(6, .int ((x6 + 1))), (0, .ref (F 0)), (1, .int x1), (2, .int x2), (3, .int x3), (4, .int x4), (5, .int x5)]) hx hb dX12_pairs_145 hl (k := 6) rfl rfl (by decide) rfl (fun ls hl => ?_)
        refine lv_goto (tgt := 81) hx hb dX12_pairs_148 (by decide) ?_
        exact ih S x1 x2 x3 x4 x5 ((x6 + 1)) h _ _ _ hw hS (lv_sub hl [1, 2, 3, 4, 5, 6, 0] rfl)
def M_X12_pairs_B25 : Nat → zSt → Int32 → Option (zSt)
  | 0, _, _ => none
  | n + 1, S, x6 =>
  (if 6 ≤ x6 then some S else zg (zin x6 6) (zg (zin x6 6) (M_X12_pairs_B25 n ((zAs S 18 (Int32.toNatClampNeg x6) ((zar S 17 (Int32.toNatClampNeg x6))))) ((x6 + 1)))))
set_option maxHeartbeats 4000000 in
set_option maxRecDepth 100000 in
theorem t_X12_pairs_B25 {p : Program} {l : Launch} {e : Env} {s : State} {m : MethodId} {args : Array Value} {below : List Frame} {meth : Method} {c : Code} {D : va_G} {Y : Nat → ClassId} {F : Nat → Nat} {A : Nat → Prop} {G : zG} (C0 : zCx p s m args meth c D Y F A RX12 cX12_pairs 7 none wsX12_pairs) (res : zSt) : ∀ (n : Nat), ∀ (S : zSt) (x6 : Int32), M_X12_pairs_B25 n S x6 = some res → ∀ (H : Heap) (locs : List Loc) (ls : Array Slot), zH D Y F A G S H → va_S A s.heap H locs → lv_has ls 7 [(0, .ref (F 0)), (6, .int x6)] → W p l e (zRm 8 200) s m args below meth c H locs 0 0 (MQ below (zQv D Y F A G res) args s 0 0 A) (F0 m 25 ls []) := by
  obtain ⟨hx, hb, hml, hr, hown, hts, hK, hA, hlk, hN⟩ := id C0
  intro n
  induction n with
  | zero =>
    intro S x6 h
    unfold M_X12_pairs_B25 at h
    cases h
  | succ n ih =>
    intro S x6 h H locs ls hw hS hl
    rw [M_X12_pairs_B25] at h
    refine lv_iload hx hb dX12_pairs_25 (lv_at hl 1 rfl) ?_
    refine lv_bipush (v := 6) hx hb dX12_pairs_27 (by decide) ?_
    refine lv_icmp_ge (tgt := 52) hx hb dX12_pairs_29 (by decide) (fun c15 => ?_) (fun c15 => ?_)
    · replace h := z_ifp c15 h
      exact z_retv C0 hw hS (Option.some.inj h) dX12_pairs_52
    · replace h := z_ifn c15 h
      refine lv_aload_n hx hb dX12_pairs_32 rfl (lv_at hl 0 rfl) ?_
      refine z_get C0 in_X12_pairs_X12 (C := RX12) (T := TX12) (N := 27) hw (k := 0) (ci := 12) (v := .ref (F 18)) rfl rfl rfl rfl 25 (by decide) rfl 2 rfl dX12_pairs_33 ?_
      refine lv_iload hx hb dX12_pairs_36 (lv_at hl 1 rfl) ?_
      refine lv_aload_n hx hb dX12_pairs_38 rfl (lv_at hl 0 rfl) ?_
      refine z_get C0 in_X12_pairs_X12 (C := RX12) (T := TX12) (N := 27) hw (k := 0) (ci := 12) (v := .ref (F 17)) rfl rfl rfl rfl 24 (by decide) rfl 3 rfl dX12_pairs_39 ?_
      refine lv_iload hx hb dX12_pairs_42 (lv_at hl 1 rfl) ?_
      obtain ⟨b16, h⟩ := z_gd h
      refine z_iald C0 hw 17 rfl rfl zri_17 (zin_in b16) dX12_pairs_44 ?_
      obtain ⟨b17, h⟩ := z_gd h
      refine z_iasts C0 hw hS 18 rfl rfl zri_18 (zin_in b17) dX12_pairs_45 (fun H locs hw hS => ?_)
      refine lv_iinc (v := (x6 + 1)) (lv' := [(6, .int ((x6 + 1))), (0, .ref (F 0))]) hx hb dX12_pairs_46 hl (k := 1) rfl rfl (by decide) rfl (fun ls hl => ?_)
      refine lv_goto (tgt := 25) hx hb dX12_pairs_49 (by decide) ?_
      exact ih ((zAs S 18 (Int32.toNatClampNeg x6) ((zar S 17 (Int32.toNatClampNeg x6))))) ((x6 + 1)) h _ _ _ hw hS (lv_sub hl [1, 0] rfl)
def M_X12_pairs (S : zSt) (x1 : Int32) (x2 : Int32) (x3 : Int32) (x4 : Int32) (x5 : Int32) : Option (zSt) :=
  (if x3 = 6 then (if (zsc S 0 26) < x5 then M_X12_pairs_B25 zF ((zP S 0 26 x5)) 0 else some S) else zg (zin x3 6) (Option.bind (M_X12_pairs_d5 ((zAs S 17 (Int32.toNatClampNeg x3) (-1))) x1 x2 ((x3 + 1)) x4 x5) (fun w3 => zg (zin x2 6) (Option.bind (some ((zar w3 7 (Int32.toNatClampNeg x2)))) (fun v5 => M_X12_pairs_B81 zF w3 x1 x2 x3 x4 x5 v5)))))
set_option maxHeartbeats 4000000 in
set_option maxRecDepth 100000 in
theorem c_X12_pairs (l : Launch) (D : va_G) (Y : Nat → ClassId) (F : Nat → Nat) (G : zG) (S : zSt) (sz : Nat) (x1 : Int32) (x2 : Int32) (x3 : Int32) (x4 : Int32) (x5 : Int32) (res : zSt) (h : M_X12_pairs S x1 x2 x3 x4 x5 = some res) : Met l yX12_pairs wsX12_pairs (zRm 8 200) (zPc D Y F G S sz [.ref (F 0), .int x1, .int x2, .int x3, .int x4, .int x5]) (zQv D Y F (zAo F G sz) G res) 0 0 (zAo F G sz) := by
  unfold M_X12_pairs at h
  refine zMet (cc := cX12_pairs) (maxL := 7) (ret := none) (own := RX12) (by decide +kernel) rfl rfl (Nat.le_of_ble_eq_true rfl) ?_
  intro p e s m args below meth c C0 hin hw hS ls hl
  have hl : lv_has ls 7 [(0, .ref (F 0)), (1, .int x1), (2, .int x2), (3, .int x3), (4, .int x4), (5, .int x5)] := hl
  generalize zAo F G sz = A at C0 hw hS ⊢
  obtain ⟨hx, hb, hml, hr, hown, hts, hK, hA, hlk, hN⟩ := id C0
  refine lv_iload_n hx hb dX12_pairs_0 rfl (lv_at hl 3 rfl) ?_
  refine lv_bipush (v := 6) hx hb dX12_pairs_1 (by decide) ?_
  refine lv_icmp_ne (tgt := 53) hx hb dX12_pairs_3 (by decide) (fun c1 => ?_) (fun c1 => ?_)
  · replace h := z_ifn c1 h
    refine lv_aload_n hx hb dX12_pairs_53 rfl (lv_at hl 0 rfl) ?_
    refine z_get C0 in_X12_pairs_X12 (C := RX12) (T := TX12) (N := 27) hw (k := 0) (ci := 12) (v := .ref (F 17)) rfl rfl rfl rfl 24 (by decide) rfl 3 rfl dX12_pairs_54 ?_
    refine lv_iload_n hx hb dX12_pairs_57 rfl (lv_at hl 3 rfl) ?_
    refine lv_iconst (v := (-1)) hx hb dX12_pairs_58 (by decide) ?_
    obtain ⟨b2, h⟩ := z_gd h
    refine z_iasts C0 hw hS 17 rfl rfl zri_17 (zin_in b2) dX12_pairs_59 (fun H locs hw hS => ?_)
    refine lv_aload_n hx hb dX12_pairs_60 rfl (lv_at hl 0 rfl) ?_
    refine lv_iload_n hx hb dX12_pairs_61 rfl (lv_at hl 1 rfl) ?_
    refine lv_iload_n hx hb dX12_pairs_62 rfl (lv_at hl 2 rfl) ?_
    refine lv_iload_n hx hb dX12_pairs_63 rfl (lv_at hl 3 rfl) ?_
    refine lv_iconst (v := 1) hx hb dX12_pairs_64 (by decide) ?_
    refine lv_iadd hx hb dX12_pairs_65 ?_
    refine lv_iload hx hb dX12_pairs_66 (lv_at hl 4 rfl) ?_
    refine lv_iload hx hb dX12_pairs_68 (lv_at hl 5 rfl) ?_
    obtain ⟨w3, ew3, h⟩ := z_bd h
    refine z_callVv0 C0 hw hS (k := 0) (As := [.int x1, .int x2, .int ((x3 + 1)), .int x4, .int x5]) (rest := []) rfl rfl rfl rfl (c_X12_pairs_d5 l D Y F G ((zAs S 17 (Int32.toNatClampNeg x3) (-1))) _ x1 x2 ((x3 + 1)) x4 x5 w3 ew3) (cwV 5 hts gX12_pairs_X12_pairs rfl rfl rfl (by decide +kernel) ⟨Nat.le_of_ble_eq_true rfl, Nat.le_of_ble_eq_true rfl⟩) rfl hl.1 rfl (Nat.le_of_ble_eq_true rfl) dX12_pairs_70 ⟨Nat.zero_le _, Nat.zero_le _⟩ (fun H locs hw hS => ?_)
    refine lv_aload_n hx hb dX12_pairs_73 rfl (lv_at hl 0 rfl) ?_
    refine z_get C0 in_X12_pairs_X12 (C := RX12) (T := TX12) (N := 27) hw (k := 0) (ci := 12) (v := .ref (F 7)) rfl rfl rfl rfl 7 (by decide) rfl 4 rfl dX12_pairs_74 ?_
    refine lv_iload_n hx hb dX12_pairs_77 rfl (lv_at hl 2 rfl) ?_
    obtain ⟨b4, h⟩ := z_gd h
    refine z_iald C0 hw 7 rfl rfl zri_7 (zin_in b4) dX12_pairs_78 ?_
    obtain ⟨v5, ev5, h⟩ := z_bd h
    refine z_top (Option.some.inj ev5) ?_
    refine lv_istore (lv' := [(6, .int v5), (0, .ref (F 0)), (1, .int x1), (2, .int x2), (3, .int x3), (4, .int x4), (5, .int x5)]) hx hb dX12_pairs_79 hl (by decide) rfl (fun ls hl => ?_)
    exact t_X12_pairs_B81 C0 res zF w3 x1 x2 x3 x4 x5 v5 h _ _ _ hw hS (lv_sub hl [1, 2, 3, 4, 5, 6, 0] rfl)
  · replace h := z_ifp c1 h
    refine lv_iload hx hb dX12_pairs_6 (lv_at hl 5 rfl) ?_
    refine lv_aload_n hx hb dX12_pairs_8 rfl (lv_at hl 0 rfl) ?_
    refine z_get C0 in_X12_pairs_X12 (C := RX12) (T := TX12) (N := 27) hw (k := 0) (ci := 12) (v := .int ((zsc S 0 26))) rfl rfl rfl rfl 26 (by decide) rfl 1 rfl dX12_pairs_9 ?_
    refine lv_icmp_gt (tgt := 16) hx hb dX12_pairs_12 (by decide) (fun c14 => ?_) (fun c14 => ?_)
    · replace h := z_ifp c14 h
      refine lv_aload_n hx hb dX12_pairs_16 rfl (lv_at hl 0 rfl) ?_
      refine lv_iload hx hb dX12_pairs_17 (lv_at hl 5 rfl) ?_
      refine z_put C0 in_X12_pairs_X12 tyX12 tyX12_ok nmX12 (C := RX12) (T := TX12) (N := 27) hw hS (k := 0) (ci := 12) (v := x5) (ty := .int) rfl rfl rfl rfl 26 (by decide) 1 rfl rfl rfl rfl rfl (Nat.le_of_ble_eq_true rfl) rfl dX12_pairs_19 (fun H locs hw hS => ?_)
      refine lv_iconst (v := 0) hx hb dX12_pairs_22 (by decide) ?_
      refine lv_istore (lv' := [(6, .int 0), (0, .ref (F 0)), (1, .int x1), (2, .int x2), (3, .int x3), (4, .int x4), (5, .int x5)]) hx hb dX12_pairs_23 hl (by decide) rfl (fun ls hl => ?_)
      exact t_X12_pairs_B25 C0 res zF ((zP S 0 26 x5)) 0 h _ _ _ hw hS (lv_sub hl [1, 0] rfl)
    · replace h := z_ifn c14 h
      exact z_retv C0 hw hS (Option.some.inj h) dX12_pairs_15
def M_X12_paired_B21 (S : zSt) : Option (Int32 × zSt) :=
  Option.bind (M_X12_no10 S (-1)) (fun w3 => some (w3.1, w3.2))
set_option maxHeartbeats 4000000 in
set_option maxRecDepth 100000 in
theorem t_X12_paired_B21 {p : Program} {l : Launch} {e : Env} {s : State} {m : MethodId} {args : Array Value} {below : List Frame} {meth : Method} {c : Code} {D : va_G} {Y : Nat → ClassId} {F : Nat → Nat} {A : Nat → Prop} {G : zG} (C0 : zCx p s m args meth c D Y F A RX12 cX12_paired 4 (some .int) wsX12_paired) (res : Int32 × zSt) : ∀ (S : zSt), M_X12_paired_B21 S = some res → ∀ (H : Heap) (locs : List Loc) (ls : Array Slot), zH D Y F A G S H → va_S A s.heap H locs → lv_has ls 4 [(0, .ref (F 0))] → W p l e (zRm 9 226) s m args below meth c H locs 0 0 (MQ below (zQi D Y F A G res) args s 0 0 A) (F0 m 21 ls []) := by
  obtain ⟨hx, hb, hml, hr, hown, hts, hK, hA, hlk, hN⟩ := id C0
  intro S h H locs ls hw hS hl
  unfold M_X12_paired_B21 at h
  refine lv_aload_n hx hb dX12_paired_21 rfl (lv_at hl 0 rfl) ?_
  refine lv_iconst (v := (-1)) hx hb dX12_paired_22 (by decide) ?_
  obtain ⟨w3, ew3, h⟩ := z_bd h
  refine z_callVi0 C0 hw hS (k := 0) (As := [.int (-1)]) (rest := []) rfl rfl rfl rfl (c_X12_no10 l D Y F G S _ (-1) w3 ew3) (cwV 1 hts gX12_paired_X12_no10 rfl rfl rfl (by decide +kernel) ⟨Nat.le_of_ble_eq_true rfl, Nat.le_of_ble_eq_true rfl⟩) rfl hl.1 rfl (Nat.le_of_ble_eq_true rfl) dX12_paired_23 ⟨Nat.zero_le _, Nat.zero_le _⟩ (fun H locs hw hS => ?_)
  exact z_reti C0 hw hS (Option.some.inj h) dX12_paired_26
def M_X12_paired (S : zSt) (x1 : Int32) (x2 : Int32) (x3 : Int32) : Option (Int32 × zSt) :=
  Option.bind (M_X12_isPerson S x1) (fun w1 => (if w1 = 0 then M_X12_paired_B21 S else Option.bind (M_X12_isPerson S x2) (fun w4 => (if w4 = 0 then M_X12_paired_B21 S else (if x1 = x2 then M_X12_paired_B21 S else zg (zin x1 6) (Option.bind (M_X12_within S x3 (-1) ((((6 : Int32) - (zar S 7 (Int32.toNatClampNeg x1))) - 1))) (fun w8 => (if w8 = 0 then Option.bind (M_X12_no10 S (-5)) (fun w15 => some (w15.1, w15.2)) else zg (zin x1 6) (Option.bind (M_X12_pairs ((zP S 0 26 (-1))) x1 x2 ((zar ((zP S 0 26 (-1))) 7 (Int32.toNatClampNeg x1))) 0 0) (fun w11 => (if x3 = (-1) then some ((zsc w11 0 26), w11) else zg (zin x1 6) (zg (zin (((zar w11 7 (Int32.toNatClampNeg x1)) + x3)) 6) (some ((zar w11 18 (Int32.toNatClampNeg (((zar w11 7 (Int32.toNatClampNeg x1)) + x3)))), w11))))))))))))))
set_option maxHeartbeats 4000000 in
set_option maxRecDepth 100000 in
theorem c_X12_paired (l : Launch) (D : va_G) (Y : Nat → ClassId) (F : Nat → Nat) (G : zG) (S : zSt) (sz : Nat) (x1 : Int32) (x2 : Int32) (x3 : Int32) (res : Int32 × zSt) (h : M_X12_paired S x1 x2 x3 = some res) : Met l yX12_paired wsX12_paired (zRm 9 226) (zPc D Y F G S sz [.ref (F 0), .int x1, .int x2, .int x3]) (zQi D Y F (zAo F G sz) G res) 0 0 (zAo F G sz) := by
  unfold M_X12_paired at h
  refine zMet (cc := cX12_paired) (maxL := 4) (ret := (some .int)) (own := RX12) (by decide +kernel) rfl rfl (Nat.le_of_ble_eq_true rfl) ?_
  intro p e s m args below meth c C0 hin hw hS ls hl
  have hl : lv_has ls 4 [(0, .ref (F 0)), (1, .int x1), (2, .int x2), (3, .int x3)] := hl
  generalize zAo F G sz = A at C0 hw hS ⊢
  obtain ⟨hx, hb, hml, hr, hown, hts, hK, hA, hlk, hN⟩ := id C0
  refine lv_aload_n hx hb dX12_paired_0 rfl (lv_at hl 0 rfl) ?_
  refine lv_iload_n hx hb dX12_paired_1 rfl (lv_at hl 1 rfl) ?_
  obtain ⟨w1, ew1, h⟩ := z_bd h
  refine z_callVip C0 hw hS (k := 0) (As := [.int x1]) (rest := []) rfl rfl rfl rfl (c_X12_isPerson l D Y F G S _ x1 w1 ew1) (cwV 1 hts gX12_paired_X12_isPerson rfl rfl rfl (by decide +kernel) ⟨Nat.le_of_ble_eq_true rfl, Nat.le_of_ble_eq_true rfl⟩) rfl hl.1 rfl (Nat.le_of_ble_eq_true rfl) dX12_paired_2 ⟨Nat.zero_le _, Nat.zero_le _⟩ (fun H locs hw hS => ?_)
  refine lv_if_eq (tgt := 21) hx hb dX12_paired_5 (by decide) (fun c2 => ?_) (fun c2 => ?_)
  · replace h := z_ifp c2 h
    exact t_X12_paired_B21 C0 res S h _ _ _ hw hS (lv_sub hl [0] rfl)
  · replace h := z_ifn c2 h
    refine lv_aload_n hx hb dX12_paired_8 rfl (lv_at hl 0 rfl) ?_
    refine lv_iload_n hx hb dX12_paired_9 rfl (lv_at hl 2 rfl) ?_
    obtain ⟨w4, ew4, h⟩ := z_bd h
    refine z_callVip C0 hw hS (k := 0) (As := [.int x2]) (rest := []) rfl rfl rfl rfl (c_X12_isPerson l D Y F G S _ x2 w4 ew4) (cwV 1 hts gX12_paired_X12_isPerson rfl rfl rfl (by decide +kernel) ⟨Nat.le_of_ble_eq_true rfl, Nat.le_of_ble_eq_true rfl⟩) rfl hl.1 rfl (Nat.le_of_ble_eq_true rfl) dX12_paired_10 ⟨Nat.zero_le _, Nat.zero_le _⟩ (fun H locs hw hS => ?_)
    refine lv_if_eq (tgt := 21) hx hb dX12_paired_13 (by decide) (fun c5 => ?_) (fun c5 => ?_)
    · replace h := z_ifp c5 h
      exact t_X12_paired_B21 C0 res S h _ _ _ hw hS (lv_sub hl [0] rfl)
    · replace h := z_ifn c5 h
      refine lv_iload_n hx hb dX12_paired_16 rfl (lv_at hl 1 rfl) ?_
      refine lv_iload_n hx hb dX12_paired_17 rfl (lv_at hl 2 rfl) ?_
      refine lv_icmp_ne (tgt := 27) hx hb dX12_paired_18 (by decide) (fun c6 => ?_) (fun c6 => ?_)
      · replace h := z_ifn c6 h
        refine lv_iload_n hx hb dX12_paired_27 rfl (lv_at hl 3 rfl) ?_
        refine lv_iconst (v := (-1)) hx hb dX12_paired_28 (by decide) ?_
        refine lv_bipush (v := 6) hx hb dX12_paired_29 (by decide) ?_
        refine lv_aload_n hx hb dX12_paired_31 rfl (lv_at hl 0 rfl) ?_
        refine z_get C0 in_X12_paired_X12 (C := RX12) (T := TX12) (N := 27) hw (k := 0) (ci := 12) (v := .ref (F 7)) rfl rfl rfl rfl 7 (by decide) rfl 1 rfl dX12_paired_32 ?_
        refine lv_iload_n hx hb dX12_paired_35 rfl (lv_at hl 1 rfl) ?_
        obtain ⟨b7, h⟩ := z_gd h
        refine z_iald C0 hw 7 rfl rfl zri_7 (zin_in b7) dX12_paired_36 ?_
        refine lv_isub hx hb dX12_paired_37 ?_
        refine lv_iconst (v := 1) hx hb dX12_paired_38 (by decide) ?_
        refine lv_isub hx hb dX12_paired_39 ?_
        obtain ⟨w8, ew8, h⟩ := z_bd h
        refine z_callSip C0 hw hS (As := [.int x3, .int (-1), .int ((((6 : Int32) - (zar S 7 (Int32.toNatClampNeg x1))) - 1))]) (rest := []) (c_X12_within l D Y F G S _ x3 (-1) ((((6 : Int32) - (zar S 7 (Int32.toNatClampNeg x1))) - 1)) w8 ew8) (va_cwS 3 hts gX12_paired_X12_within rfl rfl rfl (by decide +kernel) ⟨Nat.le_of_ble_eq_true rfl, Nat.le_of_ble_eq_true rfl⟩) rfl hl.1 rfl (Nat.le_of_ble_eq_true rfl) dX12_paired_40 ⟨Nat.zero_le _, Nat.zero_le _⟩ (fun H locs hw hS => ?_)
        refine lv_if_ne (tgt := 53) hx hb dX12_paired_43 (by decide) (fun c9 => ?_) (fun c9 => ?_)
        · replace h := z_ifn c9 h
          refine lv_aload_n hx hb dX12_paired_53 rfl (lv_at hl 0 rfl) ?_
          refine lv_iconst (v := (-1)) hx hb dX12_paired_54 (by decide) ?_
          refine z_put C0 in_X12_paired_X12 tyX12 tyX12_ok nmX12 (C := RX12) (T := TX12) (N := 27) hw hS (k := 0) (ci := 12) (v := (-1)) (ty := .int) rfl rfl rfl rfl 26 (by decide) 2 rfl rfl rfl rfl rfl (Nat.le_of_ble_eq_true rfl) rfl dX12_paired_55 (fun H locs hw hS => ?_)
          refine lv_aload_n hx hb dX12_paired_58 rfl (lv_at hl 0 rfl) ?_
          refine lv_iload_n hx hb dX12_paired_59 rfl (lv_at hl 1 rfl) ?_
          refine lv_iload_n hx hb dX12_paired_60 rfl (lv_at hl 2 rfl) ?_
          refine lv_aload_n hx hb dX12_paired_61 rfl (lv_at hl 0 rfl) ?_
          refine z_get C0 in_X12_paired_X12 (C := RX12) (T := TX12) (N := 27) hw (k := 0) (ci := 12) (v := .ref (F 7)) rfl rfl rfl rfl 7 (by decide) rfl 1 rfl dX12_paired_62 ?_
          refine lv_iload_n hx hb dX12_paired_65 rfl (lv_at hl 1 rfl) ?_
          obtain ⟨b10, h⟩ := z_gd h
          refine z_iald C0 hw 7 rfl rfl zri_7 (zin_in b10) dX12_paired_66 ?_
          refine lv_iconst (v := 0) hx hb dX12_paired_67 (by decide) ?_
          refine lv_iconst (v := 0) hx hb dX12_paired_68 (by decide) ?_
          obtain ⟨w11, ew11, h⟩ := z_bd h
          refine z_callVv0 C0 hw hS (k := 0) (As := [.int x1, .int x2, .int ((zar ((zP S 0 26 (-1))) 7 (Int32.toNatClampNeg x1))), .int 0, .int 0]) (rest := []) rfl rfl rfl rfl (c_X12_pairs l D Y F G ((zP S 0 26 (-1))) _ x1 x2 ((zar ((zP S 0 26 (-1))) 7 (Int32.toNatClampNeg x1))) 0 0 w11 ew11) (cwV 5 hts gX12_paired_X12_pairs rfl rfl rfl (by decide +kernel) ⟨Nat.le_of_ble_eq_true rfl, Nat.le_of_ble_eq_true rfl⟩) rfl hl.1 rfl (Nat.le_of_ble_eq_true rfl) dX12_paired_69 ⟨Nat.zero_le _, Nat.zero_le _⟩ (fun H locs hw hS => ?_)
          refine lv_iload_n hx hb dX12_paired_72 rfl (lv_at hl 3 rfl) ?_
          refine lv_iconst (v := (-1)) hx hb dX12_paired_73 (by decide) ?_
          refine lv_icmp_ne (tgt := 84) hx hb dX12_paired_74 (by decide) (fun c12 => ?_) (fun c12 => ?_)
          · replace h := z_ifn c12 h
            refine lv_aload_n hx hb dX12_paired_84 rfl (lv_at hl 0 rfl) ?_
            refine z_get C0 in_X12_paired_X12 (C := RX12) (T := TX12) (N := 27) hw (k := 0) (ci := 12) (v := .ref (F 18)) rfl rfl rfl rfl 25 (by decide) rfl 3 rfl dX12_paired_85 ?_
            refine lv_aload_n hx hb dX12_paired_88 rfl (lv_at hl 0 rfl) ?_
            refine z_get C0 in_X12_paired_X12 (C := RX12) (T := TX12) (N := 27) hw (k := 0) (ci := 12) (v := .ref (F 7)) rfl rfl rfl rfl 7 (by decide) rfl 1 rfl dX12_paired_89 ?_
            refine lv_iload_n hx hb dX12_paired_92 rfl (lv_at hl 1 rfl) ?_
            obtain ⟨b13, h⟩ := z_gd h
            refine z_iald C0 hw 7 rfl rfl zri_7 (zin_in b13) dX12_paired_93 ?_
            refine lv_iload_n hx hb dX12_paired_94 rfl (lv_at hl 3 rfl) ?_
            refine lv_iadd hx hb dX12_paired_95 ?_
            obtain ⟨b14, h⟩ := z_gd h
            refine z_iald C0 hw 18 rfl rfl zri_18 (zin_in b14) dX12_paired_96 ?_
            exact z_reti C0 hw hS (Option.some.inj h) dX12_paired_97
          · replace h := z_ifp c12 h
            refine lv_aload_n hx hb dX12_paired_77 rfl (lv_at hl 0 rfl) ?_
            refine z_get C0 in_X12_paired_X12 (C := RX12) (T := TX12) (N := 27) hw (k := 0) (ci := 12) (v := .int ((zsc w11 0 26))) rfl rfl rfl rfl 26 (by decide) rfl 2 rfl dX12_paired_78 ?_
            refine lv_goto (tgt := 97) hx hb dX12_paired_81 (by decide) ?_
            exact z_reti C0 hw hS (Option.some.inj h) dX12_paired_97
        · replace h := z_ifp c9 h
          refine lv_aload_n hx hb dX12_paired_46 rfl (lv_at hl 0 rfl) ?_
          refine lv_bipush (v := (-5)) hx hb dX12_paired_47 (by decide) ?_
          obtain ⟨w15, ew15, h⟩ := z_bd h
          refine z_callVi0 C0 hw hS (k := 0) (As := [.int (-5)]) (rest := []) rfl rfl rfl rfl (c_X12_no10 l D Y F G S _ (-5) w15 ew15) (cwV 1 hts gX12_paired_X12_no10 rfl rfl rfl (by decide +kernel) ⟨Nat.le_of_ble_eq_true rfl, Nat.le_of_ble_eq_true rfl⟩) rfl hl.1 rfl (Nat.le_of_ble_eq_true rfl) dX12_paired_49 ⟨Nat.zero_le _, Nat.zero_le _⟩ (fun H locs hw hS => ?_)
          exact z_reti C0 hw hS (Option.some.inj h) dX12_paired_52
      · replace h := z_ifp c6 h
        exact t_X12_paired_B21 C0 res S h _ _ _ hw hS (lv_sub hl [0] rfl)
def M_X12_bears_B10 (S : zSt) : Nat → Int32 → Int32 → Int32 → Int32 → Option (Int32)
  | 0, _, _, _, _ => none
  | n + 1, x1, x2, x3, x4 =>
  (if 6 ≤ x4 then some x3 else Option.bind (M_X12_hasDeed S x1 x4 x2) (fun w4 => (if w4 = 0 then M_X12_bears_B10 S n x1 x2 x3 ((x4 + 1)) else zg (zin x1 6) (Option.bind (some (((x4 - (zar S 7 (Int32.toNatClampNeg x1))) + 1))) (fun v7 => M_X12_bears_B10 S n x1 x2 v7 ((x4 + 1)))))))
set_option maxHeartbeats 4000000 in
set_option maxRecDepth 100000 in
theorem t_X12_bears_B10 {p : Program} {l : Launch} {e : Env} {s : State} {m : MethodId} {args : Array Value} {below : List Frame} {meth : Method} {c : Code} {D : va_G} {Y : Nat → ClassId} {F : Nat → Nat} {A : Nat → Prop} {G : zG} (C0 : zCx p s m args meth c D Y F A RX12 cX12_bears 5 (some .int) wsX12_bears) (S : zSt) (res : Int32) : ∀ (n : Nat), ∀ (x1 : Int32) (x2 : Int32) (x3 : Int32) (x4 : Int32), M_X12_bears_B10 S n x1 x2 x3 x4 = some res → ∀ (H : Heap) (locs : List Loc) (ls : Array Slot), zH D Y F A G S H → va_S A s.heap H locs → lv_has ls 5 [(0, .ref (F 0)), (1, .int x1), (2, .int x2), (3, .int x3), (4, .int x4)] → W p l e (zRm 2 46) s m args below meth c H locs 0 0 (MQ below (zQi D Y F A G (res, S)) args s 0 0 A) (F0 m 10 ls []) := by
  obtain ⟨hx, hb, hml, hr, hown, hts, hK, hA, hlk, hN⟩ := id C0
  intro n
  induction n with
  | zero =>
    intro x1 x2 x3 x4 h
    unfold M_X12_bears_B10 at h
    cases h
  | succ n ih =>
    intro x1 x2 x3 x4 h H locs ls hw hS hl
    rw [M_X12_bears_B10] at h
    refine lv_iload hx hb dX12_bears_10 (lv_at hl 4 rfl) ?_
    refine lv_bipush (v := 6) hx hb dX12_bears_12 (by decide) ?_
    refine lv_icmp_ge (tgt := 46) hx hb dX12_bears_14 (by decide) (fun c3 => ?_) (fun c3 => ?_)
    · replace h := z_ifp c3 h
      refine lv_iload_n hx hb dX12_bears_46 rfl (lv_at hl 3 rfl) ?_
      exact z_reti C0 hw hS (congrArg (fun z => (z, S)) (Option.some.inj h)) dX12_bears_47
    · replace h := z_ifn c3 h
      refine lv_aload_n hx hb dX12_bears_17 rfl (lv_at hl 0 rfl) ?_
      refine lv_iload_n hx hb dX12_bears_18 rfl (lv_at hl 1 rfl) ?_
      refine lv_iload hx hb dX12_bears_19 (lv_at hl 4 rfl) ?_
      refine lv_iload_n hx hb dX12_bears_21 rfl (lv_at hl 2 rfl) ?_
      obtain ⟨w4, ew4, h⟩ := z_bd h
      refine z_callVip C0 hw hS (k := 0) (As := [.int x1, .int x4, .int x2]) (rest := []) rfl rfl rfl rfl (c_X12_hasDeed l D Y F G S _ x1 x4 x2 w4 ew4) (cwV 3 hts gX12_bears_X12_hasDeed rfl rfl rfl (by decide +kernel) ⟨Nat.le_of_ble_eq_true rfl, Nat.le_of_ble_eq_true rfl⟩) rfl hl.1 rfl (Nat.le_of_ble_eq_true rfl) dX12_bears_22 ⟨Nat.zero_le _, Nat.zero_le _⟩ (fun H locs hw hS => ?_)
      refine lv_if_eq (tgt := 40) hx hb dX12_bears_25 (by decide) (fun c5 => ?_) (fun c5 => ?_)
      · replace h := z_ifp c5 h
        refine lv_iinc (v := (x4 + 1)) (lv' := [(4, .int ((x4 + 1))), (0, .ref (F 0)), (1, .int x1), (2, .int x2), (3, .int x3)]) hx hb dX12_bears_40 hl (k := 4) rfl rfl (by decide) rfl (fun ls hl => ?_)
        refine lv_goto (tgt := 10) hx hb dX12_bears_43 (by decide) ?_
        exact ih x1 x2 x3 ((x4 + 1)) h _ _ _ hw hS (lv_sub hl [1, 2, 3, 4, 0] rfl)
      · replace h := z_ifn c5 h
        refine lv_iload hx hb dX12_bears_28 (lv_at hl 4 rfl) ?_
        refine lv_aload_n hx hb dX12_bears_30 rfl (lv_at hl 0 rfl) ?_
        refine z_get C0 in_X12_bears_X12 (C := RX12) (T := TX12) (N := 27) hw (k := 0) (ci := 12) (v := .ref (F 7)) rfl rfl rfl rfl 7 (by decide) rfl 1 rfl dX12_bears_31 ?_
        refine lv_iload_n hx hb dX12_bears_34 rfl (lv_at hl 1 rfl) ?_
        obtain ⟨b6, h⟩ := z_gd h
        refine z_iald C0 hw 7 rfl rfl zri_7 (zin_in b6) dX12_bears_35 ?_
        refine lv_isub hx hb dX12_bears_36 ?_
        refine lv_iconst (v := 1) hx hb dX12_bears_37 (by decide) ?_
        refine lv_iadd hx hb dX12_bears_38 ?_
        obtain ⟨v7, ev7, h⟩ := z_bd h
        refine z_top (Option.some.inj ev7) ?_
        refine lv_istore_n (lv' := [(3, .int v7), (0, .ref (F 0)), (1, .int x1), (2, .int x2), (4, .int x4)]) hx hb dX12_bears_39 rfl hl (by decide) rfl (fun ls hl => ?_)
        refine lv_iinc (v := (x4 + 1)) (lv' := [(4, .int ((x4 + 1))), (3, .int v7), (0, .ref (F 0)), (1, .int x1), (2, .int x2)]) hx hb dX12_bears_40 hl (k := 4) rfl rfl (by decide) rfl (fun ls hl => ?_)
        refine lv_goto (tgt := 10) hx hb dX12_bears_43 (by decide) ?_
        exact ih x1 x2 v7 ((x4 + 1)) h _ _ _ hw hS (lv_sub hl [2, 3, 4, 1, 0] rfl)
def M_X12_bears (S : zSt) (x1 : Int32) (x2 : Int32) : Option (Int32) :=
  zg (zin x1 6) (Option.bind (some ((zar S 7 (Int32.toNatClampNeg x1)))) (fun v2 => M_X12_bears_B10 S zF x1 x2 0 v2))
set_option maxHeartbeats 4000000 in
set_option maxRecDepth 100000 in
theorem c_X12_bears (l : Launch) (D : va_G) (Y : Nat → ClassId) (F : Nat → Nat) (G : zG) (S : zSt) (sz : Nat) (x1 : Int32) (x2 : Int32) (res : Int32) (h : M_X12_bears S x1 x2 = some res) : Met l yX12_bears wsX12_bears (zRm 2 46) (zPc D Y F G S sz [.ref (F 0), .int x1, .int x2]) (zQi D Y F (zAo F G sz) G (res, S)) 0 0 (zAo F G sz) := by
  unfold M_X12_bears at h
  refine zMet (cc := cX12_bears) (maxL := 5) (ret := (some .int)) (own := RX12) (by decide +kernel) rfl rfl (Nat.le_of_ble_eq_true rfl) ?_
  intro p e s m args below meth c C0 hin hw hS ls hl
  have hl : lv_has ls 5 [(0, .ref (F 0)), (1, .int x1), (2, .int x2)] := hl
  generalize zAo F G sz = A at C0 hw hS ⊢
  obtain ⟨hx, hb, hml, hr, hown, hts, hK, hA, hlk, hN⟩ := id C0
  refine lv_iconst (v := 0) hx hb dX12_bears_0 (by decide) ?_
  refine lv_istore_n (lv' := [(3, .int 0), (0, .ref (F 0)), (1, .int x1), (2, .int x2)]) hx hb dX12_bears_1 rfl hl (by decide) rfl (fun ls hl => ?_)
  refine lv_aload_n hx hb dX12_bears_2 rfl (lv_at hl 1 rfl) ?_
  refine z_get C0 in_X12_bears_X12 (C := RX12) (T := TX12) (N := 27) hw (k := 0) (ci := 12) (v := .ref (F 7)) rfl rfl rfl rfl 7 (by decide) rfl 1 rfl dX12_bears_3 ?_
  refine lv_iload_n hx hb dX12_bears_6 rfl (lv_at hl 2 rfl) ?_
  obtain ⟨b1, h⟩ := z_gd h
  refine z_iald C0 hw 7 rfl rfl zri_7 (zin_in b1) dX12_bears_7 ?_
  obtain ⟨v2, ev2, h⟩ := z_bd h
  refine z_top (Option.some.inj ev2) ?_
  refine lv_istore (lv' := [(4, .int v2), (3, .int 0), (0, .ref (F 0)), (1, .int x1), (2, .int x2)]) hx hb dX12_bears_8 hl (by decide) rfl (fun ls hl => ?_)
  exact t_X12_bears_B10 C0 S res zF x1 x2 0 v2 h _ _ _ hw hS (lv_sub hl [2, 3, 4, 1, 0] rfl)
def M_X12_bear (S : zSt) (x1 : Int32) (x2 : Int32) : Option (Int32 × zSt) :=
  Option.bind (M_X12_isPerson S x1) (fun w1 => (if w1 = 0 then Option.bind (M_X12_no S (-1)) (fun w7 => some (w7.1, w7.2)) else Option.bind (M_X12_isDeed S x2) (fun w3 => (if w3 = 0 then Option.bind (M_X12_no S (-6)) (fun w5 => some (w5.1, w5.2)) else Option.bind (M_X12_bears S x1 x2) (fun w6 => some (w6, S))))))
set_option maxHeartbeats 4000000 in
set_option maxRecDepth 100000 in
theorem c_X12_bear (l : Launch) (D : va_G) (Y : Nat → ClassId) (F : Nat → Nat) (G : zG) (S : zSt) (sz : Nat) (x1 : Int32) (x2 : Int32) (res : Int32 × zSt) (h : M_X12_bear S x1 x2 = some res) : Met l yX12_bear wsX12_bear (zRm 3 70) (zPc D Y F G S sz [.ref (F 0), .int x1, .int x2]) (zQi D Y F (zAo F G sz) G res) 0 0 (zAo F G sz) := by
  unfold M_X12_bear at h
  refine zMet (cc := cX12_bear) (maxL := 3) (ret := (some .int)) (own := RX12) (by decide +kernel) rfl rfl (Nat.le_of_ble_eq_true rfl) ?_
  intro p e s m args below meth c C0 hin hw hS ls hl
  have hl : lv_has ls 3 [(0, .ref (F 0)), (1, .int x1), (2, .int x2)] := hl
  generalize zAo F G sz = A at C0 hw hS ⊢
  obtain ⟨hx, hb, hml, hr, hown, hts, hK, hA, hlk, hN⟩ := id C0
  refine lv_aload_n hx hb dX12_bear_0 rfl (lv_at hl 0 rfl) ?_
  refine lv_iload_n hx hb dX12_bear_1 rfl (lv_at hl 1 rfl) ?_
  obtain ⟨w1, ew1, h⟩ := z_bd h
  refine z_callVip C0 hw hS (k := 0) (As := [.int x1]) (rest := []) rfl rfl rfl rfl (c_X12_isPerson l D Y F G S _ x1 w1 ew1) (cwV 1 hts gX12_bear_X12_isPerson rfl rfl rfl (by decide +kernel) ⟨Nat.le_of_ble_eq_true rfl, Nat.le_of_ble_eq_true rfl⟩) rfl hl.1 rfl (Nat.le_of_ble_eq_true rfl) dX12_bear_2 ⟨Nat.zero_le _, Nat.zero_le _⟩ (fun H locs hw hS => ?_)
  refine lv_if_ne (tgt := 14) hx hb dX12_bear_5 (by decide) (fun c2 => ?_) (fun c2 => ?_)
  · replace h := z_ifn c2 h
    refine lv_iload_n hx hb dX12_bear_14 rfl (lv_at hl 2 rfl) ?_
    obtain ⟨w3, ew3, h⟩ := z_bd h
    refine z_callSip C0 hw hS (As := [.int x2]) (rest := []) (c_X12_isDeed l D Y F G S _ x2 w3 ew3) (va_cwS 1 hts gX12_bear_X12_isDeed rfl rfl rfl (by decide +kernel) ⟨Nat.le_of_ble_eq_true rfl, Nat.le_of_ble_eq_true rfl⟩) rfl hl.1 rfl (Nat.le_of_ble_eq_true rfl) dX12_bear_15 ⟨Nat.zero_le _, Nat.zero_le _⟩ (fun H locs hw hS => ?_)
    refine lv_if_eq (tgt := 30) hx hb dX12_bear_18 (by decide) (fun c4 => ?_) (fun c4 => ?_)
    · replace h := z_ifp c4 h
      refine lv_aload_n hx hb dX12_bear_30 rfl (lv_at hl 0 rfl) ?_
      refine lv_bipush (v := (-6)) hx hb dX12_bear_31 (by decide) ?_
      obtain ⟨w5, ew5, h⟩ := z_bd h
      refine z_callVi0 C0 hw hS (k := 0) (As := [.int (-6)]) (rest := []) rfl rfl rfl rfl (c_X12_no l D Y F G S _ (-6) w5 ew5) (cwV 1 hts gX12_bear_X12_no rfl rfl rfl (by decide +kernel) ⟨Nat.le_of_ble_eq_true rfl, Nat.le_of_ble_eq_true rfl⟩) rfl hl.1 rfl (Nat.le_of_ble_eq_true rfl) dX12_bear_33 ⟨Nat.zero_le _, Nat.zero_le _⟩ (fun H locs hw hS => ?_)
      exact z_reti C0 hw hS (Option.some.inj h) dX12_bear_36
    · replace h := z_ifn c4 h
      refine lv_aload_n hx hb dX12_bear_21 rfl (lv_at hl 0 rfl) ?_
      refine lv_iload_n hx hb dX12_bear_22 rfl (lv_at hl 1 rfl) ?_
      refine lv_iload_n hx hb dX12_bear_23 rfl (lv_at hl 2 rfl) ?_
      obtain ⟨w6, ew6, h⟩ := z_bd h
      refine z_callVip C0 hw hS (k := 0) (As := [.int x1, .int x2]) (rest := []) rfl rfl rfl rfl (c_X12_bears l D Y F G S _ x1 x2 w6 ew6) (cwV 2 hts gX12_bear_X12_bears rfl rfl rfl (by decide +kernel) ⟨Nat.le_of_ble_eq_true rfl, Nat.le_of_ble_eq_true rfl⟩) rfl hl.1 rfl (Nat.le_of_ble_eq_true rfl) dX12_bear_24 ⟨Nat.zero_le _, Nat.zero_le _⟩ (fun H locs hw hS => ?_)
      refine lv_goto (tgt := 36) hx hb dX12_bear_27 (by decide) ?_
      exact z_reti C0 hw hS (Option.some.inj h) dX12_bear_36
  · replace h := z_ifp c2 h
    refine lv_aload_n hx hb dX12_bear_8 rfl (lv_at hl 0 rfl) ?_
    refine lv_iconst (v := (-1)) hx hb dX12_bear_9 (by decide) ?_
    obtain ⟨w7, ew7, h⟩ := z_bd h
    refine z_callVi0 C0 hw hS (k := 0) (As := [.int (-1)]) (rest := []) rfl rfl rfl rfl (c_X12_no l D Y F G S _ (-1) w7 ew7) (cwV 1 hts gX12_bear_X12_no rfl rfl rfl (by decide +kernel) ⟨Nat.le_of_ble_eq_true rfl, Nat.le_of_ble_eq_true rfl⟩) rfl hl.1 rfl (Nat.le_of_ble_eq_true rfl) dX12_bear_10 ⟨Nat.zero_le _, Nat.zero_le _⟩ (fun H locs hw hS => ?_)
    exact z_reti C0 hw hS (Option.some.inj h) dX12_bear_13
def M_X12_heir_B32 : Nat → zSt → Int32 → Int32 → Int32 → Option (Int32 × zSt)
  | 0, _, _, _, _ => none
  | n + 1, S, x1, x2, x3 =>
  (if (zsc S 0 3) ≤ x3 then some (x2, S) else Option.bind (M_X12_bears S x3 x1) (fun w5 => Option.bind (M_X12_bears S x2 x1) (fun w6 => (if w5 ≤ w6 then M_X12_heir_B32 n S x1 x2 ((x3 + 1)) else M_X12_heir_B32 n S x1 x3 ((x3 + 1))))))
set_option maxHeartbeats 4000000 in
set_option maxRecDepth 100000 in
theorem t_X12_heir_B32 {p : Program} {l : Launch} {e : Env} {s : State} {m : MethodId} {args : Array Value} {below : List Frame} {meth : Method} {c : Code} {D : va_G} {Y : Nat → ClassId} {F : Nat → Nat} {A : Nat → Prop} {G : zG} (C0 : zCx p s m args meth c D Y F A RX12 cX12_heir 4 (some .int) wsX12_heir) (res : Int32 × zSt) : ∀ (n : Nat), ∀ (S : zSt) (x1 : Int32) (x2 : Int32) (x3 : Int32), M_X12_heir_B32 n S x1 x2 x3 = some res → ∀ (H : Heap) (locs : List Loc) (ls : Array Slot), zH D Y F A G S H → va_S A s.heap H locs → lv_has ls 4 [(0, .ref (F 0)), (1, .int x1), (2, .int x2), (3, .int x3)] → W p l e (zRm 3 70) s m args below meth c H locs 0 0 (MQ below (zQi D Y F A G res) args s 0 0 A) (F0 m 32 ls []) := by
  obtain ⟨hx, hb, hml, hr, hown, hts, hK, hA, hlk, hN⟩ := id C0
  intro n
  induction n with
  | zero =>
    intro S x1 x2 x3 h
    unfold M_X12_heir_B32 at h
    cases h
  | succ n ih =>
    intro S x1 x2 x3 h H locs ls hw hS hl
    rw [M_X12_heir_B32] at h
    refine lv_iload_n hx hb dX12_heir_32 rfl (lv_at hl 3 rfl) ?_
    refine lv_aload_n hx hb dX12_heir_33 rfl (lv_at hl 0 rfl) ?_
    refine z_get C0 in_X12_heir_X12 (C := RX12) (T := TX12) (N := 27) hw (k := 0) (ci := 12) (v := .int ((zsc S 0 3))) rfl rfl rfl rfl 3 (by decide) rfl 1 rfl dX12_heir_34 ?_
    refine lv_icmp_ge (tgt := 63) hx hb dX12_heir_37 (by decide) (fun c4 => ?_) (fun c4 => ?_)
    · replace h := z_ifp c4 h
      refine lv_iload_n hx hb dX12_heir_63 rfl (lv_at hl 2 rfl) ?_
      exact z_reti C0 hw hS (Option.some.inj h) dX12_heir_64
    · replace h := z_ifn c4 h
      refine lv_aload_n hx hb dX12_heir_40 rfl (lv_at hl 0 rfl) ?_
      refine lv_iload_n hx hb dX12_heir_41 rfl (lv_at hl 3 rfl) ?_
      refine lv_iload_n hx hb dX12_heir_42 rfl (lv_at hl 1 rfl) ?_
      obtain ⟨w5, ew5, h⟩ := z_bd h
      refine z_callVip C0 hw hS (k := 0) (As := [.int x3, .int x1]) (rest := []) rfl rfl rfl rfl (c_X12_bears l D Y F G S _ x3 x1 w5 ew5) (cwV 2 hts gX12_heir_X12_bears rfl rfl rfl (by decide +kernel) ⟨Nat.le_of_ble_eq_true rfl, Nat.le_of_ble_eq_true rfl⟩) rfl hl.1 rfl (Nat.le_of_ble_eq_true rfl) dX12_heir_43 ⟨Nat.zero_le _, Nat.zero_le _⟩ (fun H locs hw hS => ?_)
      refine lv_aload_n hx hb dX12_heir_46 rfl (lv_at hl 0 rfl) ?_
      refine lv_iload_n hx hb dX12_heir_47 rfl (lv_at hl 2 rfl) ?_
      refine lv_iload_n hx hb dX12_heir_48 rfl (lv_at hl 1 rfl) ?_
      obtain ⟨w6, ew6, h⟩ := z_bd h
      refine z_callVip C0 hw hS (k := 0) (As := [.int x2, .int x1]) (rest := [.int w5]) rfl rfl rfl rfl (c_X12_bears l D Y F G S _ x2 x1 w6 ew6) (cwV 2 hts gX12_heir_X12_bears rfl rfl rfl (by decide +kernel) ⟨Nat.le_of_ble_eq_true rfl, Nat.le_of_ble_eq_true rfl⟩) rfl hl.1 rfl (Nat.le_of_ble_eq_true rfl) dX12_heir_49 ⟨Nat.zero_le _, Nat.zero_le _⟩ (fun H locs hw hS => ?_)
      refine lv_icmp_le (tgt := 57) hx hb dX12_heir_52 (by decide) (fun c7 => ?_) (fun c7 => ?_)
      · replace h := z_ifp c7 h
        refine lv_iinc (v := (x3 + 1)) (lv' := [(3, .int ((x3 + 1))), (0, .ref (F 0)), (1, .int x1), (2, .int x2)]) hx hb dX12_heir_57 hl (k := 3) rfl rfl (by decide) rfl (fun ls hl => ?_)
        refine lv_goto (tgt := 32) hx hb dX12_heir_60 (by decide) ?_
        exact ih S x1 x2 ((x3 + 1)) h _ _ _ hw hS (lv_sub hl [1, 2, 3, 0] rfl)
      · replace h := z_ifn c7 h
        refine lv_iload_n hx hb dX12_heir_55 rfl (lv_at hl 3 rfl) ?_
        refine lv_istore_n (lv' := [(2, .int x3), (0, .ref (F 0)), (1, .int x1), (3, .int x3)]) hx hb dX12_heir_56 rfl hl (by decide) rfl (fun ls hl => ?_)
        refine lv_iinc (v := (x3 + 1)) (lv' := [(3, .int ((x3 + 1))), (2, .int x3), (0, .ref (F 0)), (1, .int x1)]) hx hb dX12_heir_57 hl (k := 3) rfl rfl (by decide) rfl (fun ls hl => ?_)
        refine lv_goto (tgt := 32) hx hb dX12_heir_60 (by decide) ?_
        exact ih S x1 x3 ((x3 + 1)) h _ _ _ hw hS (lv_sub hl [2, 3, 1, 0] rfl)
def M_X12_heir (S : zSt) (x1 : Int32) : Option (Int32 × zSt) :=
  (if (zsc S 0 3) = 0 then Option.bind (M_X12_no S (-5)) (fun w9 => some (w9.1, w9.2)) else Option.bind (M_X12_isDeed S x1) (fun w2 => (if w2 = 0 then Option.bind (M_X12_no S (-6)) (fun w8 => some (w8.1, w8.2)) else M_X12_heir_B32 zF S x1 0 1)))
set_option maxHeartbeats 4000000 in
set_option maxRecDepth 100000 in
theorem c_X12_heir (l : Launch) (D : va_G) (Y : Nat → ClassId) (F : Nat → Nat) (G : zG) (S : zSt) (sz : Nat) (x1 : Int32) (res : Int32 × zSt) (h : M_X12_heir S x1 = some res) : Met l yX12_heir wsX12_heir (zRm 3 70) (zPc D Y F G S sz [.ref (F 0), .int x1]) (zQi D Y F (zAo F G sz) G res) 0 0 (zAo F G sz) := by
  unfold M_X12_heir at h
  refine zMet (cc := cX12_heir) (maxL := 4) (ret := (some .int)) (own := RX12) (by decide +kernel) rfl rfl (Nat.le_of_ble_eq_true rfl) ?_
  intro p e s m args below meth c C0 hin hw hS ls hl
  have hl : lv_has ls 4 [(0, .ref (F 0)), (1, .int x1)] := hl
  generalize zAo F G sz = A at C0 hw hS ⊢
  obtain ⟨hx, hb, hml, hr, hown, hts, hK, hA, hlk, hN⟩ := id C0
  refine lv_aload_n hx hb dX12_heir_0 rfl (lv_at hl 0 rfl) ?_
  refine z_get C0 in_X12_heir_X12 (C := RX12) (T := TX12) (N := 27) hw (k := 0) (ci := 12) (v := .int ((zsc S 0 3))) rfl rfl rfl rfl 3 (by decide) rfl 1 rfl dX12_heir_1 ?_
  refine lv_if_ne (tgt := 14) hx hb dX12_heir_4 (by decide) (fun c1 => ?_) (fun c1 => ?_)
  · replace h := z_ifn c1 h
    refine lv_iload_n hx hb dX12_heir_14 rfl (lv_at hl 1 rfl) ?_
    obtain ⟨w2, ew2, h⟩ := z_bd h
    refine z_callSip C0 hw hS (As := [.int x1]) (rest := []) (c_X12_isDeed l D Y F G S _ x1 w2 ew2) (va_cwS 1 hts gX12_heir_X12_isDeed rfl rfl rfl (by decide +kernel) ⟨Nat.le_of_ble_eq_true rfl, Nat.le_of_ble_eq_true rfl⟩) rfl hl.1 rfl (Nat.le_of_ble_eq_true rfl) dX12_heir_15 ⟨Nat.zero_le _, Nat.zero_le _⟩ (fun H locs hw hS => ?_)
    refine lv_if_ne (tgt := 28) hx hb dX12_heir_18 (by decide) (fun c3 => ?_) (fun c3 => ?_)
    · replace h := z_ifn c3 h
      refine lv_iconst (v := 0) hx hb dX12_heir_28 (by decide) ?_
      refine lv_istore_n (lv' := [(2, .int 0), (0, .ref (F 0)), (1, .int x1)]) hx hb dX12_heir_29 rfl hl (by decide) rfl (fun ls hl => ?_)
      refine lv_iconst (v := 1) hx hb dX12_heir_30 (by decide) ?_
      refine lv_istore_n (lv' := [(3, .int 1), (2, .int 0), (0, .ref (F 0)), (1, .int x1)]) hx hb dX12_heir_31 rfl hl (by decide) rfl (fun ls hl => ?_)
      exact t_X12_heir_B32 C0 res zF S x1 0 1 h _ _ _ hw hS (lv_sub hl [2, 3, 1, 0] rfl)
    · replace h := z_ifp c3 h
      refine lv_aload_n hx hb dX12_heir_21 rfl (lv_at hl 0 rfl) ?_
      refine lv_bipush (v := (-6)) hx hb dX12_heir_22 (by decide) ?_
      obtain ⟨w8, ew8, h⟩ := z_bd h
      refine z_callVi0 C0 hw hS (k := 0) (As := [.int (-6)]) (rest := []) rfl rfl rfl rfl (c_X12_no l D Y F G S _ (-6) w8 ew8) (cwV 1 hts gX12_heir_X12_no rfl rfl rfl (by decide +kernel) ⟨Nat.le_of_ble_eq_true rfl, Nat.le_of_ble_eq_true rfl⟩) rfl hl.1 rfl (Nat.le_of_ble_eq_true rfl) dX12_heir_24 ⟨Nat.zero_le _, Nat.zero_le _⟩ (fun H locs hw hS => ?_)
      exact z_reti C0 hw hS (Option.some.inj h) dX12_heir_27
  · replace h := z_ifp c1 h
    refine lv_aload_n hx hb dX12_heir_7 rfl (lv_at hl 0 rfl) ?_
    refine lv_bipush (v := (-5)) hx hb dX12_heir_8 (by decide) ?_
    obtain ⟨w9, ew9, h⟩ := z_bd h
    refine z_callVi0 C0 hw hS (k := 0) (As := [.int (-5)]) (rest := []) rfl rfl rfl rfl (c_X12_no l D Y F G S _ (-5) w9 ew9) (cwV 1 hts gX12_heir_X12_no rfl rfl rfl (by decide +kernel) ⟨Nat.le_of_ble_eq_true rfl, Nat.le_of_ble_eq_true rfl⟩) rfl hl.1 rfl (Nat.le_of_ble_eq_true rfl) dX12_heir_10 ⟨Nat.zero_le _, Nat.zero_le _⟩ (fun H locs hw hS => ?_)
    exact z_reti C0 hw hS (Option.some.inj h) dX12_heir_13
