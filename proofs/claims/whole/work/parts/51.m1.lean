set_option maxRecDepth 20000 in
theorem in_X12_ask_X12 : ∀ w ∈ u_ws RX12 TX12 27, w ∈ wsX12_ask := by decide +kernel
set_option maxRecDepth 20000 in
theorem in_X12_copyOf_X12 : ∀ w ∈ u_ws RX12 TX12 27, w ∈ wsX12_copyOf := by decide +kernel
set_option maxRecDepth 20000 in
theorem in_X12_drift_X12 : ∀ w ∈ u_ws RX12 TX12 27, w ∈ wsX12_drift := by decide +kernel
set_option maxRecDepth 20000 in
theorem in_X12_fault_X12 : ∀ w ∈ u_ws RX12 TX12 27, w ∈ wsX12_fault := by decide +kernel
set_option maxRecDepth 20000 in
theorem in_X12_gives_X12 : ∀ w ∈ u_ws RX12 TX12 27, w ∈ wsX12_gives := by decide +kernel
set_option maxRecDepth 20000 in
theorem in_X12_hasDeed_X12 : ∀ w ∈ u_ws RX12 TX12 27, w ∈ wsX12_hasDeed := by decide +kernel
set_option maxRecDepth 20000 in
theorem in_X12_haveBits_X12 : ∀ w ∈ u_ws RX12 TX12 27, w ∈ wsX12_haveBits := by decide +kernel
set_option maxRecDepth 20000 in
theorem in_X12_is_X12 : ∀ w ∈ u_ws RX12 TX12 27, w ∈ wsX12_is := by decide +kernel
set_option maxRecDepth 20000 in
theorem in_X12_newPerson_X12 : ∀ w ∈ u_ws RX12 TX12 27, w ∈ wsX12_newPerson := by decide +kernel
set_option maxRecDepth 20000 in
theorem in_X12_number_X12 : ∀ w ∈ u_ws RX12 TX12 27, w ∈ wsX12_number := by decide +kernel
set_option maxRecDepth 20000 in
theorem in_X12_person_X12 : ∀ w ∈ u_ws RX12 TX12 27, w ∈ wsX12_person := by decide +kernel
set_option maxRecDepth 20000 in
theorem in_X12_personOf_X12 : ∀ w ∈ u_ws RX12 TX12 27, w ∈ wsX12_personOf := by decide +kernel
set_option maxRecDepth 20000 in
theorem in_X12_presses_X12 : ∀ w ∈ u_ws RX12 TX12 27, w ∈ wsX12_presses := by decide +kernel
set_option maxRecDepth 20000 in
theorem in_X12_rubbed_X12 : ∀ w ∈ u_ws RX12 TX12 27, w ∈ wsX12_rubbed := by decide +kernel
set_option maxRecDepth 20000 in
theorem in_X12_rubs_X12 : ∀ w ∈ u_ws RX12 TX12 27, w ∈ wsX12_rubs := by decide +kernel
set_option maxRecDepth 20000 in
theorem in_X12_sign_X12 : ∀ w ∈ u_ws RX12 TX12 27, w ∈ wsX12_sign := by decide +kernel
set_option maxRecDepth 20000 in
theorem in_X12_stands_X12 : ∀ w ∈ u_ws RX12 TX12 27, w ∈ wsX12_stands := by decide +kernel
set_option maxRecDepth 20000 in
theorem in_X12_strengthOf_X12 : ∀ w ∈ u_ws RX12 TX12 27, w ∈ wsX12_strengthOf := by decide +kernel
def M_X12_newPerson_B91 : Nat → zSt → Int32 → Option (Int32 × zSt)
  | 0, _, _ => none
  | n + 1, S, x4 =>
  (if 48 ≤ x4 then some ((zsc S 0 3), (zP S 0 3 (((zsc S 0 3) + 1)))) else zg (zin ((((48 : Int32) * (zsc S 0 3)) + x4)) 288) (M_X12_newPerson_B91 n ((zAs S 10 (Int32.toNatClampNeg ((((48 : Int32) * (zsc S 0 3)) + x4))) 0)) ((x4 + 1))))
set_option maxHeartbeats 4000000 in
set_option maxRecDepth 100000 in
theorem t_X12_newPerson_B91 {p : Program} {l : Launch} {e : Env} {s : State} {m : MethodId} {args : Array Value} {below : List Frame} {meth : Method} {c : Code} {D : va_G} {Y : Nat → ClassId} {F : Nat → Nat} {A : Nat → Prop} {G : zG} (C0 : zCx p s m args meth c D Y F A RX12 cX12_newPerson 5 (some .int) wsX12_newPerson) (res : Int32 × zSt) : ∀ (n : Nat), ∀ (S : zSt) (x4 : Int32), M_X12_newPerson_B91 n S x4 = some res → ∀ (H : Heap) (locs : List Loc) (ls : Array Slot), zH D Y F A G S H → va_S A s.heap H locs → lv_has ls 5 [(0, .ref (F 0)), (4, .int x4)] → W p l e (zRm 0 0) s m args below meth c H locs 0 0 (MQ below (zQi D Y F A G res) args s 0 0 A) (F0 m 91 ls []) := by
  obtain ⟨hx, hb, hml, hr, hown, hts, hK, hA, hlk, hN⟩ := id C0
  intro n
  induction n with
  | zero =>
    intro S x4 h
    unfold M_X12_newPerson_B91 at h
    cases h
  | succ n ih =>
    intro S x4 h H locs ls hw hS hl
    rw [M_X12_newPerson_B91] at h
    refine lv_iload hx hb dX12_newPerson_91 (lv_at hl 1 rfl) ?_
    refine lv_bipush (v := 48) hx hb dX12_newPerson_93 (by decide) ?_
    refine lv_icmp_ge (tgt := 120) hx hb dX12_newPerson_95 (by decide) (fun c6 => ?_) (fun c6 => ?_)
    · replace h := z_ifp c6 h
      refine lv_aload_n hx hb dX12_newPerson_120 rfl (lv_at hl 0 rfl) ?_
      refine lv_dup hx hb dX12_newPerson_121 rfl ?_
      refine z_get C0 in_X12_newPerson_X12 (C := RX12) (T := TX12) (N := 27) hw (k := 0) (ci := 12) (v := .int ((zsc S 0 3))) rfl rfl rfl rfl 3 (by decide) rfl 2 rfl dX12_newPerson_122 ?_
      refine lv_dup_x1 hx hb dX12_newPerson_125 rfl rfl ?_
      refine lv_iconst (v := 1) hx hb dX12_newPerson_126 (by decide) ?_
      refine lv_iadd hx hb dX12_newPerson_127 ?_
      refine z_put C0 in_X12_newPerson_X12 tyX12 tyX12_ok nmX12 (C := RX12) (T := TX12) (N := 27) hw hS (k := 0) (ci := 12) (v := ((zsc S 0 3) + 1)) (ty := .int) rfl rfl rfl rfl 3 (by decide) 2 rfl rfl rfl rfl rfl (Nat.le_of_ble_eq_true rfl) rfl dX12_newPerson_128 (fun H locs hw hS => ?_)
      exact z_reti C0 hw hS (Option.some.inj h) dX12_newPerson_131
    · replace h := z_ifn c6 h
      refine lv_aload_n hx hb dX12_newPerson_98 rfl (lv_at hl 0 rfl) ?_
      refine z_get C0 in_X12_newPerson_X12 (C := RX12) (T := TX12) (N := 27) hw (k := 0) (ci := 12) (v := .ref (F 10)) rfl rfl rfl rfl 10 (by decide) rfl 8 rfl dX12_newPerson_99 ?_
      refine lv_bipush (v := 48) hx hb dX12_newPerson_102 (by decide) ?_
      refine lv_aload_n hx hb dX12_newPerson_104 rfl (lv_at hl 0 rfl) ?_
      refine z_get C0 in_X12_newPerson_X12 (C := RX12) (T := TX12) (N := 27) hw (k := 0) (ci := 12) (v := .int ((zsc S 0 3))) rfl rfl rfl rfl 3 (by decide) rfl 2 rfl dX12_newPerson_105 ?_
      refine lv_imul hx hb dX12_newPerson_108 ?_
      refine lv_iload hx hb dX12_newPerson_109 (lv_at hl 1 rfl) ?_
      refine lv_iadd hx hb dX12_newPerson_111 ?_
      refine lv_iconst (v := 0) hx hb dX12_newPerson_112 (by decide) ?_
      obtain ⟨b7, h⟩ := z_gd h
      refine z_iasts C0 hw hS 10 rfl rfl zri_10 (zin_in b7) dX12_newPerson_113 (fun H locs hw hS => ?_)
      refine lv_iinc (v := (x4 + 1)) (lv' := [(4, .int ((x4 + 1))), (0, .ref (F 0))]) hx hb dX12_newPerson_114 hl (k := 1) rfl rfl (by decide) rfl (fun ls hl => ?_)
      refine lv_goto (tgt := 91) hx hb dX12_newPerson_117 (by decide) ?_
      exact ih ((zAs S 10 (Int32.toNatClampNeg ((((48 : Int32) * (zsc S 0 3)) + x4))) 0)) ((x4 + 1)) h _ _ _ hw hS (lv_sub hl [1, 0] rfl)
def M_X12_newPerson_B43 : Nat → zSt → Int32 → Option (Int32 × zSt)
  | 0, _, _ => none
  | n + 1, S, x4 =>
  (if 6 ≤ x4 then M_X12_newPerson_B91 zF S 0 else zg (zin ((((6 : Int32) * (zsc S 0 3)) + x4)) 36) (zg (zin ((((6 : Int32) * (zsc ((zAs S 8 (Int32.toNatClampNeg ((((6 : Int32) * (zsc S 0 3)) + x4))) 0)) 0 3)) + x4)) 36) (M_X12_newPerson_B43 n ((zAs ((zAs S 8 (Int32.toNatClampNeg ((((6 : Int32) * (zsc S 0 3)) + x4))) 0)) 9 (Int32.toNatClampNeg ((((6 : Int32) * (zsc ((zAs S 8 (Int32.toNatClampNeg ((((6 : Int32) * (zsc S 0 3)) + x4))) 0)) 0 3)) + x4))) 0)) ((x4 + 1)))))
set_option maxHeartbeats 4000000 in
set_option maxRecDepth 100000 in
theorem t_X12_newPerson_B43 {p : Program} {l : Launch} {e : Env} {s : State} {m : MethodId} {args : Array Value} {below : List Frame} {meth : Method} {c : Code} {D : va_G} {Y : Nat → ClassId} {F : Nat → Nat} {A : Nat → Prop} {G : zG} (C0 : zCx p s m args meth c D Y F A RX12 cX12_newPerson 5 (some .int) wsX12_newPerson) (res : Int32 × zSt) : ∀ (n : Nat), ∀ (S : zSt) (x4 : Int32), M_X12_newPerson_B43 n S x4 = some res → ∀ (H : Heap) (locs : List Loc) (ls : Array Slot), zH D Y F A G S H → va_S A s.heap H locs → lv_has ls 5 [(0, .ref (F 0)), (4, .int x4)] → W p l e (zRm 0 0) s m args below meth c H locs 0 0 (MQ below (zQi D Y F A G res) args s 0 0 A) (F0 m 43 ls []) := by
  obtain ⟨hx, hb, hml, hr, hown, hts, hK, hA, hlk, hN⟩ := id C0
  intro n
  induction n with
  | zero =>
    intro S x4 h
    unfold M_X12_newPerson_B43 at h
    cases h
  | succ n ih =>
    intro S x4 h H locs ls hw hS hl
    rw [M_X12_newPerson_B43] at h
    refine lv_iload hx hb dX12_newPerson_43 (lv_at hl 1 rfl) ?_
    refine lv_bipush (v := 6) hx hb dX12_newPerson_45 (by decide) ?_
    refine lv_icmp_ge (tgt := 88) hx hb dX12_newPerson_47 (by decide) (fun c5 => ?_) (fun c5 => ?_)
    · replace h := z_ifp c5 h
      refine lv_iconst (v := 0) hx hb dX12_newPerson_88 (by decide) ?_
      refine lv_istore (lv' := [(4, .int 0), (0, .ref (F 0))]) hx hb dX12_newPerson_89 hl (by decide) rfl (fun ls hl => ?_)
      exact t_X12_newPerson_B91 C0 res zF S 0 h _ _ _ hw hS (lv_sub hl [1, 0] rfl)
    · replace h := z_ifn c5 h
      refine lv_aload_n hx hb dX12_newPerson_50 rfl (lv_at hl 0 rfl) ?_
      refine z_get C0 in_X12_newPerson_X12 (C := RX12) (T := TX12) (N := 27) hw (k := 0) (ci := 12) (v := .ref (F 8)) rfl rfl rfl rfl 8 (by decide) rfl 6 rfl dX12_newPerson_51 ?_
      refine lv_bipush (v := 6) hx hb dX12_newPerson_54 (by decide) ?_
      refine lv_aload_n hx hb dX12_newPerson_56 rfl (lv_at hl 0 rfl) ?_
      refine z_get C0 in_X12_newPerson_X12 (C := RX12) (T := TX12) (N := 27) hw (k := 0) (ci := 12) (v := .int ((zsc S 0 3))) rfl rfl rfl rfl 3 (by decide) rfl 2 rfl dX12_newPerson_57 ?_
      refine lv_imul hx hb dX12_newPerson_60 ?_
      refine lv_iload hx hb dX12_newPerson_61 (lv_at hl 1 rfl) ?_
      refine lv_iadd hx hb dX12_newPerson_63 ?_
      refine lv_iconst (v := 0) hx hb dX12_newPerson_64 (by decide) ?_
      obtain ⟨b8, h⟩ := z_gd h
      refine z_iasts C0 hw hS 8 rfl rfl zri_8 (zin_in b8) dX12_newPerson_65 (fun H locs hw hS => ?_)
      refine lv_aload_n hx hb dX12_newPerson_66 rfl (lv_at hl 0 rfl) ?_
      refine z_get C0 in_X12_newPerson_X12 (C := RX12) (T := TX12) (N := 27) hw (k := 0) (ci := 12) (v := .ref (F 9)) rfl rfl rfl rfl 9 (by decide) rfl 7 rfl dX12_newPerson_67 ?_
      refine lv_bipush (v := 6) hx hb dX12_newPerson_70 (by decide) ?_
      refine lv_aload_n hx hb dX12_newPerson_72 rfl (lv_at hl 0 rfl) ?_
      refine z_get C0 in_X12_newPerson_X12 (C := RX12) (T := TX12) (N := 27) hw (k := 0) (ci := 12) (v := .int ((zsc ((zAs S 8 (Int32.toNatClampNeg ((((6 : Int32) * (zsc S 0 3)) + x4))) 0)) 0 3))) rfl rfl rfl rfl 3 (by decide) rfl 2 rfl dX12_newPerson_73 ?_
      refine lv_imul hx hb dX12_newPerson_76 ?_
      refine lv_iload hx hb dX12_newPerson_77 (lv_at hl 1 rfl) ?_
      refine lv_iadd hx hb dX12_newPerson_79 ?_
      refine lv_iconst (v := 0) hx hb dX12_newPerson_80 (by decide) ?_
      obtain ⟨b9, h⟩ := z_gd h
      refine z_iasts C0 hw hS 9 rfl rfl zri_9 (zin_in b9) dX12_newPerson_81 (fun H locs hw hS => ?_)
      refine lv_iinc (v := (x4 + 1)) (lv' := [(4, .int ((x4 + 1))), (0, .ref (F 0))]) hx hb dX12_newPerson_82 hl (k := 1) rfl rfl (by decide) rfl (fun ls hl => ?_)
      refine lv_goto (tgt := 43) hx hb dX12_newPerson_85 (by decide) ?_
      exact ih ((zAs ((zAs S 8 (Int32.toNatClampNeg ((((6 : Int32) * (zsc S 0 3)) + x4))) 0)) 9 (Int32.toNatClampNeg ((((6 : Int32) * (zsc ((zAs S 8 (Int32.toNatClampNeg ((((6 : Int32) * (zsc S 0 3)) + x4))) 0)) 0 3)) + x4))) 0)) ((x4 + 1)) h _ _ _ hw hS (lv_sub hl [1, 0] rfl)
def M_X12_newPerson (S : zSt) (x1 : Int32) (x2 : Int32) (x3 : Int32) : Option (Int32 × zSt) :=
  zg (zin ((zsc S 0 3)) 6) (zg (zin ((zsc ((zAs S 4 (Int32.toNatClampNeg ((zsc S 0 3))) x1)) 0 3)) 6) (zg (zin ((zsc ((zAs ((zAs S 4 (Int32.toNatClampNeg ((zsc S 0 3))) x1)) 5 (Int32.toNatClampNeg ((zsc ((zAs S 4 (Int32.toNatClampNeg ((zsc S 0 3))) x1)) 0 3))) x2)) 0 3)) 6) (zg (zin ((zsc ((zAs ((zAs ((zAs S 4 (Int32.toNatClampNeg ((zsc S 0 3))) x1)) 5 (Int32.toNatClampNeg ((zsc ((zAs S 4 (Int32.toNatClampNeg ((zsc S 0 3))) x1)) 0 3))) x2)) 6 (Int32.toNatClampNeg ((zsc ((zAs ((zAs S 4 (Int32.toNatClampNeg ((zsc S 0 3))) x1)) 5 (Int32.toNatClampNeg ((zsc ((zAs S 4 (Int32.toNatClampNeg ((zsc S 0 3))) x1)) 0 3))) x2)) 0 3))) x3)) 0 3)) 6) (M_X12_newPerson_B43 zF ((zAs ((zAs ((zAs ((zAs S 4 (Int32.toNatClampNeg ((zsc S 0 3))) x1)) 5 (Int32.toNatClampNeg ((zsc ((zAs S 4 (Int32.toNatClampNeg ((zsc S 0 3))) x1)) 0 3))) x2)) 6 (Int32.toNatClampNeg ((zsc ((zAs ((zAs S 4 (Int32.toNatClampNeg ((zsc S 0 3))) x1)) 5 (Int32.toNatClampNeg ((zsc ((zAs S 4 (Int32.toNatClampNeg ((zsc S 0 3))) x1)) 0 3))) x2)) 0 3))) x3)) 7 (Int32.toNatClampNeg ((zsc ((zAs ((zAs ((zAs S 4 (Int32.toNatClampNeg ((zsc S 0 3))) x1)) 5 (Int32.toNatClampNeg ((zsc ((zAs S 4 (Int32.toNatClampNeg ((zsc S 0 3))) x1)) 0 3))) x2)) 6 (Int32.toNatClampNeg ((zsc ((zAs ((zAs S 4 (Int32.toNatClampNeg ((zsc S 0 3))) x1)) 5 (Int32.toNatClampNeg ((zsc ((zAs S 4 (Int32.toNatClampNeg ((zsc S 0 3))) x1)) 0 3))) x2)) 0 3))) x3)) 0 3))) 0)) 0))))
set_option maxHeartbeats 4000000 in
set_option maxRecDepth 100000 in
theorem c_X12_newPerson (l : Launch) (D : va_G) (Y : Nat → ClassId) (F : Nat → Nat) (G : zG) (S : zSt) (sz : Nat) (x1 : Int32) (x2 : Int32) (x3 : Int32) (res : Int32 × zSt) (h : M_X12_newPerson S x1 x2 x3 = some res) : Met l yX12_newPerson wsX12_newPerson (zRm 0 0) (zPc D Y F G S sz [.ref (F 0), .int x1, .int x2, .int x3]) (zQi D Y F (zAo F G sz) G res) 0 0 (zAo F G sz) := by
  unfold M_X12_newPerson at h
  refine zMet (cc := cX12_newPerson) (maxL := 5) (ret := (some .int)) (own := RX12) (by decide +kernel) rfl rfl (Nat.le_of_ble_eq_true rfl) ?_
  intro p e s m args below meth c C0 hin hw hS ls hl
  have hl : lv_has ls 5 [(0, .ref (F 0)), (1, .int x1), (2, .int x2), (3, .int x3)] := hl
  generalize zAo F G sz = A at C0 hw hS ⊢
  obtain ⟨hx, hb, hml, hr, hown, hts, hK, hA, hlk, hN⟩ := id C0
  refine lv_aload_n hx hb dX12_newPerson_0 rfl (lv_at hl 0 rfl) ?_
  refine z_get C0 in_X12_newPerson_X12 (C := RX12) (T := TX12) (N := 27) hw (k := 0) (ci := 12) (v := .ref (F 4)) rfl rfl rfl rfl 4 (by decide) rfl 1 rfl dX12_newPerson_1 ?_
  refine lv_aload_n hx hb dX12_newPerson_4 rfl (lv_at hl 0 rfl) ?_
  refine z_get C0 in_X12_newPerson_X12 (C := RX12) (T := TX12) (N := 27) hw (k := 0) (ci := 12) (v := .int ((zsc S 0 3))) rfl rfl rfl rfl 3 (by decide) rfl 2 rfl dX12_newPerson_5 ?_
  refine lv_iload_n hx hb dX12_newPerson_8 rfl (lv_at hl 1 rfl) ?_
  obtain ⟨b1, h⟩ := z_gd h
  refine z_iasts C0 hw hS 4 rfl rfl zri_4 (zin_in b1) dX12_newPerson_9 (fun H locs hw hS => ?_)
  refine lv_aload_n hx hb dX12_newPerson_10 rfl (lv_at hl 0 rfl) ?_
  refine z_get C0 in_X12_newPerson_X12 (C := RX12) (T := TX12) (N := 27) hw (k := 0) (ci := 12) (v := .ref (F 5)) rfl rfl rfl rfl 5 (by decide) rfl 3 rfl dX12_newPerson_11 ?_
  refine lv_aload_n hx hb dX12_newPerson_14 rfl (lv_at hl 0 rfl) ?_
  refine z_get C0 in_X12_newPerson_X12 (C := RX12) (T := TX12) (N := 27) hw (k := 0) (ci := 12) (v := .int ((zsc ((zAs S 4 (Int32.toNatClampNeg ((zsc S 0 3))) x1)) 0 3))) rfl rfl rfl rfl 3 (by decide) rfl 2 rfl dX12_newPerson_15 ?_
  refine lv_iload_n hx hb dX12_newPerson_18 rfl (lv_at hl 2 rfl) ?_
  obtain ⟨b2, h⟩ := z_gd h
  refine z_iasts C0 hw hS 5 rfl rfl zri_5 (zin_in b2) dX12_newPerson_19 (fun H locs hw hS => ?_)
  refine lv_aload_n hx hb dX12_newPerson_20 rfl (lv_at hl 0 rfl) ?_
  refine z_get C0 in_X12_newPerson_X12 (C := RX12) (T := TX12) (N := 27) hw (k := 0) (ci := 12) (v := .ref (F 6)) rfl rfl rfl rfl 6 (by decide) rfl 4 rfl dX12_newPerson_21 ?_
  refine lv_aload_n hx hb dX12_newPerson_24 rfl (lv_at hl 0 rfl) ?_
  refine z_get C0 in_X12_newPerson_X12 (C := RX12) (T := TX12) (N := 27) hw (k := 0) (ci := 12) (v := .int ((zsc ((zAs ((zAs S 4 (Int32.toNatClampNeg ((zsc S 0 3))) x1)) 5 (Int32.toNatClampNeg ((zsc ((zAs S 4 (Int32.toNatClampNeg ((zsc S 0 3))) x1)) 0 3))) x2)) 0 3))) rfl rfl rfl rfl 3 (by decide) rfl 2 rfl dX12_newPerson_25 ?_
  refine lv_iload_n hx hb dX12_newPerson_28 rfl (lv_at hl 3 rfl) ?_
  obtain ⟨b3, h⟩ := z_gd h
  refine z_iasts C0 hw hS 6 rfl rfl zri_6 (zin_in b3) dX12_newPerson_29 (fun H locs hw hS => ?_)
  refine lv_aload_n hx hb dX12_newPerson_30 rfl (lv_at hl 0 rfl) ?_
  refine z_get C0 in_X12_newPerson_X12 (C := RX12) (T := TX12) (N := 27) hw (k := 0) (ci := 12) (v := .ref (F 7)) rfl rfl rfl rfl 7 (by decide) rfl 5 rfl dX12_newPerson_31 ?_
  refine lv_aload_n hx hb dX12_newPerson_34 rfl (lv_at hl 0 rfl) ?_
  refine z_get C0 in_X12_newPerson_X12 (C := RX12) (T := TX12) (N := 27) hw (k := 0) (ci := 12) (v := .int ((zsc ((zAs ((zAs ((zAs S 4 (Int32.toNatClampNeg ((zsc S 0 3))) x1)) 5 (Int32.toNatClampNeg ((zsc ((zAs S 4 (Int32.toNatClampNeg ((zsc S 0 3))) x1)) 0 3))) x2)) 6 (Int32.toNatClampNeg ((zsc ((zAs ((zAs S 4 (Int32.toNatClampNeg ((zsc S 0 3))) x1)) 5 (Int32.toNatClampNeg ((zsc ((zAs S 4 (Int32.toNatClampNeg ((zsc S 0 3))) x1)) 0 3))) x2)) 0 3))) x3)) 0 3))) rfl rfl rfl rfl 3 (by decide) rfl 2 rfl dX12_newPerson_35 ?_
  refine lv_iconst (v := 0) hx hb dX12_newPerson_38 (by decide) ?_
  obtain ⟨b4, h⟩ := z_gd h
  refine z_iasts C0 hw hS 7 rfl rfl zri_7 (zin_in b4) dX12_newPerson_39 (fun H locs hw hS => ?_)
  refine lv_iconst (v := 0) hx hb dX12_newPerson_40 (by decide) ?_
  refine lv_istore (lv' := [(4, .int 0), (0, .ref (F 0)), (1, .int x1), (2, .int x2), (3, .int x3)]) hx hb dX12_newPerson_41 hl (by decide) rfl (fun ls hl => ?_)
  exact t_X12_newPerson_B43 C0 res zF ((zAs ((zAs ((zAs ((zAs S 4 (Int32.toNatClampNeg ((zsc S 0 3))) x1)) 5 (Int32.toNatClampNeg ((zsc ((zAs S 4 (Int32.toNatClampNeg ((zsc S 0 3))) x1)) 0 3))) x2)) 6 (Int32.toNatClampNeg ((zsc ((zAs ((zAs S 4 (Int32.toNatClampNeg ((zsc S 0 3))) x1)) 5 (Int32.toNatClampNeg ((zsc ((zAs S 4 (Int32.toNatClampNeg ((zsc S 0 3))) x1)) 0 3))) x2)) 0 3))) x3)) 7 (Int32.toNatClampNeg ((zsc ((zAs ((zAs ((zAs S 4 (Int32.toNatClampNeg ((zsc S 0 3))) x1)) 5 (Int32.toNatClampNeg ((zsc ((zAs S 4 (Int32.toNatClampNeg ((zsc S 0 3))) x1)) 0 3))) x2)) 6 (Int32.toNatClampNeg ((zsc ((zAs ((zAs S 4 (Int32.toNatClampNeg ((zsc S 0 3))) x1)) 5 (Int32.toNatClampNeg ((zsc ((zAs S 4 (Int32.toNatClampNeg ((zsc S 0 3))) x1)) 0 3))) x2)) 0 3))) x3)) 0 3))) 0)) 0 h _ _ _ hw hS (lv_sub hl [1, 0] rfl)
def M_X12_person_B36 (S : zSt) : Option (Int32 × zSt) :=
  Option.bind (M_X12_no S (-6)) (fun w5 => some (w5.1, w5.2))
set_option maxHeartbeats 4000000 in
set_option maxRecDepth 100000 in
theorem t_X12_person_B36 {p : Program} {l : Launch} {e : Env} {s : State} {m : MethodId} {args : Array Value} {below : List Frame} {meth : Method} {c : Code} {D : va_G} {Y : Nat → ClassId} {F : Nat → Nat} {A : Nat → Prop} {G : zG} (C0 : zCx p s m args meth c D Y F A RX12 cX12_person 4 (some .int) wsX12_person) (res : Int32 × zSt) : ∀ (S : zSt), M_X12_person_B36 S = some res → ∀ (H : Heap) (locs : List Loc) (ls : Array Slot), zH D Y F A G S H → va_S A s.heap H locs → lv_has ls 4 [(0, .ref (F 0))] → W p l e (zRm 1 24) s m args below meth c H locs 0 0 (MQ below (zQi D Y F A G res) args s 0 0 A) (F0 m 36 ls []) := by
  obtain ⟨hx, hb, hml, hr, hown, hts, hK, hA, hlk, hN⟩ := id C0
  intro S h H locs ls hw hS hl
  unfold M_X12_person_B36 at h
  refine lv_aload_n hx hb dX12_person_36 rfl (lv_at hl 0 rfl) ?_
  refine lv_bipush (v := (-6)) hx hb dX12_person_37 (by decide) ?_
  obtain ⟨w5, ew5, h⟩ := z_bd h
  refine z_callVi0 C0 hw hS (k := 0) (As := [.int (-6)]) (rest := []) rfl rfl rfl rfl (c_X12_no l D Y F G S _ (-6) w5 ew5) (cwV 1 hts gX12_person_X12_no rfl rfl rfl (by decide +kernel) ⟨Nat.le_of_ble_eq_true rfl, Nat.le_of_ble_eq_true rfl⟩) rfl hl.1 rfl (Nat.le_of_ble_eq_true rfl) dX12_person_39 ⟨Nat.zero_le _, Nat.zero_le _⟩ (fun H locs hw hS => ?_)
  exact z_reti C0 hw hS (Option.some.inj h) dX12_person_42
def M_X12_person (S : zSt) (x1 : Int32) (x2 : Int32) (x3 : Int32) : Option (Int32 × zSt) :=
  Option.bind (M_X12_within S x1 0 6) (fun w1 => (if w1 = 0 then Option.bind (M_X12_no S (-1)) (fun w11 => some (w11.1, w11.2)) else Option.bind (M_X12_within S x2 0 9) (fun w3 => (if w3 = 0 then M_X12_person_B36 S else Option.bind (M_X12_within S x3 1 20) (fun w6 => (if w6 = 0 then M_X12_person_B36 S else (if (zsc S 0 3) = 6 then Option.bind (M_X12_no S (-7)) (fun w10 => some (w10.1, w10.2)) else Option.bind (M_X12_newPerson S x1 x2 x3) (fun w9 => some (w9.1, w9.2)))))))))
set_option maxHeartbeats 4000000 in
set_option maxRecDepth 100000 in
theorem c_X12_person (l : Launch) (D : va_G) (Y : Nat → ClassId) (F : Nat → Nat) (G : zG) (S : zSt) (sz : Nat) (x1 : Int32) (x2 : Int32) (x3 : Int32) (res : Int32 × zSt) (h : M_X12_person S x1 x2 x3 = some res) : Met l yX12_person wsX12_person (zRm 1 24) (zPc D Y F G S sz [.ref (F 0), .int x1, .int x2, .int x3]) (zQi D Y F (zAo F G sz) G res) 0 0 (zAo F G sz) := by
  unfold M_X12_person at h
  refine zMet (cc := cX12_person) (maxL := 4) (ret := (some .int)) (own := RX12) (by decide +kernel) rfl rfl (Nat.le_of_ble_eq_true rfl) ?_
  intro p e s m args below meth c C0 hin hw hS ls hl
  have hl : lv_has ls 4 [(0, .ref (F 0)), (1, .int x1), (2, .int x2), (3, .int x3)] := hl
  generalize zAo F G sz = A at C0 hw hS ⊢
  obtain ⟨hx, hb, hml, hr, hown, hts, hK, hA, hlk, hN⟩ := id C0
  refine lv_iload_n hx hb dX12_person_0 rfl (lv_at hl 1 rfl) ?_
  refine lv_iconst (v := 0) hx hb dX12_person_1 (by decide) ?_
  refine lv_bipush (v := 6) hx hb dX12_person_2 (by decide) ?_
  obtain ⟨w1, ew1, h⟩ := z_bd h
  refine z_callSip C0 hw hS (As := [.int x1, .int 0, .int 6]) (rest := []) (c_X12_within l D Y F G S _ x1 0 6 w1 ew1) (va_cwS 3 hts gX12_person_X12_within rfl rfl rfl (by decide +kernel) ⟨Nat.le_of_ble_eq_true rfl, Nat.le_of_ble_eq_true rfl⟩) rfl hl.1 rfl (Nat.le_of_ble_eq_true rfl) dX12_person_4 ⟨Nat.zero_le _, Nat.zero_le _⟩ (fun H locs hw hS => ?_)
  refine lv_if_ne (tgt := 16) hx hb dX12_person_7 (by decide) (fun c2 => ?_) (fun c2 => ?_)
  · replace h := z_ifn c2 h
    refine lv_iload_n hx hb dX12_person_16 rfl (lv_at hl 2 rfl) ?_
    refine lv_iconst (v := 0) hx hb dX12_person_17 (by decide) ?_
    refine lv_bipush (v := 9) hx hb dX12_person_18 (by decide) ?_
    obtain ⟨w3, ew3, h⟩ := z_bd h
    refine z_callSip C0 hw hS (As := [.int x2, .int 0, .int 9]) (rest := []) (c_X12_within l D Y F G S _ x2 0 9 w3 ew3) (va_cwS 3 hts gX12_person_X12_within rfl rfl rfl (by decide +kernel) ⟨Nat.le_of_ble_eq_true rfl, Nat.le_of_ble_eq_true rfl⟩) rfl hl.1 rfl (Nat.le_of_ble_eq_true rfl) dX12_person_20 ⟨Nat.zero_le _, Nat.zero_le _⟩ (fun H locs hw hS => ?_)
    refine lv_if_eq (tgt := 36) hx hb dX12_person_23 (by decide) (fun c4 => ?_) (fun c4 => ?_)
    · replace h := z_ifp c4 h
      exact t_X12_person_B36 C0 res S h _ _ _ hw hS (lv_sub hl [0] rfl)
    · replace h := z_ifn c4 h
      refine lv_iload_n hx hb dX12_person_26 rfl (lv_at hl 3 rfl) ?_
      refine lv_iconst (v := 1) hx hb dX12_person_27 (by decide) ?_
      refine lv_bipush (v := 20) hx hb dX12_person_28 (by decide) ?_
      obtain ⟨w6, ew6, h⟩ := z_bd h
      refine z_callSip C0 hw hS (As := [.int x3, .int 1, .int 20]) (rest := []) (c_X12_within l D Y F G S _ x3 1 20 w6 ew6) (va_cwS 3 hts gX12_person_X12_within rfl rfl rfl (by decide +kernel) ⟨Nat.le_of_ble_eq_true rfl, Nat.le_of_ble_eq_true rfl⟩) rfl hl.1 rfl (Nat.le_of_ble_eq_true rfl) dX12_person_30 ⟨Nat.zero_le _, Nat.zero_le _⟩ (fun H locs hw hS => ?_)
      refine lv_if_ne (tgt := 43) hx hb dX12_person_33 (by decide) (fun c7 => ?_) (fun c7 => ?_)
      · replace h := z_ifn c7 h
        refine lv_aload_n hx hb dX12_person_43 rfl (lv_at hl 0 rfl) ?_
        refine z_get C0 in_X12_person_X12 (C := RX12) (T := TX12) (N := 27) hw (k := 0) (ci := 12) (v := .int ((zsc S 0 3))) rfl rfl rfl rfl 3 (by decide) rfl 1 rfl dX12_person_44 ?_
        refine lv_bipush (v := 6) hx hb dX12_person_47 (by decide) ?_
        refine lv_icmp_ne (tgt := 61) hx hb dX12_person_49 (by decide) (fun c8 => ?_) (fun c8 => ?_)
        · replace h := z_ifn c8 h
          refine lv_aload_n hx hb dX12_person_61 rfl (lv_at hl 0 rfl) ?_
          refine lv_iload_n hx hb dX12_person_62 rfl (lv_at hl 1 rfl) ?_
          refine lv_iload_n hx hb dX12_person_63 rfl (lv_at hl 2 rfl) ?_
          refine lv_iload_n hx hb dX12_person_64 rfl (lv_at hl 3 rfl) ?_
          obtain ⟨w9, ew9, h⟩ := z_bd h
          refine z_callVi0 C0 hw hS (k := 0) (As := [.int x1, .int x2, .int x3]) (rest := []) rfl rfl rfl rfl (c_X12_newPerson l D Y F G S _ x1 x2 x3 w9 ew9) (cwV 3 hts gX12_person_X12_newPerson rfl rfl rfl (by decide +kernel) ⟨Nat.le_of_ble_eq_true rfl, Nat.le_of_ble_eq_true rfl⟩) rfl hl.1 rfl (Nat.le_of_ble_eq_true rfl) dX12_person_65 ⟨Nat.zero_le _, Nat.zero_le _⟩ (fun H locs hw hS => ?_)
          exact z_reti C0 hw hS (Option.some.inj h) dX12_person_68
        · replace h := z_ifp c8 h
          refine lv_aload_n hx hb dX12_person_52 rfl (lv_at hl 0 rfl) ?_
          refine lv_bipush (v := (-7)) hx hb dX12_person_53 (by decide) ?_
          obtain ⟨w10, ew10, h⟩ := z_bd h
          refine z_callVi0 C0 hw hS (k := 0) (As := [.int (-7)]) (rest := []) rfl rfl rfl rfl (c_X12_no l D Y F G S _ (-7) w10 ew10) (cwV 1 hts gX12_person_X12_no rfl rfl rfl (by decide +kernel) ⟨Nat.le_of_ble_eq_true rfl, Nat.le_of_ble_eq_true rfl⟩) rfl hl.1 rfl (Nat.le_of_ble_eq_true rfl) dX12_person_55 ⟨Nat.zero_le _, Nat.zero_le _⟩ (fun H locs hw hS => ?_)
          refine lv_goto (tgt := 68) hx hb dX12_person_58 (by decide) ?_
          exact z_reti C0 hw hS (Option.some.inj h) dX12_person_68
      · replace h := z_ifp c7 h
        exact t_X12_person_B36 C0 res S h _ _ _ hw hS (lv_sub hl [0] rfl)
  · replace h := z_ifp c2 h
    refine lv_aload_n hx hb dX12_person_10 rfl (lv_at hl 0 rfl) ?_
    refine lv_iconst (v := (-1)) hx hb dX12_person_11 (by decide) ?_
    obtain ⟨w11, ew11, h⟩ := z_bd h
    refine z_callVi0 C0 hw hS (k := 0) (As := [.int (-1)]) (rest := []) rfl rfl rfl rfl (c_X12_no l D Y F G S _ (-1) w11 ew11) (cwV 1 hts gX12_person_X12_no rfl rfl rfl (by decide +kernel) ⟨Nat.le_of_ble_eq_true rfl, Nat.le_of_ble_eq_true rfl⟩) rfl hl.1 rfl (Nat.le_of_ble_eq_true rfl) dX12_person_12 ⟨Nat.zero_le _, Nat.zero_le _⟩ (fun H locs hw hS => ?_)
    exact z_reti C0 hw hS (Option.some.inj h) dX12_person_15
def M_X12_ask (S : zSt) (x1 : Int32) : Option (Int32 × zSt) :=
  Option.bind (M_X12_within S x1 1 99) (fun w1 => (if w1 = 0 then Option.bind (M_X12_no S (-6)) (fun w3 => some (w3.1, w3.2)) else some ((zsc S 0 11), (zP S 0 11 x1))))
set_option maxHeartbeats 4000000 in
set_option maxRecDepth 100000 in
theorem c_X12_ask (l : Launch) (D : va_G) (Y : Nat → ClassId) (F : Nat → Nat) (G : zG) (S : zSt) (sz : Nat) (x1 : Int32) (res : Int32 × zSt) (h : M_X12_ask S x1 = some res) : Met l yX12_ask wsX12_ask (zRm 1 22) (zPc D Y F G S sz [.ref (F 0), .int x1]) (zQi D Y F (zAo F G sz) G res) 0 0 (zAo F G sz) := by
  unfold M_X12_ask at h
  refine zMet (cc := cX12_ask) (maxL := 3) (ret := (some .int)) (own := RX12) (by decide +kernel) rfl rfl (Nat.le_of_ble_eq_true rfl) ?_
  intro p e s m args below meth c C0 hin hw hS ls hl
  have hl : lv_has ls 3 [(0, .ref (F 0)), (1, .int x1)] := hl
  generalize zAo F G sz = A at C0 hw hS ⊢
  obtain ⟨hx, hb, hml, hr, hown, hts, hK, hA, hlk, hN⟩ := id C0
  refine lv_iload_n hx hb dX12_ask_0 rfl (lv_at hl 1 rfl) ?_
  refine lv_iconst (v := 1) hx hb dX12_ask_1 (by decide) ?_
  refine lv_bipush (v := 99) hx hb dX12_ask_2 (by decide) ?_
  obtain ⟨w1, ew1, h⟩ := z_bd h
  refine z_callSip C0 hw hS (As := [.int x1, .int 1, .int 99]) (rest := []) (c_X12_within l D Y F G S _ x1 1 99 w1 ew1) (va_cwS 3 hts gX12_ask_X12_within rfl rfl rfl (by decide +kernel) ⟨Nat.le_of_ble_eq_true rfl, Nat.le_of_ble_eq_true rfl⟩) rfl hl.1 rfl (Nat.le_of_ble_eq_true rfl) dX12_ask_4 ⟨Nat.zero_le _, Nat.zero_le _⟩ (fun H locs hw hS => ?_)
  refine lv_if_ne (tgt := 17) hx hb dX12_ask_7 (by decide) (fun c2 => ?_) (fun c2 => ?_)
  · replace h := z_ifn c2 h
    refine lv_aload_n hx hb dX12_ask_17 rfl (lv_at hl 0 rfl) ?_
    refine z_get C0 in_X12_ask_X12 (C := RX12) (T := TX12) (N := 27) hw (k := 0) (ci := 12) (v := .int ((zsc S 0 11))) rfl rfl rfl rfl 11 (by decide) rfl 1 rfl dX12_ask_18 ?_
    refine lv_istore_n (lv' := [(2, .int ((zsc S 0 11))), (0, .ref (F 0)), (1, .int x1)]) hx hb dX12_ask_21 rfl hl (by decide) rfl (fun ls hl => ?_)
    refine lv_aload_n hx hb dX12_ask_22 rfl (lv_at hl 1 rfl) ?_
    refine lv_iload_n hx hb dX12_ask_23 rfl (lv_at hl 2 rfl) ?_
    refine z_put C0 in_X12_ask_X12 tyX12 tyX12_ok nmX12 (C := RX12) (T := TX12) (N := 27) hw hS (k := 0) (ci := 12) (v := x1) (ty := .int) rfl rfl rfl rfl 11 (by decide) 1 rfl rfl rfl rfl rfl (Nat.le_of_ble_eq_true rfl) rfl dX12_ask_24 (fun H locs hw hS => ?_)
    refine lv_iload_n hx hb dX12_ask_27 rfl (lv_at hl 0 rfl) ?_
    exact z_reti C0 hw hS (Option.some.inj h) dX12_ask_28
  · replace h := z_ifp c2 h
    refine lv_aload_n hx hb dX12_ask_10 rfl (lv_at hl 0 rfl) ?_
    refine lv_bipush (v := (-6)) hx hb dX12_ask_11 (by decide) ?_
    obtain ⟨w3, ew3, h⟩ := z_bd h
    refine z_callVi0 C0 hw hS (k := 0) (As := [.int (-6)]) (rest := []) rfl rfl rfl rfl (c_X12_no l D Y F G S _ (-6) w3 ew3) (cwV 1 hts gX12_ask_X12_no rfl rfl rfl (by decide +kernel) ⟨Nat.le_of_ble_eq_true rfl, Nat.le_of_ble_eq_true rfl⟩) rfl hl.1 rfl (Nat.le_of_ble_eq_true rfl) dX12_ask_13 ⟨Nat.zero_le _, Nat.zero_le _⟩ (fun H locs hw hS => ?_)
    exact z_reti C0 hw hS (Option.some.inj h) dX12_ask_16
def M_X12_strengthOf (S : zSt) (x1 : Int32) (x2 : Int32) (x3 : Int32) : Option (Int32) :=
  zg (zin (((((48 : Int32) * x1) + ((8 : Int32) * x2)) + x3)) 288) (some ((zar S 10 (Int32.toNatClampNeg (((((48 : Int32) * x1) + ((8 : Int32) * x2)) + x3))))))
set_option maxHeartbeats 4000000 in
set_option maxRecDepth 100000 in
theorem c_X12_strengthOf (l : Launch) (D : va_G) (Y : Nat → ClassId) (F : Nat → Nat) (G : zG) (S : zSt) (sz : Nat) (x1 : Int32) (x2 : Int32) (x3 : Int32) (res : Int32) (h : M_X12_strengthOf S x1 x2 x3 = some res) : Met l yX12_strengthOf wsX12_strengthOf (zRm 0 0) (zPc D Y F G S sz [.ref (F 0), .int x1, .int x2, .int x3]) (zQi D Y F (zAo F G sz) G (res, S)) 0 0 (zAo F G sz) := by
  unfold M_X12_strengthOf at h
  refine zMet (cc := cX12_strengthOf) (maxL := 4) (ret := (some .int)) (own := RX12) (by decide +kernel) rfl rfl (Nat.le_of_ble_eq_true rfl) ?_
  intro p e s m args below meth c C0 hin hw hS ls hl
  have hl : lv_has ls 4 [(0, .ref (F 0)), (1, .int x1), (2, .int x2), (3, .int x3)] := hl
  generalize zAo F G sz = A at C0 hw hS ⊢
  obtain ⟨hx, hb, hml, hr, hown, hts, hK, hA, hlk, hN⟩ := id C0
  refine lv_aload_n hx hb dX12_strengthOf_0 rfl (lv_at hl 0 rfl) ?_
  refine z_get C0 in_X12_strengthOf_X12 (C := RX12) (T := TX12) (N := 27) hw (k := 0) (ci := 12) (v := .ref (F 10)) rfl rfl rfl rfl 10 (by decide) rfl 1 rfl dX12_strengthOf_1 ?_
  refine lv_bipush (v := 48) hx hb dX12_strengthOf_4 (by decide) ?_
  refine lv_iload_n hx hb dX12_strengthOf_6 rfl (lv_at hl 1 rfl) ?_
  refine lv_imul hx hb dX12_strengthOf_7 ?_
  refine lv_bipush (v := 8) hx hb dX12_strengthOf_8 (by decide) ?_
  refine lv_iload_n hx hb dX12_strengthOf_10 rfl (lv_at hl 2 rfl) ?_
  refine lv_imul hx hb dX12_strengthOf_11 ?_
  refine lv_iadd hx hb dX12_strengthOf_12 ?_
  refine lv_iload_n hx hb dX12_strengthOf_13 rfl (lv_at hl 3 rfl) ?_
  refine lv_iadd hx hb dX12_strengthOf_14 ?_
  obtain ⟨b1, h⟩ := z_gd h
  refine z_iald C0 hw 10 rfl rfl zri_10 (zin_in b1) dX12_strengthOf_15 ?_
  exact z_reti C0 hw hS (congrArg (fun z => (z, S)) (Option.some.inj h)) dX12_strengthOf_16
def M_X12_reads_B4 (S : zSt) : Nat → Int32 → Int32 → Int32 → Option (Int32)
  | 0, _, _, _ => none
  | n + 1, x1, x2, x3 =>
  (if 8 ≤ x3 then some x2 else Option.bind (M_X12_strengthOf S x1 5 x3) (fun w2 => M_X12_reads_B4 S n x1 ((x2 + w2)) ((x3 + 1))))
set_option maxHeartbeats 4000000 in
set_option maxRecDepth 100000 in
theorem t_X12_reads_B4 {p : Program} {l : Launch} {e : Env} {s : State} {m : MethodId} {args : Array Value} {below : List Frame} {meth : Method} {c : Code} {D : va_G} {Y : Nat → ClassId} {F : Nat → Nat} {A : Nat → Prop} {G : zG} (C0 : zCx p s m args meth c D Y F A RX12 cX12_reads 4 (some .int) wsX12_reads) (S : zSt) (res : Int32) : ∀ (n : Nat), ∀ (x1 : Int32) (x2 : Int32) (x3 : Int32), M_X12_reads_B4 S n x1 x2 x3 = some res → ∀ (H : Heap) (locs : List Loc) (ls : Array Slot), zH D Y F A G S H → va_S A s.heap H locs → lv_has ls 4 [(0, .ref (F 0)), (1, .int x1), (2, .int x2), (3, .int x3)] → W p l e (zRm 1 23) s m args below meth c H locs 0 0 (MQ below (zQi D Y F A G (res, S)) args s 0 0 A) (F0 m 4 ls []) := by
  obtain ⟨hx, hb, hml, hr, hown, hts, hK, hA, hlk, hN⟩ := id C0
  intro n
  induction n with
  | zero =>
    intro x1 x2 x3 h
    unfold M_X12_reads_B4 at h
    cases h
  | succ n ih =>
    intro x1 x2 x3 h H locs ls hw hS hl
    rw [M_X12_reads_B4] at h
    refine lv_iload_n hx hb dX12_reads_4 rfl (lv_at hl 3 rfl) ?_
    refine lv_bipush (v := 8) hx hb dX12_reads_5 (by decide) ?_
    refine lv_icmp_ge (tgt := 26) hx hb dX12_reads_7 (by decide) (fun c1 => ?_) (fun c1 => ?_)
    · replace h := z_ifp c1 h
      refine lv_iload_n hx hb dX12_reads_26 rfl (lv_at hl 2 rfl) ?_
      exact z_reti C0 hw hS (congrArg (fun z => (z, S)) (Option.some.inj h)) dX12_reads_27
    · replace h := z_ifn c1 h
      refine lv_iload_n hx hb dX12_reads_10 rfl (lv_at hl 2 rfl) ?_
      refine lv_aload_n hx hb dX12_reads_11 rfl (lv_at hl 0 rfl) ?_
      refine lv_iload_n hx hb dX12_reads_12 rfl (lv_at hl 1 rfl) ?_
      refine lv_iconst (v := 5) hx hb dX12_reads_13 (by decide) ?_
      refine lv_iload_n hx hb dX12_reads_14 rfl (lv_at hl 3 rfl) ?_
      obtain ⟨w2, ew2, h⟩ := z_bd h
      refine z_callVip C0 hw hS (k := 0) (As := [.int x1, .int 5, .int x3]) (rest := [.int x2]) rfl rfl rfl rfl (c_X12_strengthOf l D Y F G S _ x1 5 x3 w2 ew2) (cwV 3 hts gX12_reads_X12_strengthOf rfl rfl rfl (by decide +kernel) ⟨Nat.le_of_ble_eq_true rfl, Nat.le_of_ble_eq_true rfl⟩) rfl hl.1 rfl (Nat.le_of_ble_eq_true rfl) dX12_reads_15 ⟨Nat.zero_le _, Nat.zero_le _⟩ (fun H locs hw hS => ?_)
      refine lv_iadd hx hb dX12_reads_18 ?_
      refine lv_istore_n (lv' := [(2, .int ((x2 + w2))), (0, .ref (F 0)), (1, .int x1), (3, .int x3)]) hx hb dX12_reads_19 rfl hl (by decide) rfl (fun ls hl => ?_)
      refine lv_iinc (v := (x3 + 1)) (lv' := [(3, .int ((x3 + 1))), (2, .int ((x2 + w2))), (0, .ref (F 0)), (1, .int x1)]) hx hb dX12_reads_20 hl (k := 3) rfl rfl (by decide) rfl (fun ls hl => ?_)
      refine lv_goto (tgt := 4) hx hb dX12_reads_23 (by decide) ?_
      exact ih x1 ((x2 + w2)) ((x3 + 1)) h _ _ _ hw hS (lv_sub hl [2, 3, 1, 0] rfl)
def M_X12_reads (S : zSt) (x1 : Int32) : Option (Int32) :=
  M_X12_reads_B4 S zF x1 0 0
set_option maxHeartbeats 4000000 in
set_option maxRecDepth 100000 in
theorem c_X12_reads (l : Launch) (D : va_G) (Y : Nat → ClassId) (F : Nat → Nat) (G : zG) (S : zSt) (sz : Nat) (x1 : Int32) (res : Int32) (h : M_X12_reads S x1 = some res) : Met l yX12_reads wsX12_reads (zRm 1 23) (zPc D Y F G S sz [.ref (F 0), .int x1]) (zQi D Y F (zAo F G sz) G (res, S)) 0 0 (zAo F G sz) := by
  unfold M_X12_reads at h
  refine zMet (cc := cX12_reads) (maxL := 4) (ret := (some .int)) (own := RX12) (by decide +kernel) rfl rfl (Nat.le_of_ble_eq_true rfl) ?_
  intro p e s m args below meth c C0 hin hw hS ls hl
  have hl : lv_has ls 4 [(0, .ref (F 0)), (1, .int x1)] := hl
  generalize zAo F G sz = A at C0 hw hS ⊢
  obtain ⟨hx, hb, hml, hr, hown, hts, hK, hA, hlk, hN⟩ := id C0
  refine lv_iconst (v := 0) hx hb dX12_reads_0 (by decide) ?_
  refine lv_istore_n (lv' := [(2, .int 0), (0, .ref (F 0)), (1, .int x1)]) hx hb dX12_reads_1 rfl hl (by decide) rfl (fun ls hl => ?_)
  refine lv_iconst (v := 0) hx hb dX12_reads_2 (by decide) ?_
  refine lv_istore_n (lv' := [(3, .int 0), (2, .int 0), (0, .ref (F 0)), (1, .int x1)]) hx hb dX12_reads_3 rfl hl (by decide) rfl (fun ls hl => ?_)
  exact t_X12_reads_B4 C0 S res zF x1 0 0 h _ _ _ hw hS (lv_sub hl [2, 3, 1, 0] rfl)
def M_X12_rubbed_B4 (S : zSt) : Nat → Int32 → Int32 → Int32 → Option (Int32)
  | 0, _, _, _ => none
  | n + 1, x1, x2, x3 =>
  (if 6 ≤ x3 then some x2 else zg (zin ((((6 : Int32) * x1) + x3)) 36) (Option.bind (some ((x2 + (zar S 8 (Int32.toNatClampNeg ((((6 : Int32) * x1) + x3))))))) (fun v3 => M_X12_rubbed_B4 S n x1 v3 ((x3 + 1)))))
set_option maxHeartbeats 4000000 in
set_option maxRecDepth 100000 in
theorem t_X12_rubbed_B4 {p : Program} {l : Launch} {e : Env} {s : State} {m : MethodId} {args : Array Value} {below : List Frame} {meth : Method} {c : Code} {D : va_G} {Y : Nat → ClassId} {F : Nat → Nat} {A : Nat → Prop} {G : zG} (C0 : zCx p s m args meth c D Y F A RX12 cX12_rubbed 4 (some .int) wsX12_rubbed) (S : zSt) (res : Int32) : ∀ (n : Nat), ∀ (x1 : Int32) (x2 : Int32) (x3 : Int32), M_X12_rubbed_B4 S n x1 x2 x3 = some res → ∀ (H : Heap) (locs : List Loc) (ls : Array Slot), zH D Y F A G S H → va_S A s.heap H locs → lv_has ls 4 [(0, .ref (F 0)), (1, .int x1), (2, .int x2), (3, .int x3)] → W p l e (zRm 0 0) s m args below meth c H locs 0 0 (MQ below (zQi D Y F A G (res, S)) args s 0 0 A) (F0 m 4 ls []) := by
  obtain ⟨hx, hb, hml, hr, hown, hts, hK, hA, hlk, hN⟩ := id C0
  intro n
  induction n with
  | zero =>
    intro x1 x2 x3 h
    unfold M_X12_rubbed_B4 at h
    cases h
  | succ n ih =>
    intro x1 x2 x3 h H locs ls hw hS hl
    rw [M_X12_rubbed_B4] at h
    refine lv_iload_n hx hb dX12_rubbed_4 rfl (lv_at hl 3 rfl) ?_
    refine lv_bipush (v := 6) hx hb dX12_rubbed_5 (by decide) ?_
    refine lv_icmp_ge (tgt := 30) hx hb dX12_rubbed_7 (by decide) (fun c1 => ?_) (fun c1 => ?_)
    · replace h := z_ifp c1 h
      refine lv_iload_n hx hb dX12_rubbed_30 rfl (lv_at hl 2 rfl) ?_
      exact z_reti C0 hw hS (congrArg (fun z => (z, S)) (Option.some.inj h)) dX12_rubbed_31
    · replace h := z_ifn c1 h
      refine lv_iload_n hx hb dX12_rubbed_10 rfl (lv_at hl 2 rfl) ?_
      refine lv_aload_n hx hb dX12_rubbed_11 rfl (lv_at hl 0 rfl) ?_
      refine z_get C0 in_X12_rubbed_X12 (C := RX12) (T := TX12) (N := 27) hw (k := 0) (ci := 12) (v := .ref (F 8)) rfl rfl rfl rfl 8 (by decide) rfl 1 rfl dX12_rubbed_12 ?_
      refine lv_bipush (v := 6) hx hb dX12_rubbed_15 (by decide) ?_
      refine lv_iload_n hx hb dX12_rubbed_17 rfl (lv_at hl 1 rfl) ?_
      refine lv_imul hx hb dX12_rubbed_18 ?_
      refine lv_iload_n hx hb dX12_rubbed_19 rfl (lv_at hl 3 rfl) ?_
      refine lv_iadd hx hb dX12_rubbed_20 ?_
      obtain ⟨b2, h⟩ := z_gd h
      refine z_iald C0 hw 8 rfl rfl zri_8 (zin_in b2) dX12_rubbed_21 ?_
      refine lv_iadd hx hb dX12_rubbed_22 ?_
      obtain ⟨v3, ev3, h⟩ := z_bd h
      refine z_top (Option.some.inj ev3) ?_
      refine lv_istore_n (lv' := [(2, .int v3), (0, .ref (F 0)), (1, .int x1), (3, .int x3)]) hx hb dX12_rubbed_23 rfl hl (by decide) rfl (fun ls hl => ?_)
      refine lv_iinc (v := (x3 + 1)) (lv' := [(3, .int ((x3 + 1))), (2, .int v3), (0, .ref (F 0)), (1, .int x1)]) hx hb dX12_rubbed_24 hl (k := 3) rfl rfl (by decide) rfl (fun ls hl => ?_)
      refine lv_goto (tgt := 4) hx hb dX12_rubbed_27 (by decide) ?_
      exact ih x1 v3 ((x3 + 1)) h _ _ _ hw hS (lv_sub hl [2, 3, 1, 0] rfl)
def M_X12_rubbed (S : zSt) (x1 : Int32) : Option (Int32) :=
  M_X12_rubbed_B4 S zF x1 0 0
set_option maxHeartbeats 4000000 in
set_option maxRecDepth 100000 in
theorem c_X12_rubbed (l : Launch) (D : va_G) (Y : Nat → ClassId) (F : Nat → Nat) (G : zG) (S : zSt) (sz : Nat) (x1 : Int32) (res : Int32) (h : M_X12_rubbed S x1 = some res) : Met l yX12_rubbed wsX12_rubbed (zRm 0 0) (zPc D Y F G S sz [.ref (F 0), .int x1]) (zQi D Y F (zAo F G sz) G (res, S)) 0 0 (zAo F G sz) := by
  unfold M_X12_rubbed at h
  refine zMet (cc := cX12_rubbed) (maxL := 4) (ret := (some .int)) (own := RX12) (by decide +kernel) rfl rfl (Nat.le_of_ble_eq_true rfl) ?_
  intro p e s m args below meth c C0 hin hw hS ls hl
  have hl : lv_has ls 4 [(0, .ref (F 0)), (1, .int x1)] := hl
  generalize zAo F G sz = A at C0 hw hS ⊢
  obtain ⟨hx, hb, hml, hr, hown, hts, hK, hA, hlk, hN⟩ := id C0
  refine lv_iconst (v := 0) hx hb dX12_rubbed_0 (by decide) ?_
  refine lv_istore_n (lv' := [(2, .int 0), (0, .ref (F 0)), (1, .int x1)]) hx hb dX12_rubbed_1 rfl hl (by decide) rfl (fun ls hl => ?_)
  refine lv_iconst (v := 0) hx hb dX12_rubbed_2 (by decide) ?_
  refine lv_istore_n (lv' := [(3, .int 0), (2, .int 0), (0, .ref (F 0)), (1, .int x1)]) hx hb dX12_rubbed_3 rfl hl (by decide) rfl (fun ls hl => ?_)
  exact t_X12_rubbed_B4 C0 S res zF x1 0 0 h _ _ _ hw hS (lv_sub hl [2, 3, 1, 0] rfl)
def M_X12_personOf (S : zSt) (x1 : Int32) (x2 : Int32) : Option (Int32 × zSt) :=
  Option.bind (M_X12_isPerson S x1) (fun w1 => (if w1 = 0 then Option.bind (M_X12_no S (-5)) (fun w16 => some (w16.1, w16.2)) else (if x2 = 0 then zg (zin x1 6) (some ((zar S 4 (Int32.toNatClampNeg x1)), S)) else (if x2 = 1 then zg (zin x1 6) (some ((zar S 5 (Int32.toNatClampNeg x1)), S)) else (if x2 = 2 then zg (zin x1 6) (some ((zar S 6 (Int32.toNatClampNeg x1)), S)) else (if x2 = 3 then zg (zin x1 6) (some ((zar S 7 (Int32.toNatClampNeg x1)), S)) else (if x2 = 4 then Option.bind (M_X12_reads S x1) (fun w12 => some (w12, S)) else (if x2 = 5 then Option.bind (M_X12_rubbed S x1) (fun w14 => some (w14, S)) else Option.bind (M_X12_no S (-5)) (fun w15 => some (w15.1, w15.2))))))))))
set_option maxHeartbeats 4000000 in
set_option maxRecDepth 100000 in
theorem c_X12_personOf (l : Launch) (D : va_G) (Y : Nat → ClassId) (F : Nat → Nat) (G : zG) (S : zSt) (sz : Nat) (x1 : Int32) (x2 : Int32) (res : Int32 × zSt) (h : M_X12_personOf S x1 x2 = some res) : Met l yX12_personOf wsX12_personOf (zRm 2 46) (zPc D Y F G S sz [.ref (F 0), .int x1, .int x2]) (zQi D Y F (zAo F G sz) G res) 0 0 (zAo F G sz) := by
  unfold M_X12_personOf at h
  refine zMet (cc := cX12_personOf) (maxL := 3) (ret := (some .int)) (own := RX12) (by decide +kernel) rfl rfl (Nat.le_of_ble_eq_true rfl) ?_
  intro p e s m args below meth c C0 hin hw hS ls hl
  have hl : lv_has ls 3 [(0, .ref (F 0)), (1, .int x1), (2, .int x2)] := hl
  generalize zAo F G sz = A at C0 hw hS ⊢
  obtain ⟨hx, hb, hml, hr, hown, hts, hK, hA, hlk, hN⟩ := id C0
  refine lv_aload_n hx hb dX12_personOf_0 rfl (lv_at hl 0 rfl) ?_
  refine lv_iload_n hx hb dX12_personOf_1 rfl (lv_at hl 1 rfl) ?_
  obtain ⟨w1, ew1, h⟩ := z_bd h
  refine z_callVip C0 hw hS (k := 0) (As := [.int x1]) (rest := []) rfl rfl rfl rfl (c_X12_isPerson l D Y F G S _ x1 w1 ew1) (cwV 1 hts gX12_personOf_X12_isPerson rfl rfl rfl (by decide +kernel) ⟨Nat.le_of_ble_eq_true rfl, Nat.le_of_ble_eq_true rfl⟩) rfl hl.1 rfl (Nat.le_of_ble_eq_true rfl) dX12_personOf_2 ⟨Nat.zero_le _, Nat.zero_le _⟩ (fun H locs hw hS => ?_)
  refine lv_if_ne (tgt := 15) hx hb dX12_personOf_5 (by decide) (fun c2 => ?_) (fun c2 => ?_)
  · replace h := z_ifn c2 h
    refine lv_iload_n hx hb dX12_personOf_15 rfl (lv_at hl 2 rfl) ?_
    by_cases c3 : x2 = 0
    · replace h := z_ifp c3 h
      refine z_top c3 ?_
      refine lv_tableIn (off := 40) (tgt := 56) hx hb dX12_personOf_16 (by decide) (by decide) rfl (by decide) ?_
      refine lv_aload_n hx hb dX12_personOf_56 rfl (lv_at hl 0 rfl) ?_
      refine z_get C0 in_X12_personOf_X12 (C := RX12) (T := TX12) (N := 27) hw (k := 0) (ci := 12) (v := .ref (F 4)) rfl rfl rfl rfl 4 (by decide) rfl 1 rfl dX12_personOf_57 ?_
      refine lv_iload_n hx hb dX12_personOf_60 rfl (lv_at hl 1 rfl) ?_
      obtain ⟨b4, h⟩ := z_gd h
      refine z_iald C0 hw 4 rfl rfl zri_4 (zin_in b4) dX12_personOf_61 ?_
      exact z_reti C0 hw hS (Option.some.inj h) dX12_personOf_62
    · replace h := z_ifn c3 h
      by_cases c5 : x2 = 1
      · replace h := z_ifp c5 h
        refine z_top c5 ?_
        refine lv_tableIn (off := 47) (tgt := 63) hx hb dX12_personOf_16 (by decide) (by decide) rfl (by decide) ?_
        refine lv_aload_n hx hb dX12_personOf_63 rfl (lv_at hl 0 rfl) ?_
        refine z_get C0 in_X12_personOf_X12 (C := RX12) (T := TX12) (N := 27) hw (k := 0) (ci := 12) (v := .ref (F 5)) rfl rfl rfl rfl 5 (by decide) rfl 2 rfl dX12_personOf_64 ?_
        refine lv_iload_n hx hb dX12_personOf_67 rfl (lv_at hl 1 rfl) ?_
        obtain ⟨b6, h⟩ := z_gd h
        refine z_iald C0 hw 5 rfl rfl zri_5 (zin_in b6) dX12_personOf_68 ?_
        exact z_reti C0 hw hS (Option.some.inj h) dX12_personOf_69
      · replace h := z_ifn c5 h
        by_cases c7 : x2 = 2
        · replace h := z_ifp c7 h
          refine z_top c7 ?_
          refine lv_tableIn (off := 54) (tgt := 70) hx hb dX12_personOf_16 (by decide) (by decide) rfl (by decide) ?_
          refine lv_aload_n hx hb dX12_personOf_70 rfl (lv_at hl 0 rfl) ?_
          refine z_get C0 in_X12_personOf_X12 (C := RX12) (T := TX12) (N := 27) hw (k := 0) (ci := 12) (v := .ref (F 6)) rfl rfl rfl rfl 6 (by decide) rfl 3 rfl dX12_personOf_71 ?_
          refine lv_iload_n hx hb dX12_personOf_74 rfl (lv_at hl 1 rfl) ?_
          obtain ⟨b8, h⟩ := z_gd h
          refine z_iald C0 hw 6 rfl rfl zri_6 (zin_in b8) dX12_personOf_75 ?_
          exact z_reti C0 hw hS (Option.some.inj h) dX12_personOf_76
        · replace h := z_ifn c7 h
          by_cases c9 : x2 = 3
          · replace h := z_ifp c9 h
            refine z_top c9 ?_
            refine lv_tableIn (off := 61) (tgt := 77) hx hb dX12_personOf_16 (by decide) (by decide) rfl (by decide) ?_
            refine lv_aload_n hx hb dX12_personOf_77 rfl (lv_at hl 0 rfl) ?_
            refine z_get C0 in_X12_personOf_X12 (C := RX12) (T := TX12) (N := 27) hw (k := 0) (ci := 12) (v := .ref (F 7)) rfl rfl rfl rfl 7 (by decide) rfl 4 rfl dX12_personOf_78 ?_
            refine lv_iload_n hx hb dX12_personOf_81 rfl (lv_at hl 1 rfl) ?_
            obtain ⟨b10, h⟩ := z_gd h
            refine z_iald C0 hw 7 rfl rfl zri_7 (zin_in b10) dX12_personOf_82 ?_
            exact z_reti C0 hw hS (Option.some.inj h) dX12_personOf_83
          · replace h := z_ifn c9 h
            by_cases c11 : x2 = 4
            · replace h := z_ifp c11 h
              refine z_top c11 ?_
              refine lv_tableIn (off := 68) (tgt := 84) hx hb dX12_personOf_16 (by decide) (by decide) rfl (by decide) ?_
              refine lv_aload_n hx hb dX12_personOf_84 rfl (lv_at hl 0 rfl) ?_
              refine lv_iload_n hx hb dX12_personOf_85 rfl (lv_at hl 1 rfl) ?_
              obtain ⟨w12, ew12, h⟩ := z_bd h
              refine z_callVip C0 hw hS (k := 0) (As := [.int x1]) (rest := []) rfl rfl rfl rfl (c_X12_reads l D Y F G S _ x1 w12 ew12) (cwV 1 hts gX12_personOf_X12_reads rfl rfl rfl (by decide +kernel) ⟨Nat.le_of_ble_eq_true rfl, Nat.le_of_ble_eq_true rfl⟩) rfl hl.1 rfl (Nat.le_of_ble_eq_true rfl) dX12_personOf_86 ⟨Nat.zero_le _, Nat.zero_le _⟩ (fun H locs hw hS => ?_)
              exact z_reti C0 hw hS (Option.some.inj h) dX12_personOf_89
            · replace h := z_ifn c11 h
              by_cases c13 : x2 = 5
              · replace h := z_ifp c13 h
                refine z_top c13 ?_
                refine lv_tableIn (off := 74) (tgt := 90) hx hb dX12_personOf_16 (by decide) (by decide) rfl (by decide) ?_
                refine lv_aload_n hx hb dX12_personOf_90 rfl (lv_at hl 0 rfl) ?_
                refine lv_iload_n hx hb dX12_personOf_91 rfl (lv_at hl 1 rfl) ?_
                obtain ⟨w14, ew14, h⟩ := z_bd h
                refine z_callVip C0 hw hS (k := 0) (As := [.int x1]) (rest := []) rfl rfl rfl rfl (c_X12_rubbed l D Y F G S _ x1 w14 ew14) (cwV 1 hts gX12_personOf_X12_rubbed rfl rfl rfl (by decide +kernel) ⟨Nat.le_of_ble_eq_true rfl, Nat.le_of_ble_eq_true rfl⟩) rfl hl.1 rfl (Nat.le_of_ble_eq_true rfl) dX12_personOf_92 ⟨Nat.zero_le _, Nat.zero_le _⟩ (fun H locs hw hS => ?_)
                exact z_reti C0 hw hS (Option.some.inj h) dX12_personOf_95
              · replace h := z_ifn c13 h
                have nc3 : Int32.toInt x2 ≠ 0 := fun q => c3 (Int32.toInt_inj.mp (q.trans (by decide)))
                have nc5 : Int32.toInt x2 ≠ 1 := fun q => c5 (Int32.toInt_inj.mp (q.trans (by decide)))
                have nc7 : Int32.toInt x2 ≠ 2 := fun q => c7 (Int32.toInt_inj.mp (q.trans (by decide)))
                have nc9 : Int32.toInt x2 ≠ 3 := fun q => c9 (Int32.toInt_inj.mp (q.trans (by decide)))
                have nc11 : Int32.toInt x2 ≠ 4 := fun q => c11 (Int32.toInt_inj.mp (q.trans (by decide)))
                have nc13 : Int32.toInt x2 ≠ 5 := fun q => c13 (Int32.toInt_inj.mp (q.trans (by decide)))
                refine lv_tableOut (tgt := 96) hx hb dX12_personOf_16 (by omega) (by decide) ?_
                refine lv_aload_n hx hb dX12_personOf_96 rfl (lv_at hl 0 rfl) ?_
                refine lv_bipush (v := (-5)) hx hb dX12_personOf_97 (by decide) ?_
                obtain ⟨w15, ew15, h⟩ := z_bd h
                refine z_callVi0 C0 hw hS (k := 0) (As := [.int (-5)]) (rest := []) rfl rfl rfl rfl (c_X12_no l D Y F G S _ (-5) w15 ew15) (cwV 1 hts gX12_personOf_X12_no rfl rfl rfl (by decide +kernel) ⟨Nat.le_of_ble_eq_true rfl, Nat.le_of_ble_eq_true rfl⟩) rfl hl.1 rfl (Nat.le_of_ble_eq_true rfl) dX12_personOf_99 ⟨Nat.zero_le _, Nat.zero_le _⟩ (fun H locs hw hS => ?_)
                exact z_reti C0 hw hS (Option.some.inj h) dX12_personOf_102
  · replace h := z_ifp c2 h
    refine lv_aload_n hx hb dX12_personOf_8 rfl (lv_at hl 0 rfl) ?_
    refine lv_bipush (v := (-5)) hx hb dX12_personOf_9 (by decide) ?_
    obtain ⟨w16, ew16, h⟩ := z_bd h
    refine z_callVi0 C0 hw hS (k := 0) (As := [.int (-5)]) (rest := []) rfl rfl rfl rfl (c_X12_no l D Y F G S _ (-5) w16 ew16) (cwV 1 hts gX12_personOf_X12_no rfl rfl rfl (by decide +kernel) ⟨Nat.le_of_ble_eq_true rfl, Nat.le_of_ble_eq_true rfl⟩) rfl hl.1 rfl (Nat.le_of_ble_eq_true rfl) dX12_personOf_11 ⟨Nat.zero_le _, Nat.zero_le _⟩ (fun H locs hw hS => ?_)
    exact z_reti C0 hw hS (Option.some.inj h) dX12_personOf_14
def M_X12_hasDeed (S : zSt) (x1 : Int32) (x2 : Int32) (x3 : Int32) : Option (Int32) :=
  Option.bind (M_X12_strengthOf S x1 x2 x3) (fun w1 => (if w1 < (zsc S 0 11) then some 0 else some 1))
set_option maxHeartbeats 4000000 in
set_option maxRecDepth 100000 in
theorem c_X12_hasDeed (l : Launch) (D : va_G) (Y : Nat → ClassId) (F : Nat → Nat) (G : zG) (S : zSt) (sz : Nat) (x1 : Int32) (x2 : Int32) (x3 : Int32) (res : Int32) (h : M_X12_hasDeed S x1 x2 x3 = some res) : Met l yX12_hasDeed wsX12_hasDeed (zRm 1 23) (zPc D Y F G S sz [.ref (F 0), .int x1, .int x2, .int x3]) (zQi D Y F (zAo F G sz) G (res, S)) 0 0 (zAo F G sz) := by
  unfold M_X12_hasDeed at h
  refine zMet (cc := cX12_hasDeed) (maxL := 4) (ret := (some .boolean)) (own := RX12) (by decide +kernel) rfl rfl (Nat.le_of_ble_eq_true rfl) ?_
  intro p e s m args below meth c C0 hin hw hS ls hl
  have hl : lv_has ls 4 [(0, .ref (F 0)), (1, .int x1), (2, .int x2), (3, .int x3)] := hl
  generalize zAo F G sz = A at C0 hw hS ⊢
  obtain ⟨hx, hb, hml, hr, hown, hts, hK, hA, hlk, hN⟩ := id C0
  refine lv_aload_n hx hb dX12_hasDeed_0 rfl (lv_at hl 0 rfl) ?_
  refine lv_iload_n hx hb dX12_hasDeed_1 rfl (lv_at hl 1 rfl) ?_
  refine lv_iload_n hx hb dX12_hasDeed_2 rfl (lv_at hl 2 rfl) ?_
  refine lv_iload_n hx hb dX12_hasDeed_3 rfl (lv_at hl 3 rfl) ?_
  obtain ⟨w1, ew1, h⟩ := z_bd h
  refine z_callVip C0 hw hS (k := 0) (As := [.int x1, .int x2, .int x3]) (rest := []) rfl rfl rfl rfl (c_X12_strengthOf l D Y F G S _ x1 x2 x3 w1 ew1) (cwV 3 hts gX12_hasDeed_X12_strengthOf rfl rfl rfl (by decide +kernel) ⟨Nat.le_of_ble_eq_true rfl, Nat.le_of_ble_eq_true rfl⟩) rfl hl.1 rfl (Nat.le_of_ble_eq_true rfl) dX12_hasDeed_4 ⟨Nat.zero_le _, Nat.zero_le _⟩ (fun H locs hw hS => ?_)
  refine lv_aload_n hx hb dX12_hasDeed_7 rfl (lv_at hl 0 rfl) ?_
  refine z_get C0 in_X12_hasDeed_X12 (C := RX12) (T := TX12) (N := 27) hw (k := 0) (ci := 12) (v := .int ((zsc S 0 11))) rfl rfl rfl rfl 11 (by decide) rfl 1 rfl dX12_hasDeed_8 ?_
  refine lv_icmp_lt (tgt := 18) hx hb dX12_hasDeed_11 (by decide) (fun c2 => ?_) (fun c2 => ?_)
  · replace h := z_ifp c2 h
    refine lv_iconst (v := 0) hx hb dX12_hasDeed_18 (by decide) ?_
    exact z_retz C0 hw hS rfl (congrArg (fun z => (z, S)) (Option.some.inj h)) dX12_hasDeed_19
  · replace h := z_ifn c2 h
    refine lv_iconst (v := 1) hx hb dX12_hasDeed_14 (by decide) ?_
    refine lv_goto (tgt := 19) hx hb dX12_hasDeed_15 (by decide) ?_
    exact z_retz C0 hw hS rfl (congrArg (fun z => (z, S)) (Option.some.inj h)) dX12_hasDeed_19
def M_X12_hasAll_B5 (S : zSt) : Nat → Int32 → Int32 → Int32 → Int32 → Option (Int32)
  | 0, _, _, _, _ => none
  | n + 1, x1, x2, x3, x4 =>
  (if 8 ≤ x4 then some x3 else Option.bind (M_X12_hasDeed S x1 x2 x4) (fun w2 => (if w2 = 0 then M_X12_hasAll_B5 S n x1 x2 x3 ((x4 + 1)) else Option.bind (some ((x3 ||| ((1 : Int32) <<< (x4 &&& 31))))) (fun v4 => M_X12_hasAll_B5 S n x1 x2 v4 ((x4 + 1))))))
set_option maxHeartbeats 4000000 in
set_option maxRecDepth 100000 in
theorem t_X12_hasAll_B5 {p : Program} {l : Launch} {e : Env} {s : State} {m : MethodId} {args : Array Value} {below : List Frame} {meth : Method} {c : Code} {D : va_G} {Y : Nat → ClassId} {F : Nat → Nat} {A : Nat → Prop} {G : zG} (C0 : zCx p s m args meth c D Y F A RX12 cX12_hasAll 5 (some .int) wsX12_hasAll) (S : zSt) (res : Int32) : ∀ (n : Nat), ∀ (x1 : Int32) (x2 : Int32) (x3 : Int32) (x4 : Int32), M_X12_hasAll_B5 S n x1 x2 x3 x4 = some res → ∀ (H : Heap) (locs : List Loc) (ls : Array Slot), zH D Y F A G S H → va_S A s.heap H locs → lv_has ls 5 [(0, .ref (F 0)), (1, .int x1), (2, .int x2), (3, .int x3), (4, .int x4)] → W p l e (zRm 2 46) s m args below meth c H locs 0 0 (MQ below (zQi D Y F A G (res, S)) args s 0 0 A) (F0 m 5 ls []) := by
  obtain ⟨hx, hb, hml, hr, hown, hts, hK, hA, hlk, hN⟩ := id C0
  intro n
  induction n with
  | zero =>
    intro x1 x2 x3 x4 h
    unfold M_X12_hasAll_B5 at h
    cases h
  | succ n ih =>
    intro x1 x2 x3 x4 h H locs ls hw hS hl
    rw [M_X12_hasAll_B5] at h
    refine lv_iload hx hb dX12_hasAll_5 (lv_at hl 4 rfl) ?_
    refine lv_bipush (v := 8) hx hb dX12_hasAll_7 (by decide) ?_
    refine lv_icmp_ge (tgt := 36) hx hb dX12_hasAll_9 (by decide) (fun c1 => ?_) (fun c1 => ?_)
    · replace h := z_ifp c1 h
      refine lv_iload_n hx hb dX12_hasAll_36 rfl (lv_at hl 3 rfl) ?_
      exact z_reti C0 hw hS (congrArg (fun z => (z, S)) (Option.some.inj h)) dX12_hasAll_37
    · replace h := z_ifn c1 h
      refine lv_aload_n hx hb dX12_hasAll_12 rfl (lv_at hl 0 rfl) ?_
      refine lv_iload_n hx hb dX12_hasAll_13 rfl (lv_at hl 1 rfl) ?_
      refine lv_iload_n hx hb dX12_hasAll_14 rfl (lv_at hl 2 rfl) ?_
      refine lv_iload hx hb dX12_hasAll_15 (lv_at hl 4 rfl) ?_
      obtain ⟨w2, ew2, h⟩ := z_bd h
      refine z_callVip C0 hw hS (k := 0) (As := [.int x1, .int x2, .int x4]) (rest := []) rfl rfl rfl rfl (c_X12_hasDeed l D Y F G S _ x1 x2 x4 w2 ew2) (cwV 3 hts gX12_hasAll_X12_hasDeed rfl rfl rfl (by decide +kernel) ⟨Nat.le_of_ble_eq_true rfl, Nat.le_of_ble_eq_true rfl⟩) rfl hl.1 rfl (Nat.le_of_ble_eq_true rfl) dX12_hasAll_17 ⟨Nat.zero_le _, Nat.zero_le _⟩ (fun H locs hw hS => ?_)
      refine lv_if_eq (tgt := 30) hx hb dX12_hasAll_20 (by decide) (fun c3 => ?_) (fun c3 => ?_)
      · replace h := z_ifp c3 h
        refine lv_iinc (v := (x4 + 1)) (lv' := [(4, .int ((x4 + 1))), (0, .ref (F 0)), (1, .int x1), (2, .int x2), (3, .int x3)]) hx hb dX12_hasAll_30 hl (k := 4) rfl rfl (by decide) rfl (fun ls hl => ?_)
        refine lv_goto (tgt := 5) hx hb dX12_hasAll_33 (by decide) ?_
        exact ih x1 x2 x3 ((x4 + 1)) h _ _ _ hw hS (lv_sub hl [1, 2, 3, 4, 0] rfl)
      · replace h := z_ifn c3 h
        refine lv_iload_n hx hb dX12_hasAll_23 rfl (lv_at hl 3 rfl) ?_
        refine lv_iconst (v := 1) hx hb dX12_hasAll_24 (by decide) ?_
        refine lv_iload hx hb dX12_hasAll_25 (lv_at hl 4 rfl) ?_
        refine lv_ishl hx hb dX12_hasAll_27 ?_
        refine lv_ior hx hb dX12_hasAll_28 ?_
        obtain ⟨v4, ev4, h⟩ := z_bd h
        refine z_top (Option.some.inj ev4) ?_
        refine lv_istore_n (lv' := [(3, .int v4), (0, .ref (F 0)), (1, .int x1), (2, .int x2), (4, .int x4)]) hx hb dX12_hasAll_29 rfl hl (by decide) rfl (fun ls hl => ?_)
        refine lv_iinc (v := (x4 + 1)) (lv' := [(4, .int ((x4 + 1))), (3, .int v4), (0, .ref (F 0)), (1, .int x1), (2, .int x2)]) hx hb dX12_hasAll_30 hl (k := 4) rfl rfl (by decide) rfl (fun ls hl => ?_)
        refine lv_goto (tgt := 5) hx hb dX12_hasAll_33 (by decide) ?_
        exact ih x1 x2 v4 ((x4 + 1)) h _ _ _ hw hS (lv_sub hl [2, 3, 4, 1, 0] rfl)
def M_X12_hasAll (S : zSt) (x1 : Int32) (x2 : Int32) : Option (Int32) :=
  M_X12_hasAll_B5 S zF x1 x2 0 0
set_option maxHeartbeats 4000000 in
set_option maxRecDepth 100000 in
theorem c_X12_hasAll (l : Launch) (D : va_G) (Y : Nat → ClassId) (F : Nat → Nat) (G : zG) (S : zSt) (sz : Nat) (x1 : Int32) (x2 : Int32) (res : Int32) (h : M_X12_hasAll S x1 x2 = some res) : Met l yX12_hasAll wsX12_hasAll (zRm 2 46) (zPc D Y F G S sz [.ref (F 0), .int x1, .int x2]) (zQi D Y F (zAo F G sz) G (res, S)) 0 0 (zAo F G sz) := by
  unfold M_X12_hasAll at h
  refine zMet (cc := cX12_hasAll) (maxL := 5) (ret := (some .int)) (own := RX12) (by decide +kernel) rfl rfl (Nat.le_of_ble_eq_true rfl) ?_
  intro p e s m args below meth c C0 hin hw hS ls hl
  have hl : lv_has ls 5 [(0, .ref (F 0)), (1, .int x1), (2, .int x2)] := hl
  generalize zAo F G sz = A at C0 hw hS ⊢
  obtain ⟨hx, hb, hml, hr, hown, hts, hK, hA, hlk, hN⟩ := id C0
  refine lv_iconst (v := 0) hx hb dX12_hasAll_0 (by decide) ?_
  refine lv_istore_n (lv' := [(3, .int 0), (0, .ref (F 0)), (1, .int x1), (2, .int x2)]) hx hb dX12_hasAll_1 rfl hl (by decide) rfl (fun ls hl => ?_)
  refine lv_iconst (v := 0) hx hb dX12_hasAll_2 (by decide) ?_
  refine lv_istore (lv' := [(4, .int 0), (3, .int 0), (0, .ref (F 0)), (1, .int x1), (2, .int x2)]) hx hb dX12_hasAll_3 hl (by decide) rfl (fun ls hl => ?_)
  exact t_X12_hasAll_B5 C0 S res zF x1 x2 0 0 h _ _ _ hw hS (lv_sub hl [2, 3, 4, 1, 0] rfl)
def M_X12_copyOf_B24 (S : zSt) : Option (Int32 × zSt) :=
  Option.bind (M_X12_no S (-5)) (fun w3 => some (w3.1, w3.2))
set_option maxHeartbeats 4000000 in
set_option maxRecDepth 100000 in
theorem t_X12_copyOf_B24 {p : Program} {l : Launch} {e : Env} {s : State} {m : MethodId} {args : Array Value} {below : List Frame} {meth : Method} {c : Code} {D : va_G} {Y : Nat → ClassId} {F : Nat → Nat} {A : Nat → Prop} {G : zG} (C0 : zCx p s m args meth c D Y F A RX12 cX12_copyOf 4 (some .int) wsX12_copyOf) (res : Int32 × zSt) : ∀ (S : zSt), M_X12_copyOf_B24 S = some res → ∀ (H : Heap) (locs : List Loc) (ls : Array Slot), zH D Y F A G S H → va_S A s.heap H locs → lv_has ls 4 [(0, .ref (F 0))] → W p l e (zRm 3 70) s m args below meth c H locs 0 0 (MQ below (zQi D Y F A G res) args s 0 0 A) (F0 m 24 ls []) := by
  obtain ⟨hx, hb, hml, hr, hown, hts, hK, hA, hlk, hN⟩ := id C0
  intro S h H locs ls hw hS hl
  unfold M_X12_copyOf_B24 at h
  refine lv_aload_n hx hb dX12_copyOf_24 rfl (lv_at hl 0 rfl) ?_
  refine lv_bipush (v := (-5)) hx hb dX12_copyOf_25 (by decide) ?_
  obtain ⟨w3, ew3, h⟩ := z_bd h
  refine z_callVi0 C0 hw hS (k := 0) (As := [.int (-5)]) (rest := []) rfl rfl rfl rfl (c_X12_no l D Y F G S _ (-5) w3 ew3) (cwV 1 hts gX12_copyOf_X12_no rfl rfl rfl (by decide +kernel) ⟨Nat.le_of_ble_eq_true rfl, Nat.le_of_ble_eq_true rfl⟩) rfl hl.1 rfl (Nat.le_of_ble_eq_true rfl) dX12_copyOf_27 ⟨Nat.zero_le _, Nat.zero_le _⟩ (fun H locs hw hS => ?_)
  exact z_reti C0 hw hS (Option.some.inj h) dX12_copyOf_30
def M_X12_copyOf (S : zSt) (x1 : Int32) (x2 : Int32) (x3 : Int32) : Option (Int32 × zSt) :=
  Option.bind (M_X12_isPerson S x1) (fun w1 => (if w1 = 0 then M_X12_copyOf_B24 S else Option.bind (M_X12_isCopy S x2) (fun w4 => (if w4 = 0 then M_X12_copyOf_B24 S else Option.bind (M_X12_within S x3 0 2) (fun w6 => (if w6 = 0 then M_X12_copyOf_B24 S else (if x3 = 0 then zg (zin ((((6 : Int32) * x1) + x2)) 36) (some ((zar S 8 (Int32.toNatClampNeg ((((6 : Int32) * x1) + x2)))), S)) else (if x3 = 1 then Option.bind (M_X12_hasAll S x1 x2) (fun w12 => some (w12, S)) else Option.bind (M_X12_lives S x1 x2) (fun w10 => (if w10 = 0 then some (1, S) else some (0, S)))))))))))
set_option maxHeartbeats 4000000 in
set_option maxRecDepth 100000 in
theorem c_X12_copyOf (l : Launch) (D : va_G) (Y : Nat → ClassId) (F : Nat → Nat) (G : zG) (S : zSt) (sz : Nat) (x1 : Int32) (x2 : Int32) (x3 : Int32) (res : Int32 × zSt) (h : M_X12_copyOf S x1 x2 x3 = some res) : Met l yX12_copyOf wsX12_copyOf (zRm 3 70) (zPc D Y F G S sz [.ref (F 0), .int x1, .int x2, .int x3]) (zQi D Y F (zAo F G sz) G res) 0 0 (zAo F G sz) := by
  unfold M_X12_copyOf at h
  refine zMet (cc := cX12_copyOf) (maxL := 4) (ret := (some .int)) (own := RX12) (by decide +kernel) rfl rfl (Nat.le_of_ble_eq_true rfl) ?_
  intro p e s m args below meth c C0 hin hw hS ls hl
  have hl : lv_has ls 4 [(0, .ref (F 0)), (1, .int x1), (2, .int x2), (3, .int x3)] := hl
  generalize zAo F G sz = A at C0 hw hS ⊢
  obtain ⟨hx, hb, hml, hr, hown, hts, hK, hA, hlk, hN⟩ := id C0
  refine lv_aload_n hx hb dX12_copyOf_0 rfl (lv_at hl 0 rfl) ?_
  refine lv_iload_n hx hb dX12_copyOf_1 rfl (lv_at hl 1 rfl) ?_
  obtain ⟨w1, ew1, h⟩ := z_bd h
  refine z_callVip C0 hw hS (k := 0) (As := [.int x1]) (rest := []) rfl rfl rfl rfl (c_X12_isPerson l D Y F G S _ x1 w1 ew1) (cwV 1 hts gX12_copyOf_X12_isPerson rfl rfl rfl (by decide +kernel) ⟨Nat.le_of_ble_eq_true rfl, Nat.le_of_ble_eq_true rfl⟩) rfl hl.1 rfl (Nat.le_of_ble_eq_true rfl) dX12_copyOf_2 ⟨Nat.zero_le _, Nat.zero_le _⟩ (fun H locs hw hS => ?_)
  refine lv_if_eq (tgt := 24) hx hb dX12_copyOf_5 (by decide) (fun c2 => ?_) (fun c2 => ?_)
  · replace h := z_ifp c2 h
    exact t_X12_copyOf_B24 C0 res S h _ _ _ hw hS (lv_sub hl [0] rfl)
  · replace h := z_ifn c2 h
    refine lv_iload_n hx hb dX12_copyOf_8 rfl (lv_at hl 2 rfl) ?_
    obtain ⟨w4, ew4, h⟩ := z_bd h
    refine z_callSip C0 hw hS (As := [.int x2]) (rest := []) (c_X12_isCopy l D Y F G S _ x2 w4 ew4) (va_cwS 1 hts gX12_copyOf_X12_isCopy rfl rfl rfl (by decide +kernel) ⟨Nat.le_of_ble_eq_true rfl, Nat.le_of_ble_eq_true rfl⟩) rfl hl.1 rfl (Nat.le_of_ble_eq_true rfl) dX12_copyOf_9 ⟨Nat.zero_le _, Nat.zero_le _⟩ (fun H locs hw hS => ?_)
    refine lv_if_eq (tgt := 24) hx hb dX12_copyOf_12 (by decide) (fun c5 => ?_) (fun c5 => ?_)
    · replace h := z_ifp c5 h
      exact t_X12_copyOf_B24 C0 res S h _ _ _ hw hS (lv_sub hl [0] rfl)
    · replace h := z_ifn c5 h
      refine lv_iload_n hx hb dX12_copyOf_15 rfl (lv_at hl 3 rfl) ?_
      refine lv_iconst (v := 0) hx hb dX12_copyOf_16 (by decide) ?_
      refine lv_iconst (v := 2) hx hb dX12_copyOf_17 (by decide) ?_
      obtain ⟨w6, ew6, h⟩ := z_bd h
      refine z_callSip C0 hw hS (As := [.int x3, .int 0, .int 2]) (rest := []) (c_X12_within l D Y F G S _ x3 0 2 w6 ew6) (va_cwS 3 hts gX12_copyOf_X12_within rfl rfl rfl (by decide +kernel) ⟨Nat.le_of_ble_eq_true rfl, Nat.le_of_ble_eq_true rfl⟩) rfl hl.1 rfl (Nat.le_of_ble_eq_true rfl) dX12_copyOf_18 ⟨Nat.zero_le _, Nat.zero_le _⟩ (fun H locs hw hS => ?_)
      refine lv_if_ne (tgt := 31) hx hb dX12_copyOf_21 (by decide) (fun c7 => ?_) (fun c7 => ?_)
      · replace h := z_ifn c7 h
        refine lv_iload_n hx hb dX12_copyOf_31 rfl (lv_at hl 3 rfl) ?_
        refine lv_if_ne (tgt := 49) hx hb dX12_copyOf_32 (by decide) (fun c8 => ?_) (fun c8 => ?_)
        · replace h := z_ifn c8 h
          refine lv_iload_n hx hb dX12_copyOf_49 rfl (lv_at hl 3 rfl) ?_
          refine lv_iconst (v := 1) hx hb dX12_copyOf_50 (by decide) ?_
          refine lv_icmp_ne (tgt := 63) hx hb dX12_copyOf_51 (by decide) (fun c9 => ?_) (fun c9 => ?_)
          · replace h := z_ifn c9 h
            refine lv_aload_n hx hb dX12_copyOf_63 rfl (lv_at hl 0 rfl) ?_
            refine lv_iload_n hx hb dX12_copyOf_64 rfl (lv_at hl 1 rfl) ?_
            refine lv_iload_n hx hb dX12_copyOf_65 rfl (lv_at hl 2 rfl) ?_
            obtain ⟨w10, ew10, h⟩ := z_bd h
            refine z_callVip C0 hw hS (k := 0) (As := [.int x1, .int x2]) (rest := []) rfl rfl rfl rfl (c_X12_lives l D Y F G S _ x1 x2 w10 ew10) (cwV 2 hts gX12_copyOf_X12_lives rfl rfl rfl (by decide +kernel) ⟨Nat.le_of_ble_eq_true rfl, Nat.le_of_ble_eq_true rfl⟩) rfl hl.1 rfl (Nat.le_of_ble_eq_true rfl) dX12_copyOf_66 ⟨Nat.zero_le _, Nat.zero_le _⟩ (fun H locs hw hS => ?_)
            refine lv_if_eq (tgt := 76) hx hb dX12_copyOf_69 (by decide) (fun c11 => ?_) (fun c11 => ?_)
            · replace h := z_ifp c11 h
              refine lv_iconst (v := 1) hx hb dX12_copyOf_76 (by decide) ?_
              exact z_reti C0 hw hS (Option.some.inj h) dX12_copyOf_77
            · replace h := z_ifn c11 h
              refine lv_iconst (v := 0) hx hb dX12_copyOf_72 (by decide) ?_
              refine lv_goto (tgt := 77) hx hb dX12_copyOf_73 (by decide) ?_
              exact z_reti C0 hw hS (Option.some.inj h) dX12_copyOf_77
          · replace h := z_ifp c9 h
            refine lv_aload_n hx hb dX12_copyOf_54 rfl (lv_at hl 0 rfl) ?_
            refine lv_iload_n hx hb dX12_copyOf_55 rfl (lv_at hl 1 rfl) ?_
            refine lv_iload_n hx hb dX12_copyOf_56 rfl (lv_at hl 2 rfl) ?_
            obtain ⟨w12, ew12, h⟩ := z_bd h
            refine z_callVip C0 hw hS (k := 0) (As := [.int x1, .int x2]) (rest := []) rfl rfl rfl rfl (c_X12_hasAll l D Y F G S _ x1 x2 w12 ew12) (cwV 2 hts gX12_copyOf_X12_hasAll rfl rfl rfl (by decide +kernel) ⟨Nat.le_of_ble_eq_true rfl, Nat.le_of_ble_eq_true rfl⟩) rfl hl.1 rfl (Nat.le_of_ble_eq_true rfl) dX12_copyOf_57 ⟨Nat.zero_le _, Nat.zero_le _⟩ (fun H locs hw hS => ?_)
            refine lv_goto (tgt := 77) hx hb dX12_copyOf_60 (by decide) ?_
            exact z_reti C0 hw hS (Option.some.inj h) dX12_copyOf_77
        · replace h := z_ifp c8 h
          refine lv_aload_n hx hb dX12_copyOf_35 rfl (lv_at hl 0 rfl) ?_
          refine z_get C0 in_X12_copyOf_X12 (C := RX12) (T := TX12) (N := 27) hw (k := 0) (ci := 12) (v := .ref (F 8)) rfl rfl rfl rfl 8 (by decide) rfl 1 rfl dX12_copyOf_36 ?_
          refine lv_bipush (v := 6) hx hb dX12_copyOf_39 (by decide) ?_
          refine lv_iload_n hx hb dX12_copyOf_41 rfl (lv_at hl 1 rfl) ?_
          refine lv_imul hx hb dX12_copyOf_42 ?_
          refine lv_iload_n hx hb dX12_copyOf_43 rfl (lv_at hl 2 rfl) ?_
          refine lv_iadd hx hb dX12_copyOf_44 ?_
          obtain ⟨b13, h⟩ := z_gd h
          refine z_iald C0 hw 8 rfl rfl zri_8 (zin_in b13) dX12_copyOf_45 ?_
          refine lv_goto (tgt := 77) hx hb dX12_copyOf_46 (by decide) ?_
          exact z_reti C0 hw hS (Option.some.inj h) dX12_copyOf_77
      · replace h := z_ifp c7 h
        exact t_X12_copyOf_B24 C0 res S h _ _ _ hw hS (lv_sub hl [0] rfl)
def M_X12_strength_B32 (S : zSt) : Option (Int32 × zSt) :=
  Option.bind (M_X12_no S (-5)) (fun w3 => some (w3.1, w3.2))
set_option maxHeartbeats 4000000 in
set_option maxRecDepth 100000 in
theorem t_X12_strength_B32 {p : Program} {l : Launch} {e : Env} {s : State} {m : MethodId} {args : Array Value} {below : List Frame} {meth : Method} {c : Code} {D : va_G} {Y : Nat → ClassId} {F : Nat → Nat} {A : Nat → Prop} {G : zG} (C0 : zCx p s m args meth c D Y F A RX12 cX12_strength 4 (some .int) wsX12_strength) (res : Int32 × zSt) : ∀ (S : zSt), M_X12_strength_B32 S = some res → ∀ (H : Heap) (locs : List Loc) (ls : Array Slot), zH D Y F A G S H → va_S A s.heap H locs → lv_has ls 4 [(0, .ref (F 0))] → W p l e (zRm 2 43) s m args below meth c H locs 0 0 (MQ below (zQi D Y F A G res) args s 0 0 A) (F0 m 32 ls []) := by
  obtain ⟨hx, hb, hml, hr, hown, hts, hK, hA, hlk, hN⟩ := id C0
  intro S h H locs ls hw hS hl
  unfold M_X12_strength_B32 at h
  refine lv_aload_n hx hb dX12_strength_32 rfl (lv_at hl 0 rfl) ?_
  refine lv_bipush (v := (-5)) hx hb dX12_strength_33 (by decide) ?_
  obtain ⟨w3, ew3, h⟩ := z_bd h
  refine z_callVi0 C0 hw hS (k := 0) (As := [.int (-5)]) (rest := []) rfl rfl rfl rfl (c_X12_no l D Y F G S _ (-5) w3 ew3) (cwV 1 hts gX12_strength_X12_no rfl rfl rfl (by decide +kernel) ⟨Nat.le_of_ble_eq_true rfl, Nat.le_of_ble_eq_true rfl⟩) rfl hl.1 rfl (Nat.le_of_ble_eq_true rfl) dX12_strength_35 ⟨Nat.zero_le _, Nat.zero_le _⟩ (fun H locs hw hS => ?_)
  exact z_reti C0 hw hS (Option.some.inj h) dX12_strength_38
def M_X12_strength (S : zSt) (x1 : Int32) (x2 : Int32) (x3 : Int32) : Option (Int32 × zSt) :=
  Option.bind (M_X12_isPerson S x1) (fun w1 => (if w1 = 0 then M_X12_strength_B32 S else Option.bind (M_X12_isCopy S x2) (fun w4 => (if w4 = 0 then M_X12_strength_B32 S else Option.bind (M_X12_isDeed S x3) (fun w6 => (if w6 = 0 then M_X12_strength_B32 S else Option.bind (M_X12_strengthOf S x1 x2 x3) (fun w8 => some (w8, S))))))))
set_option maxHeartbeats 4000000 in
set_option maxRecDepth 100000 in
theorem c_X12_strength (l : Launch) (D : va_G) (Y : Nat → ClassId) (F : Nat → Nat) (G : zG) (S : zSt) (sz : Nat) (x1 : Int32) (x2 : Int32) (x3 : Int32) (res : Int32 × zSt) (h : M_X12_strength S x1 x2 x3 = some res) : Met l yX12_strength wsX12_strength (zRm 2 43) (zPc D Y F G S sz [.ref (F 0), .int x1, .int x2, .int x3]) (zQi D Y F (zAo F G sz) G res) 0 0 (zAo F G sz) := by
  unfold M_X12_strength at h
  refine zMet (cc := cX12_strength) (maxL := 4) (ret := (some .int)) (own := RX12) (by decide +kernel) rfl rfl (Nat.le_of_ble_eq_true rfl) ?_
  intro p e s m args below meth c C0 hin hw hS ls hl
  have hl : lv_has ls 4 [(0, .ref (F 0)), (1, .int x1), (2, .int x2), (3, .int x3)] := hl
  generalize zAo F G sz = A at C0 hw hS ⊢
  obtain ⟨hx, hb, hml, hr, hown, hts, hK, hA, hlk, hN⟩ := id C0
  refine lv_aload_n hx hb dX12_strength_0 rfl (lv_at hl 0 rfl) ?_
  refine lv_iload_n hx hb dX12_strength_1 rfl (lv_at hl 1 rfl) ?_
  obtain ⟨w1, ew1, h⟩ := z_bd h
  refine z_callVip C0 hw hS (k := 0) (As := [.int x1]) (rest := []) rfl rfl rfl rfl (c_X12_isPerson l D Y F G S _ x1 w1 ew1) (cwV 1 hts gX12_strength_X12_isPerson rfl rfl rfl (by decide +kernel) ⟨Nat.le_of_ble_eq_true rfl, Nat.le_of_ble_eq_true rfl⟩) rfl hl.1 rfl (Nat.le_of_ble_eq_true rfl) dX12_strength_2 ⟨Nat.zero_le _, Nat.zero_le _⟩ (fun H locs hw hS => ?_)
  refine lv_if_eq (tgt := 32) hx hb dX12_strength_5 (by decide) (fun c2 => ?_) (fun c2 => ?_)
  · replace h := z_ifp c2 h
    exact t_X12_strength_B32 C0 res S h _ _ _ hw hS (lv_sub hl [0] rfl)
  · replace h := z_ifn c2 h
    refine lv_iload_n hx hb dX12_strength_8 rfl (lv_at hl 2 rfl) ?_
    obtain ⟨w4, ew4, h⟩ := z_bd h
    refine z_callSip C0 hw hS (As := [.int x2]) (rest := []) (c_X12_isCopy l D Y F G S _ x2 w4 ew4) (va_cwS 1 hts gX12_strength_X12_isCopy rfl rfl rfl (by decide +kernel) ⟨Nat.le_of_ble_eq_true rfl, Nat.le_of_ble_eq_true rfl⟩) rfl hl.1 rfl (Nat.le_of_ble_eq_true rfl) dX12_strength_9 ⟨Nat.zero_le _, Nat.zero_le _⟩ (fun H locs hw hS => ?_)
    refine lv_if_eq (tgt := 32) hx hb dX12_strength_12 (by decide) (fun c5 => ?_) (fun c5 => ?_)
    · replace h := z_ifp c5 h
      exact t_X12_strength_B32 C0 res S h _ _ _ hw hS (lv_sub hl [0] rfl)
    · replace h := z_ifn c5 h
      refine lv_iload_n hx hb dX12_strength_15 rfl (lv_at hl 3 rfl) ?_
      obtain ⟨w6, ew6, h⟩ := z_bd h
      refine z_callSip C0 hw hS (As := [.int x3]) (rest := []) (c_X12_isDeed l D Y F G S _ x3 w6 ew6) (va_cwS 1 hts gX12_strength_X12_isDeed rfl rfl rfl (by decide +kernel) ⟨Nat.le_of_ble_eq_true rfl, Nat.le_of_ble_eq_true rfl⟩) rfl hl.1 rfl (Nat.le_of_ble_eq_true rfl) dX12_strength_16 ⟨Nat.zero_le _, Nat.zero_le _⟩ (fun H locs hw hS => ?_)
      refine lv_if_eq (tgt := 32) hx hb dX12_strength_19 (by decide) (fun c7 => ?_) (fun c7 => ?_)
      · replace h := z_ifp c7 h
        exact t_X12_strength_B32 C0 res S h _ _ _ hw hS (lv_sub hl [0] rfl)
      · replace h := z_ifn c7 h
        refine lv_aload_n hx hb dX12_strength_22 rfl (lv_at hl 0 rfl) ?_
        refine lv_iload_n hx hb dX12_strength_23 rfl (lv_at hl 1 rfl) ?_
        refine lv_iload_n hx hb dX12_strength_24 rfl (lv_at hl 2 rfl) ?_
        refine lv_iload_n hx hb dX12_strength_25 rfl (lv_at hl 3 rfl) ?_
        obtain ⟨w8, ew8, h⟩ := z_bd h
        refine z_callVip C0 hw hS (k := 0) (As := [.int x1, .int x2, .int x3]) (rest := []) rfl rfl rfl rfl (c_X12_strengthOf l D Y F G S _ x1 x2 x3 w8 ew8) (cwV 3 hts gX12_strength_X12_strengthOf rfl rfl rfl (by decide +kernel) ⟨Nat.le_of_ble_eq_true rfl, Nat.le_of_ble_eq_true rfl⟩) rfl hl.1 rfl (Nat.le_of_ble_eq_true rfl) dX12_strength_26 ⟨Nat.zero_le _, Nat.zero_le _⟩ (fun H locs hw hS => ?_)
        refine lv_goto (tgt := 38) hx hb dX12_strength_29 (by decide) ?_
        exact z_reti C0 hw hS (Option.some.inj h) dX12_strength_38
def M_X12_drift_B29 (S : zSt) : Option (Int32 × zSt) :=
  Option.bind (M_X12_no S (-5)) (fun w3 => some ((w3.1 - 10000), w3.2))
set_option maxHeartbeats 4000000 in
set_option maxRecDepth 100000 in
theorem t_X12_drift_B29 {p : Program} {l : Launch} {e : Env} {s : State} {m : MethodId} {args : Array Value} {below : List Frame} {meth : Method} {c : Code} {D : va_G} {Y : Nat → ClassId} {F : Nat → Nat} {A : Nat → Prop} {G : zG} (C0 : zCx p s m args meth c D Y F A RX12 cX12_drift 3 (some .int) wsX12_drift) (res : Int32 × zSt) : ∀ (S : zSt), M_X12_drift_B29 S = some res → ∀ (H : Heap) (locs : List Loc) (ls : Array Slot), zH D Y F A G S H → va_S A s.heap H locs → lv_has ls 3 [(0, .ref (F 0))] → W p l e (zRm 2 43) s m args below meth c H locs 0 0 (MQ below (zQi D Y F A G res) args s 0 0 A) (F0 m 29 ls []) := by
  obtain ⟨hx, hb, hml, hr, hown, hts, hK, hA, hlk, hN⟩ := id C0
  intro S h H locs ls hw hS hl
  unfold M_X12_drift_B29 at h
  refine lv_aload_n hx hb dX12_drift_29 rfl (lv_at hl 0 rfl) ?_
  refine lv_bipush (v := (-5)) hx hb dX12_drift_30 (by decide) ?_
  obtain ⟨w3, ew3, h⟩ := z_bd h
  refine z_callVi0 C0 hw hS (k := 0) (As := [.int (-5)]) (rest := []) rfl rfl rfl rfl (c_X12_no l D Y F G S _ (-5) w3 ew3) (cwV 1 hts gX12_drift_X12_no rfl rfl rfl (by decide +kernel) ⟨Nat.le_of_ble_eq_true rfl, Nat.le_of_ble_eq_true rfl⟩) rfl hl.1 rfl (Nat.le_of_ble_eq_true rfl) dX12_drift_32 ⟨Nat.zero_le _, Nat.zero_le _⟩ (fun H locs hw hS => ?_)
  refine lv_sipush (v := 10000) hx hb dX12_drift_35 (by decide) ?_
  refine lv_isub hx hb dX12_drift_38 ?_
  exact z_reti C0 hw hS (Option.some.inj h) dX12_drift_39
def M_X12_drift (S : zSt) (x1 : Int32) (x2 : Int32) : Option (Int32 × zSt) :=
  Option.bind (M_X12_isPerson S x1) (fun w1 => (if w1 = 0 then M_X12_drift_B29 S else Option.bind (M_X12_isCopy S x2) (fun w4 => (if w4 = 0 then M_X12_drift_B29 S else zg (zin ((((6 : Int32) * x1) + x2)) 36) (some ((zar S 9 (Int32.toNatClampNeg ((((6 : Int32) * x1) + x2)))), S))))))
set_option maxHeartbeats 4000000 in
set_option maxRecDepth 100000 in
theorem c_X12_drift (l : Launch) (D : va_G) (Y : Nat → ClassId) (F : Nat → Nat) (G : zG) (S : zSt) (sz : Nat) (x1 : Int32) (x2 : Int32) (res : Int32 × zSt) (h : M_X12_drift S x1 x2 = some res) : Met l yX12_drift wsX12_drift (zRm 2 43) (zPc D Y F G S sz [.ref (F 0), .int x1, .int x2]) (zQi D Y F (zAo F G sz) G res) 0 0 (zAo F G sz) := by
  unfold M_X12_drift at h
  refine zMet (cc := cX12_drift) (maxL := 3) (ret := (some .int)) (own := RX12) (by decide +kernel) rfl rfl (Nat.le_of_ble_eq_true rfl) ?_
  intro p e s m args below meth c C0 hin hw hS ls hl
  have hl : lv_has ls 3 [(0, .ref (F 0)), (1, .int x1), (2, .int x2)] := hl
  generalize zAo F G sz = A at C0 hw hS ⊢
  obtain ⟨hx, hb, hml, hr, hown, hts, hK, hA, hlk, hN⟩ := id C0
  refine lv_aload_n hx hb dX12_drift_0 rfl (lv_at hl 0 rfl) ?_
  refine lv_iload_n hx hb dX12_drift_1 rfl (lv_at hl 1 rfl) ?_
  obtain ⟨w1, ew1, h⟩ := z_bd h
  refine z_callVip C0 hw hS (k := 0) (As := [.int x1]) (rest := []) rfl rfl rfl rfl (c_X12_isPerson l D Y F G S _ x1 w1 ew1) (cwV 1 hts gX12_drift_X12_isPerson rfl rfl rfl (by decide +kernel) ⟨Nat.le_of_ble_eq_true rfl, Nat.le_of_ble_eq_true rfl⟩) rfl hl.1 rfl (Nat.le_of_ble_eq_true rfl) dX12_drift_2 ⟨Nat.zero_le _, Nat.zero_le _⟩ (fun H locs hw hS => ?_)
  refine lv_if_eq (tgt := 29) hx hb dX12_drift_5 (by decide) (fun c2 => ?_) (fun c2 => ?_)
  · replace h := z_ifp c2 h
    exact t_X12_drift_B29 C0 res S h _ _ _ hw hS (lv_sub hl [0] rfl)
  · replace h := z_ifn c2 h
    refine lv_iload_n hx hb dX12_drift_8 rfl (lv_at hl 2 rfl) ?_
    obtain ⟨w4, ew4, h⟩ := z_bd h
    refine z_callSip C0 hw hS (As := [.int x2]) (rest := []) (c_X12_isCopy l D Y F G S _ x2 w4 ew4) (va_cwS 1 hts gX12_drift_X12_isCopy rfl rfl rfl (by decide +kernel) ⟨Nat.le_of_ble_eq_true rfl, Nat.le_of_ble_eq_true rfl⟩) rfl hl.1 rfl (Nat.le_of_ble_eq_true rfl) dX12_drift_9 ⟨Nat.zero_le _, Nat.zero_le _⟩ (fun H locs hw hS => ?_)
    refine lv_if_eq (tgt := 29) hx hb dX12_drift_12 (by decide) (fun c5 => ?_) (fun c5 => ?_)
    · replace h := z_ifp c5 h
      exact t_X12_drift_B29 C0 res S h _ _ _ hw hS (lv_sub hl [0] rfl)
    · replace h := z_ifn c5 h
      refine lv_aload_n hx hb dX12_drift_15 rfl (lv_at hl 0 rfl) ?_
      refine z_get C0 in_X12_drift_X12 (C := RX12) (T := TX12) (N := 27) hw (k := 0) (ci := 12) (v := .ref (F 9)) rfl rfl rfl rfl 9 (by decide) rfl 1 rfl dX12_drift_16 ?_
      refine lv_bipush (v := 6) hx hb dX12_drift_19 (by decide) ?_
      refine lv_iload_n hx hb dX12_drift_21 rfl (lv_at hl 1 rfl) ?_
      refine lv_imul hx hb dX12_drift_22 ?_
      refine lv_iload_n hx hb dX12_drift_23 rfl (lv_at hl 2 rfl) ?_
      refine lv_iadd hx hb dX12_drift_24 ?_
      obtain ⟨b6, h⟩ := z_gd h
      refine z_iald C0 hw 9 rfl rfl zri_9 (zin_in b6) dX12_drift_25 ?_
      refine lv_goto (tgt := 39) hx hb dX12_drift_26 (by decide) ?_
      exact z_reti C0 hw hS (Option.some.inj h) dX12_drift_39
def M_X12_loss (S : zSt) (x1 : Int32) (x2 : Int32) : Option (Int32 × zSt) :=
  Option.bind (M_X12_isPerson S x1) (fun w1 => (if w1 = 0 then Option.bind (M_X12_no S (-1)) (fun w7 => some (w7.1, w7.2)) else Option.bind (M_X12_within S x2 1 5) (fun w3 => (if w3 = 0 then Option.bind (M_X12_no S (-6)) (fun w5 => some (w5.1, w5.2)) else Option.bind (M_X12_lossAt S x1 x2) (fun w6 => some (w6, S))))))
set_option maxHeartbeats 4000000 in
set_option maxRecDepth 100000 in
theorem c_X12_loss (l : Launch) (D : va_G) (Y : Nat → ClassId) (F : Nat → Nat) (G : zG) (S : zSt) (sz : Nat) (x1 : Int32) (x2 : Int32) (res : Int32 × zSt) (h : M_X12_loss S x1 x2 = some res) : Met l yX12_loss wsX12_loss (zRm 2 43) (zPc D Y F G S sz [.ref (F 0), .int x1, .int x2]) (zQi D Y F (zAo F G sz) G res) 0 0 (zAo F G sz) := by
  unfold M_X12_loss at h
  refine zMet (cc := cX12_loss) (maxL := 3) (ret := (some .int)) (own := RX12) (by decide +kernel) rfl rfl (Nat.le_of_ble_eq_true rfl) ?_
  intro p e s m args below meth c C0 hin hw hS ls hl
  have hl : lv_has ls 3 [(0, .ref (F 0)), (1, .int x1), (2, .int x2)] := hl
  generalize zAo F G sz = A at C0 hw hS ⊢
  obtain ⟨hx, hb, hml, hr, hown, hts, hK, hA, hlk, hN⟩ := id C0
  refine lv_aload_n hx hb dX12_loss_0 rfl (lv_at hl 0 rfl) ?_
  refine lv_iload_n hx hb dX12_loss_1 rfl (lv_at hl 1 rfl) ?_
  obtain ⟨w1, ew1, h⟩ := z_bd h
  refine z_callVip C0 hw hS (k := 0) (As := [.int x1]) (rest := []) rfl rfl rfl rfl (c_X12_isPerson l D Y F G S _ x1 w1 ew1) (cwV 1 hts gX12_loss_X12_isPerson rfl rfl rfl (by decide +kernel) ⟨Nat.le_of_ble_eq_true rfl, Nat.le_of_ble_eq_true rfl⟩) rfl hl.1 rfl (Nat.le_of_ble_eq_true rfl) dX12_loss_2 ⟨Nat.zero_le _, Nat.zero_le _⟩ (fun H locs hw hS => ?_)
  refine lv_if_ne (tgt := 14) hx hb dX12_loss_5 (by decide) (fun c2 => ?_) (fun c2 => ?_)
  · replace h := z_ifn c2 h
    refine lv_iload_n hx hb dX12_loss_14 rfl (lv_at hl 2 rfl) ?_
    refine lv_iconst (v := 1) hx hb dX12_loss_15 (by decide) ?_
    refine lv_iconst (v := 5) hx hb dX12_loss_16 (by decide) ?_
    obtain ⟨w3, ew3, h⟩ := z_bd h
    refine z_callSip C0 hw hS (As := [.int x2, .int 1, .int 5]) (rest := []) (c_X12_within l D Y F G S _ x2 1 5 w3 ew3) (va_cwS 3 hts gX12_loss_X12_within rfl rfl rfl (by decide +kernel) ⟨Nat.le_of_ble_eq_true rfl, Nat.le_of_ble_eq_true rfl⟩) rfl hl.1 rfl (Nat.le_of_ble_eq_true rfl) dX12_loss_17 ⟨Nat.zero_le _, Nat.zero_le _⟩ (fun H locs hw hS => ?_)
    refine lv_if_eq (tgt := 32) hx hb dX12_loss_20 (by decide) (fun c4 => ?_) (fun c4 => ?_)
    · replace h := z_ifp c4 h
      refine lv_aload_n hx hb dX12_loss_32 rfl (lv_at hl 0 rfl) ?_
      refine lv_bipush (v := (-6)) hx hb dX12_loss_33 (by decide) ?_
      obtain ⟨w5, ew5, h⟩ := z_bd h
      refine z_callVi0 C0 hw hS (k := 0) (As := [.int (-6)]) (rest := []) rfl rfl rfl rfl (c_X12_no l D Y F G S _ (-6) w5 ew5) (cwV 1 hts gX12_loss_X12_no rfl rfl rfl (by decide +kernel) ⟨Nat.le_of_ble_eq_true rfl, Nat.le_of_ble_eq_true rfl⟩) rfl hl.1 rfl (Nat.le_of_ble_eq_true rfl) dX12_loss_35 ⟨Nat.zero_le _, Nat.zero_le _⟩ (fun H locs hw hS => ?_)
      exact z_reti C0 hw hS (Option.some.inj h) dX12_loss_38
    · replace h := z_ifn c4 h
      refine lv_aload_n hx hb dX12_loss_23 rfl (lv_at hl 0 rfl) ?_
      refine lv_iload_n hx hb dX12_loss_24 rfl (lv_at hl 1 rfl) ?_
      refine lv_iload_n hx hb dX12_loss_25 rfl (lv_at hl 2 rfl) ?_
      obtain ⟨w6, ew6, h⟩ := z_bd h
      refine z_callVip C0 hw hS (k := 0) (As := [.int x1, .int x2]) (rest := []) rfl rfl rfl rfl (c_X12_lossAt l D Y F G S _ x1 x2 w6 ew6) (cwV 2 hts gX12_loss_X12_lossAt rfl rfl rfl (by decide +kernel) ⟨Nat.le_of_ble_eq_true rfl, Nat.le_of_ble_eq_true rfl⟩) rfl hl.1 rfl (Nat.le_of_ble_eq_true rfl) dX12_loss_26 ⟨Nat.zero_le _, Nat.zero_le _⟩ (fun H locs hw hS => ?_)
      refine lv_goto (tgt := 38) hx hb dX12_loss_29 (by decide) ?_
      exact z_reti C0 hw hS (Option.some.inj h) dX12_loss_38
  · replace h := z_ifp c2 h
    refine lv_aload_n hx hb dX12_loss_8 rfl (lv_at hl 0 rfl) ?_
    refine lv_iconst (v := (-1)) hx hb dX12_loss_9 (by decide) ?_
    obtain ⟨w7, ew7, h⟩ := z_bd h
    refine z_callVi0 C0 hw hS (k := 0) (As := [.int (-1)]) (rest := []) rfl rfl rfl rfl (c_X12_no l D Y F G S _ (-1) w7 ew7) (cwV 1 hts gX12_loss_X12_no rfl rfl rfl (by decide +kernel) ⟨Nat.le_of_ble_eq_true rfl, Nat.le_of_ble_eq_true rfl⟩) rfl hl.1 rfl (Nat.le_of_ble_eq_true rfl) dX12_loss_10 ⟨Nat.zero_le _, Nat.zero_le _⟩ (fun H locs hw hS => ?_)
    exact z_reti C0 hw hS (Option.some.inj h) dX12_loss_13
def M_X12_sign (S : zSt) : Option (Int32) :=
  zg (zin ((zsc S 0 13)) 8) ((if (zar S 2 (Int32.toNatClampNeg ((zsc S 0 13)))) ≤ (zsc S 0 14) then some (-1) else zg (zin ((((160 : Int32) * (zsc S 0 13)) + (zsc S 0 14))) 1280) (some ((Int64.toInt32 ((zlo S 3 (Int32.toNatClampNeg ((((160 : Int32) * (zsc S 0 13)) + (zsc S 0 14)))))))))))
set_option maxHeartbeats 4000000 in
set_option maxRecDepth 100000 in
theorem c_X12_sign (l : Launch) (D : va_G) (Y : Nat → ClassId) (F : Nat → Nat) (G : zG) (S : zSt) (sz : Nat) (res : Int32) (h : M_X12_sign S = some res) : Met l yX12_sign wsX12_sign (zRm 0 0) (zPc D Y F G S sz [.ref (F 0)]) (zQi D Y F (zAo F G sz) G (res, S)) 0 0 (zAo F G sz) := by
  unfold M_X12_sign at h
  refine zMet (cc := cX12_sign) (maxL := 1) (ret := (some .int)) (own := RX12) (by decide +kernel) rfl rfl (Nat.le_of_ble_eq_true rfl) ?_
  intro p e s m args below meth c C0 hin hw hS ls hl
  have hl : lv_has ls 1 [(0, .ref (F 0))] := hl
  generalize zAo F G sz = A at C0 hw hS ⊢
  obtain ⟨hx, hb, hml, hr, hown, hts, hK, hA, hlk, hN⟩ := id C0
  refine lv_aload_n hx hb dX12_sign_0 rfl (lv_at hl 0 rfl) ?_
  refine z_get C0 in_X12_sign_X12 (C := RX12) (T := TX12) (N := 27) hw (k := 0) (ci := 12) (v := .int ((zsc S 0 14))) rfl rfl rfl rfl 14 (by decide) rfl 1 rfl dX12_sign_1 ?_
  refine lv_aload_n hx hb dX12_sign_4 rfl (lv_at hl 0 rfl) ?_
  refine z_get C0 in_X12_sign_X12 (C := RX12) (T := TX12) (N := 27) hw (k := 0) (ci := 12) (v := .ref (F 2)) rfl rfl rfl rfl 1 (by decide) rfl 2 rfl dX12_sign_5 ?_
  refine lv_aload_n hx hb dX12_sign_8 rfl (lv_at hl 0 rfl) ?_
  refine z_get C0 in_X12_sign_X12 (C := RX12) (T := TX12) (N := 27) hw (k := 0) (ci := 12) (v := .int ((zsc S 0 13))) rfl rfl rfl rfl 13 (by decide) rfl 3 rfl dX12_sign_9 ?_
  obtain ⟨b1, h⟩ := z_gd h
  refine z_iald C0 hw 2 rfl rfl zri_2 (zin_in b1) dX12_sign_12 ?_
  refine lv_icmp_ge (tgt := 38) hx hb dX12_sign_13 (by decide) (fun c2 => ?_) (fun c2 => ?_)
  · replace h := z_ifp c2 h
    refine lv_iconst (v := (-1)) hx hb dX12_sign_38 (by decide) ?_
    exact z_reti C0 hw hS (congrArg (fun z => (z, S)) (Option.some.inj h)) dX12_sign_39
  · replace h := z_ifn c2 h
    refine lv_aload_n hx hb dX12_sign_16 rfl (lv_at hl 0 rfl) ?_
    refine z_get C0 in_X12_sign_X12 (C := RX12) (T := TX12) (N := 27) hw (k := 0) (ci := 12) (v := .ref (F 3)) rfl rfl rfl rfl 2 (by decide) rfl 4 rfl dX12_sign_17 ?_
    refine lv_sipush (v := 160) hx hb dX12_sign_20 (by decide) ?_
    refine lv_aload_n hx hb dX12_sign_23 rfl (lv_at hl 0 rfl) ?_
    refine z_get C0 in_X12_sign_X12 (C := RX12) (T := TX12) (N := 27) hw (k := 0) (ci := 12) (v := .int ((zsc S 0 13))) rfl rfl rfl rfl 13 (by decide) rfl 3 rfl dX12_sign_24 ?_
    refine lv_imul hx hb dX12_sign_27 ?_
    refine lv_aload_n hx hb dX12_sign_28 rfl (lv_at hl 0 rfl) ?_
    refine z_get C0 in_X12_sign_X12 (C := RX12) (T := TX12) (N := 27) hw (k := 0) (ci := 12) (v := .int ((zsc S 0 14))) rfl rfl rfl rfl 14 (by decide) rfl 1 rfl dX12_sign_29 ?_
    refine lv_iadd hx hb dX12_sign_32 ?_
    obtain ⟨b3, h⟩ := z_gd h
    refine z_lald C0 hw 3 rfl rfl zri_3 (zin_in b3) dX12_sign_33 ?_
    refine lv_l2i (v := (Int64.toInt32 ((zlo S 3 (Int32.toNatClampNeg ((((160 : Int32) * (zsc S 0 13)) + (zsc S 0 14)))))))) hx hb dX12_sign_34 rfl ?_
    refine lv_goto (tgt := 39) hx hb dX12_sign_35 (by decide) ?_
    exact z_reti C0 hw hS (congrArg (fun z => (z, S)) (Option.some.inj h)) dX12_sign_39
def M_X12_is (S : zSt) (x1 : Int32) : Option (Int32 × zSt) :=
  Option.bind (M_X12_sign S) (fun w1 => (if w1 = x1 then some (1, (zP S 0 14 (((zsc S 0 14) + 1)))) else some (0, S)))
set_option maxHeartbeats 4000000 in
set_option maxRecDepth 100000 in
theorem c_X12_is (l : Launch) (D : va_G) (Y : Nat → ClassId) (F : Nat → Nat) (G : zG) (S : zSt) (sz : Nat) (x1 : Int32) (res : Int32 × zSt) (h : M_X12_is S x1 = some res) : Met l yX12_is wsX12_is (zRm 1 20) (zPc D Y F G S sz [.ref (F 0), .int x1]) (zQi D Y F (zAo F G sz) G res) 0 0 (zAo F G sz) := by
  unfold M_X12_is at h
  refine zMet (cc := cX12_is) (maxL := 2) (ret := (some .boolean)) (own := RX12) (by decide +kernel) rfl rfl (Nat.le_of_ble_eq_true rfl) ?_
  intro p e s m args below meth c C0 hin hw hS ls hl
  have hl : lv_has ls 2 [(0, .ref (F 0)), (1, .int x1)] := hl
  generalize zAo F G sz = A at C0 hw hS ⊢
  obtain ⟨hx, hb, hml, hr, hown, hts, hK, hA, hlk, hN⟩ := id C0
  refine lv_aload_n hx hb dX12_is_0 rfl (lv_at hl 0 rfl) ?_
  obtain ⟨w1, ew1, h⟩ := z_bd h
  refine z_callVip C0 hw hS (k := 0) (As := []) (rest := []) rfl rfl rfl rfl (c_X12_sign l D Y F G S _ w1 ew1) (cwV 0 hts gX12_is_X12_sign rfl rfl rfl (by decide +kernel) ⟨Nat.le_of_ble_eq_true rfl, Nat.le_of_ble_eq_true rfl⟩) rfl hl.1 rfl (Nat.le_of_ble_eq_true rfl) dX12_is_1 ⟨Nat.zero_le _, Nat.zero_le _⟩ (fun H locs hw hS => ?_)
  refine lv_iload_n hx hb dX12_is_4 rfl (lv_at hl 1 rfl) ?_
  refine lv_icmp_eq (tgt := 10) hx hb dX12_is_5 (by decide) (fun c2 => ?_) (fun c2 => ?_)
  · replace h := z_ifp c2 h
    refine lv_aload_n hx hb dX12_is_10 rfl (lv_at hl 0 rfl) ?_
    refine lv_dup hx hb dX12_is_11 rfl ?_
    refine z_get C0 in_X12_is_X12 (C := RX12) (T := TX12) (N := 27) hw (k := 0) (ci := 12) (v := .int ((zsc S 0 14))) rfl rfl rfl rfl 14 (by decide) rfl 1 rfl dX12_is_12 ?_
    refine lv_iconst (v := 1) hx hb dX12_is_15 (by decide) ?_
    refine lv_iadd hx hb dX12_is_16 ?_
    refine z_put C0 in_X12_is_X12 tyX12 tyX12_ok nmX12 (C := RX12) (T := TX12) (N := 27) hw hS (k := 0) (ci := 12) (v := ((zsc S 0 14) + 1)) (ty := .int) rfl rfl rfl rfl 14 (by decide) 1 rfl rfl rfl rfl rfl (Nat.le_of_ble_eq_true rfl) rfl dX12_is_17 (fun H locs hw hS => ?_)
    refine lv_iconst (v := 1) hx hb dX12_is_20 (by decide) ?_
    exact z_retz C0 hw hS rfl (Option.some.inj h) dX12_is_21
  · replace h := z_ifn c2 h
    refine lv_iconst (v := 0) hx hb dX12_is_8 (by decide) ?_
    exact z_retz C0 hw hS rfl (Option.some.inj h) dX12_is_9
def M_X12_number_B77 (S : zSt) (x1 : Int32) (x2 : Int32) (x3 : Int32) (x4 : Int32) (x5 : Int32) : Option (Int32 × zSt) :=
  (if (zsc S 0 14) = x4 then some (0, S) else zg (zin x1 3) (Option.bind (M_X12_within ((zAs S 11 (Int32.toNatClampNeg x1) x5)) x5 x2 x3) (fun w6 => (if w6 = 0 then zg (decide ((w6 &&& 1) = w6)) (some (w6, (zP ((zAs S 11 (Int32.toNatClampNeg x1) x5)) 0 14 x4))) else zg (decide ((w6 &&& 1) = w6)) (some (w6, (zAs S 11 (Int32.toNatClampNeg x1) x5)))))))
set_option maxHeartbeats 4000000 in
set_option maxRecDepth 100000 in
theorem t_X12_number_B77 {p : Program} {l : Launch} {e : Env} {s : State} {m : MethodId} {args : Array Value} {below : List Frame} {meth : Method} {c : Code} {D : va_G} {Y : Nat → ClassId} {F : Nat → Nat} {A : Nat → Prop} {G : zG} (C0 : zCx p s m args meth c D Y F A RX12 cX12_number 7 (some .boolean) wsX12_number) (res : Int32 × zSt) : ∀ (S : zSt) (x1 : Int32) (x2 : Int32) (x3 : Int32) (x4 : Int32) (x5 : Int32), M_X12_number_B77 S x1 x2 x3 x4 x5 = some res → ∀ (H : Heap) (locs : List Loc) (ls : Array Slot), zH D Y F A G S H → va_S A s.heap H locs → lv_has ls 7 [(0, .ref (F 0)), (1, .int x1), (2, .int x2), (3, .int x3), (4, .int x4), (5, .int x5)] → W p l e (zRm 2 41) s m args below meth c H locs 0 0 (MQ below (zQi D Y F A G res) args s 0 0 A) (F0 m 77 ls []) := by
  obtain ⟨hx, hb, hml, hr, hown, hts, hK, hA, hlk, hN⟩ := id C0
  intro S x1 x2 x3 x4 x5 h H locs ls hw hS hl
  unfold M_X12_number_B77 at h
  refine lv_aload_n hx hb dX12_number_77 rfl (lv_at hl 0 rfl) ?_
  refine z_get C0 in_X12_number_X12 (C := RX12) (T := TX12) (N := 27) hw (k := 0) (ci := 12) (v := .int ((zsc S 0 14))) rfl rfl rfl rfl 14 (by decide) rfl 1 rfl dX12_number_78 ?_
  refine lv_iload hx hb dX12_number_81 (lv_at hl 4 rfl) ?_
  refine lv_icmp_ne (tgt := 88) hx hb dX12_number_83 (by decide) (fun c4 => ?_) (fun c4 => ?_)
  · replace h := z_ifn c4 h
    refine lv_aload_n hx hb dX12_number_88 rfl (lv_at hl 0 rfl) ?_
    refine z_get C0 in_X12_number_X12 (C := RX12) (T := TX12) (N := 27) hw (k := 0) (ci := 12) (v := .ref (F 11)) rfl rfl rfl rfl 16 (by decide) rfl 2 rfl dX12_number_89 ?_
    refine lv_iload_n hx hb dX12_number_92 rfl (lv_at hl 1 rfl) ?_
    refine lv_iload hx hb dX12_number_93 (lv_at hl 5 rfl) ?_
    obtain ⟨b5, h⟩ := z_gd h
    refine z_iasts C0 hw hS 11 rfl rfl zri_11 (zin_in b5) dX12_number_95 (fun H locs hw hS => ?_)
    refine lv_iload hx hb dX12_number_96 (lv_at hl 5 rfl) ?_
    refine lv_iload_n hx hb dX12_number_98 rfl (lv_at hl 2 rfl) ?_
    refine lv_iload_n hx hb dX12_number_99 rfl (lv_at hl 3 rfl) ?_
    obtain ⟨w6, ew6, h⟩ := z_bd h
    refine z_callSip C0 hw hS (As := [.int x5, .int x2, .int x3]) (rest := []) (c_X12_within l D Y F G ((zAs S 11 (Int32.toNatClampNeg x1) x5)) _ x5 x2 x3 w6 ew6) (va_cwS 3 hts gX12_number_X12_within rfl rfl rfl (by decide +kernel) ⟨Nat.le_of_ble_eq_true rfl, Nat.le_of_ble_eq_true rfl⟩) rfl hl.1 rfl (Nat.le_of_ble_eq_true rfl) dX12_number_100 ⟨Nat.zero_le _, Nat.zero_le _⟩ (fun H locs hw hS => ?_)
    refine lv_istore (lv' := [(6, .int w6), (0, .ref (F 0)), (1, .int x1), (2, .int x2), (3, .int x3), (4, .int x4), (5, .int x5)]) hx hb dX12_number_103 hl (by decide) rfl (fun ls hl => ?_)
    refine lv_iload hx hb dX12_number_105 (lv_at hl 0 rfl) ?_
    refine lv_if_ne (tgt := 116) hx hb dX12_number_107 (by decide) (fun c7 => ?_) (fun c7 => ?_)
    · replace h := z_ifn c7 h
      refine lv_iload hx hb dX12_number_116 (lv_at hl 0 rfl) ?_
      obtain ⟨b8, h⟩ := z_gd h
      exact z_retz C0 hw hS (congrArg Value.int (of_decide_eq_true b8)) (Option.some.inj h) dX12_number_118
    · replace h := z_ifp c7 h
      refine lv_aload_n hx hb dX12_number_110 rfl (lv_at hl 1 rfl) ?_
      refine lv_iload hx hb dX12_number_111 (lv_at hl 5 rfl) ?_
      refine z_put C0 in_X12_number_X12 tyX12 tyX12_ok nmX12 (C := RX12) (T := TX12) (N := 27) hw hS (k := 0) (ci := 12) (v := x4) (ty := .int) rfl rfl rfl rfl 14 (by decide) 1 rfl rfl rfl rfl rfl (Nat.le_of_ble_eq_true rfl) rfl dX12_number_113 (fun H locs hw hS => ?_)
      refine lv_iload hx hb dX12_number_116 (lv_at hl 0 rfl) ?_
      obtain ⟨b9, h⟩ := z_gd h
      exact z_retz C0 hw hS (congrArg Value.int (of_decide_eq_true b9)) (Option.some.inj h) dX12_number_118
  · replace h := z_ifp c4 h
    refine lv_iconst (v := 0) hx hb dX12_number_86 (by decide) ?_
    exact z_retz C0 hw hS rfl (Option.some.inj h) dX12_number_87
def M_X12_number_B20 : Nat → zSt → Int32 → Int32 → Int32 → Int32 → Int32 → Option (Int32 × zSt)
  | 0, _, _, _, _, _, _ => none
  | n + 1, S, x1, x2, x3, x4, x5 =>
  (if 2 ≤ ((zsc S 0 14) - x4) then M_X12_number_B77 S x1 x2 x3 x4 x5 else Option.bind (M_X12_sign S) (fun w10 => (if w10 < 48 then M_X12_number_B77 S x1 x2 x3 x4 x5 else Option.bind (M_X12_sign S) (fun w12 => (if 57 < w12 then M_X12_number_B77 S x1 x2 x3 x4 x5 else Option.bind (M_X12_sign S) (fun w14 => Option.bind (some (((((10 : Int32) * x5) + w14) - 48))) (fun v15 => M_X12_number_B20 n ((zP S 0 14 (((zsc S 0 14) + 1)))) x1 x2 x3 x4 v15)))))))
set_option maxHeartbeats 4000000 in
set_option maxRecDepth 100000 in
theorem t_X12_number_B20 {p : Program} {l : Launch} {e : Env} {s : State} {m : MethodId} {args : Array Value} {below : List Frame} {meth : Method} {c : Code} {D : va_G} {Y : Nat → ClassId} {F : Nat → Nat} {A : Nat → Prop} {G : zG} (C0 : zCx p s m args meth c D Y F A RX12 cX12_number 7 (some .boolean) wsX12_number) (res : Int32 × zSt) : ∀ (n : Nat), ∀ (S : zSt) (x1 : Int32) (x2 : Int32) (x3 : Int32) (x4 : Int32) (x5 : Int32), M_X12_number_B20 n S x1 x2 x3 x4 x5 = some res → ∀ (H : Heap) (locs : List Loc) (ls : Array Slot), zH D Y F A G S H → va_S A s.heap H locs → lv_has ls 7 [(0, .ref (F 0)), (1, .int x1), (2, .int x2), (3, .int x3), (4, .int x4), (5, .int x5)] → W p l e (zRm 2 41) s m args below meth c H locs 0 0 (MQ below (zQi D Y F A G res) args s 0 0 A) (F0 m 20 ls []) := by
  obtain ⟨hx, hb, hml, hr, hown, hts, hK, hA, hlk, hN⟩ := id C0
  intro n
  induction n with
  | zero =>
    intro S x1 x2 x3 x4 x5 h
    unfold M_X12_number_B20 at h
    cases h
  | succ n ih =>
    intro S x1 x2 x3 x4 x5 h H locs ls hw hS hl
    rw [M_X12_number_B20] at h
    refine lv_aload_n hx hb dX12_number_20 rfl (lv_at hl 0 rfl) ?_
    refine z_get C0 in_X12_number_X12 (C := RX12) (T := TX12) (N := 27) hw (k := 0) (ci := 12) (v := .int ((zsc S 0 14))) rfl rfl rfl rfl 14 (by decide) rfl 1 rfl dX12_number_21 ?_
    refine lv_iload hx hb dX12_number_24 (lv_at hl 4 rfl) ?_
    refine lv_isub hx hb dX12_number_26 ?_
    refine lv_iconst (v := 2) hx hb dX12_number_27 (by decide) ?_
    refine lv_icmp_ge (tgt := 77) hx hb dX12_number_28 (by decide) (fun c3 => ?_) (fun c3 => ?_)
    · replace h := z_ifp c3 h
      exact t_X12_number_B77 C0 res S x1 x2 x3 x4 x5 h _ _ _ hw hS (lv_sub hl [0, 1, 2, 3, 4, 5] rfl)
    · replace h := z_ifn c3 h
      refine lv_aload_n hx hb dX12_number_31 rfl (lv_at hl 0 rfl) ?_
      obtain ⟨w10, ew10, h⟩ := z_bd h
      refine z_callVip C0 hw hS (k := 0) (As := []) (rest := []) rfl rfl rfl rfl (c_X12_sign l D Y F G S _ w10 ew10) (cwV 0 hts gX12_number_X12_sign rfl rfl rfl (by decide +kernel) ⟨Nat.le_of_ble_eq_true rfl, Nat.le_of_ble_eq_true rfl⟩) rfl hl.1 rfl (Nat.le_of_ble_eq_true rfl) dX12_number_32 ⟨Nat.zero_le _, Nat.zero_le _⟩ (fun H locs hw hS => ?_)
      refine lv_bipush (v := 48) hx hb dX12_number_35 (by decide) ?_
      refine lv_icmp_lt (tgt := 77) hx hb dX12_number_37 (by decide) (fun c11 => ?_) (fun c11 => ?_)
      · replace h := z_ifp c11 h
        exact t_X12_number_B77 C0 res S x1 x2 x3 x4 x5 h _ _ _ hw hS (lv_sub hl [0, 1, 2, 3, 4, 5] rfl)
      · replace h := z_ifn c11 h
        refine lv_aload_n hx hb dX12_number_40 rfl (lv_at hl 0 rfl) ?_
        obtain ⟨w12, ew12, h⟩ := z_bd h
        refine z_callVip C0 hw hS (k := 0) (As := []) (rest := []) rfl rfl rfl rfl (c_X12_sign l D Y F G S _ w12 ew12) (cwV 0 hts gX12_number_X12_sign rfl rfl rfl (by decide +kernel) ⟨Nat.le_of_ble_eq_true rfl, Nat.le_of_ble_eq_true rfl⟩) rfl hl.1 rfl (Nat.le_of_ble_eq_true rfl) dX12_number_41 ⟨Nat.zero_le _, Nat.zero_le _⟩ (fun H locs hw hS => ?_)
        refine lv_bipush (v := 57) hx hb dX12_number_44 (by decide) ?_
        refine lv_icmp_gt (tgt := 77) hx hb dX12_number_46 (by decide) (fun c13 => ?_) (fun c13 => ?_)
        · replace h := z_ifp c13 h
          exact t_X12_number_B77 C0 res S x1 x2 x3 x4 x5 h _ _ _ hw hS (lv_sub hl [0, 1, 2, 3, 4, 5] rfl)
        · replace h := z_ifn c13 h
          refine lv_bipush (v := 10) hx hb dX12_number_49 (by decide) ?_
          refine lv_iload hx hb dX12_number_51 (lv_at hl 5 rfl) ?_
          refine lv_imul hx hb dX12_number_53 ?_
          refine lv_aload_n hx hb dX12_number_54 rfl (lv_at hl 0 rfl) ?_
          obtain ⟨w14, ew14, h⟩ := z_bd h
          refine z_callVip C0 hw hS (k := 0) (As := []) (rest := [.int (((10 : Int32) * x5))]) rfl rfl rfl rfl (c_X12_sign l D Y F G S _ w14 ew14) (cwV 0 hts gX12_number_X12_sign rfl rfl rfl (by decide +kernel) ⟨Nat.le_of_ble_eq_true rfl, Nat.le_of_ble_eq_true rfl⟩) rfl hl.1 rfl (Nat.le_of_ble_eq_true rfl) dX12_number_55 ⟨Nat.zero_le _, Nat.zero_le _⟩ (fun H locs hw hS => ?_)
          refine lv_iadd hx hb dX12_number_58 ?_
          refine lv_bipush (v := 48) hx hb dX12_number_59 (by decide) ?_
          refine lv_isub hx hb dX12_number_61 ?_
          obtain ⟨v15, ev15, h⟩ := z_bd h
          refine z_top (Option.some.inj ev15) ?_
          refine lv_istore (lv' := [(5, .int v15), (0, .ref (F 0)), (1, .int x1), (2, .int x2), (3, .int x3), (4, .int x4)]) hx hb dX12_number_62 hl (by decide) rfl (fun ls hl => ?_)
          refine lv_aload_n hx hb dX12_number_64 rfl (lv_at hl 1 rfl) ?_
          refine lv_dup hx hb dX12_number_65 rfl ?_
          refine z_get C0 in_X12_number_X12 (C := RX12) (T := TX12) (N := 27) hw (k := 0) (ci := 12) (v := .int ((zsc S 0 14))) rfl rfl rfl rfl 14 (by decide) rfl 1 rfl dX12_number_66 ?_
          refine lv_iconst (v := 1) hx hb dX12_number_69 (by decide) ?_
          refine lv_iadd hx hb dX12_number_70 ?_
          refine z_put C0 in_X12_number_X12 tyX12 tyX12_ok nmX12 (C := RX12) (T := TX12) (N := 27) hw hS (k := 0) (ci := 12) (v := ((zsc S 0 14) + 1)) (ty := .int) rfl rfl rfl rfl 14 (by decide) 1 rfl rfl rfl rfl rfl (Nat.le_of_ble_eq_true rfl) rfl dX12_number_71 (fun H locs hw hS => ?_)
          refine lv_goto (tgt := 20) hx hb dX12_number_74 (by decide) ?_
          exact ih ((zP S 0 14 (((zsc S 0 14) + 1)))) x1 x2 x3 x4 v15 h _ _ _ hw hS (lv_sub hl [1, 2, 3, 4, 5, 0] rfl)
def M_X12_number (S : zSt) (x1 : Int32) (x2 : Int32) (x3 : Int32) : Option (Int32 × zSt) :=
  Option.bind (M_X12_is S 32) (fun w1 => (if w1.1 = 0 then some (0, w1.2) else M_X12_number_B20 zF w1.2 x1 x2 x3 ((zsc w1.2 0 14)) 0))
set_option maxHeartbeats 4000000 in
set_option maxRecDepth 100000 in
theorem c_X12_number (l : Launch) (D : va_G) (Y : Nat → ClassId) (F : Nat → Nat) (G : zG) (S : zSt) (sz : Nat) (x1 : Int32) (x2 : Int32) (x3 : Int32) (res : Int32 × zSt) (h : M_X12_number S x1 x2 x3 = some res) : Met l yX12_number wsX12_number (zRm 2 41) (zPc D Y F G S sz [.ref (F 0), .int x1, .int x2, .int x3]) (zQi D Y F (zAo F G sz) G res) 0 0 (zAo F G sz) := by
  unfold M_X12_number at h
  refine zMet (cc := cX12_number) (maxL := 7) (ret := (some .boolean)) (own := RX12) (by decide +kernel) rfl rfl (Nat.le_of_ble_eq_true rfl) ?_
  intro p e s m args below meth c C0 hin hw hS ls hl
  have hl : lv_has ls 7 [(0, .ref (F 0)), (1, .int x1), (2, .int x2), (3, .int x3)] := hl
  generalize zAo F G sz = A at C0 hw hS ⊢
  obtain ⟨hx, hb, hml, hr, hown, hts, hK, hA, hlk, hN⟩ := id C0
  refine lv_aload_n hx hb dX12_number_0 rfl (lv_at hl 0 rfl) ?_
  refine lv_bipush (v := 32) hx hb dX12_number_1 (by decide) ?_
  obtain ⟨w1, ew1, h⟩ := z_bd h
  refine z_callVi0 C0 hw hS (k := 0) (As := [.int 32]) (rest := []) rfl rfl rfl rfl (c_X12_is l D Y F G S _ 32 w1 ew1) (cwV 1 hts gX12_number_X12_is rfl rfl rfl (by decide +kernel) ⟨Nat.le_of_ble_eq_true rfl, Nat.le_of_ble_eq_true rfl⟩) rfl hl.1 rfl (Nat.le_of_ble_eq_true rfl) dX12_number_3 ⟨Nat.zero_le _, Nat.zero_le _⟩ (fun H locs hw hS => ?_)
  refine lv_if_ne (tgt := 11) hx hb dX12_number_6 (by decide) (fun c2 => ?_) (fun c2 => ?_)
  · replace h := z_ifn c2 h
    refine lv_aload_n hx hb dX12_number_11 rfl (lv_at hl 0 rfl) ?_
    refine z_get C0 in_X12_number_X12 (C := RX12) (T := TX12) (N := 27) hw (k := 0) (ci := 12) (v := .int ((zsc w1.2 0 14))) rfl rfl rfl rfl 14 (by decide) rfl 1 rfl dX12_number_12 ?_
    refine lv_istore (lv' := [(4, .int ((zsc w1.2 0 14))), (0, .ref (F 0)), (1, .int x1), (2, .int x2), (3, .int x3)]) hx hb dX12_number_15 hl (by decide) rfl (fun ls hl => ?_)
    refine lv_iconst (v := 0) hx hb dX12_number_17 (by decide) ?_
    refine lv_istore (lv' := [(5, .int 0), (4, .int ((zsc w1.2 0 14))), (0, .ref (F 0)), (1, .int x1), (2, .int x2), (3, .int x3)]) hx hb dX12_number_18 hl (by decide) rfl (fun ls hl => ?_)
    exact t_X12_number_B20 C0 res zF w1.2 x1 x2 x3 ((zsc w1.2 0 14)) 0 h _ _ _ hw hS (lv_sub hl [2, 3, 4, 5, 1, 0] rfl)
  · replace h := z_ifp c2 h
    refine lv_iconst (v := 0) hx hb dX12_number_9 (by decide) ?_
    exact z_retz C0 hw hS rfl (Option.some.inj h) dX12_number_10
def M_X12_stands (S : zSt) (x1 : Int32) (x2 : Int32) : Option (Int32 × zSt) :=
  (if x2 = 0 then zg (decide ((x2 &&& 1) = x2)) (some (x2, (zP S 0 14 x1))) else zg (decide ((x2 &&& 1) = x2)) (some (x2, S)))
set_option maxHeartbeats 4000000 in
set_option maxRecDepth 100000 in
theorem c_X12_stands (l : Launch) (D : va_G) (Y : Nat → ClassId) (F : Nat → Nat) (G : zG) (S : zSt) (sz : Nat) (x1 : Int32) (x2 : Int32) (res : Int32 × zSt) (h : M_X12_stands S x1 x2 = some res) : Met l yX12_stands wsX12_stands (zRm 0 0) (zPc D Y F G S sz [.ref (F 0), .int x1, .int x2]) (zQi D Y F (zAo F G sz) G res) 0 0 (zAo F G sz) := by
  unfold M_X12_stands at h
  refine zMet (cc := cX12_stands) (maxL := 3) (ret := (some .boolean)) (own := RX12) (by decide +kernel) rfl rfl (Nat.le_of_ble_eq_true rfl) ?_
  intro p e s m args below meth c C0 hin hw hS ls hl
  have hl : lv_has ls 3 [(0, .ref (F 0)), (1, .int x1), (2, .int x2)] := hl
  generalize zAo F G sz = A at C0 hw hS ⊢
  obtain ⟨hx, hb, hml, hr, hown, hts, hK, hA, hlk, hN⟩ := id C0
  refine lv_iload_n hx hb dX12_stands_0 rfl (lv_at hl 2 rfl) ?_
  refine lv_if_ne (tgt := 9) hx hb dX12_stands_1 (by decide) (fun c1 => ?_) (fun c1 => ?_)
  · replace h := z_ifn c1 h
    refine lv_iload_n hx hb dX12_stands_9 rfl (lv_at hl 2 rfl) ?_
    obtain ⟨b2, h⟩ := z_gd h
    exact z_retz C0 hw hS (congrArg Value.int (of_decide_eq_true b2)) (Option.some.inj h) dX12_stands_10
  · replace h := z_ifp c1 h
    refine lv_aload_n hx hb dX12_stands_4 rfl (lv_at hl 0 rfl) ?_
    refine lv_iload_n hx hb dX12_stands_5 rfl (lv_at hl 1 rfl) ?_
    refine z_put C0 in_X12_stands_X12 tyX12 tyX12_ok nmX12 (C := RX12) (T := TX12) (N := 27) hw hS (k := 0) (ci := 12) (v := x1) (ty := .int) rfl rfl rfl rfl 14 (by decide) 1 rfl rfl rfl rfl rfl (Nat.le_of_ble_eq_true rfl) rfl dX12_stands_6 (fun H locs hw hS => ?_)
    refine lv_iload_n hx hb dX12_stands_9 rfl (lv_at hl 2 rfl) ?_
    obtain ⟨b3, h⟩ := z_gd h
    exact z_retz C0 hw hS (congrArg Value.int (of_decide_eq_true b3)) (Option.some.inj h) dX12_stands_10
def M_X12_fault (S : zSt) : Option (Int32) :=
  some ((zsc S 0 15))
set_option maxHeartbeats 4000000 in
set_option maxRecDepth 100000 in
theorem c_X12_fault (l : Launch) (D : va_G) (Y : Nat → ClassId) (F : Nat → Nat) (G : zG) (S : zSt) (sz : Nat) (res : Int32) (h : M_X12_fault S = some res) : Met l yX12_fault wsX12_fault (zRm 0 0) (zPc D Y F G S sz [.ref (F 0)]) (zQi D Y F (zAo F G sz) G (res, S)) 0 0 (zAo F G sz) := by
  unfold M_X12_fault at h
  refine zMet (cc := cX12_fault) (maxL := 1) (ret := (some .int)) (own := RX12) (by decide +kernel) rfl rfl (Nat.le_of_ble_eq_true rfl) ?_
  intro p e s m args below meth c C0 hin hw hS ls hl
  have hl : lv_has ls 1 [(0, .ref (F 0))] := hl
  generalize zAo F G sz = A at C0 hw hS ⊢
  obtain ⟨hx, hb, hml, hr, hown, hts, hK, hA, hlk, hN⟩ := id C0
  refine lv_aload_n hx hb dX12_fault_0 rfl (lv_at hl 0 rfl) ?_
  refine z_get C0 in_X12_fault_X12 (C := RX12) (T := TX12) (N := 27) hw (k := 0) (ci := 12) (v := .int ((zsc S 0 15))) rfl rfl rfl rfl 15 (by decide) rfl 1 rfl dX12_fault_1 ?_
  exact z_reti C0 hw hS (congrArg (fun z => (z, S)) (Option.some.inj h)) dX12_fault_4
def M_X12_gives_B70 (K31 : zSt → Int32 → Int32 → Int32 → Option (zSt)) (S : zSt) (x1 : Int32) (x3 : Int32) (x4 : Int32) : Option (zSt) :=
  zg (zin x4 6) (K31 ((zAs S 16 (Int32.toNatClampNeg x4) x3)) x1 x3 ((x4 + 1)))
set_option maxHeartbeats 4000000 in
set_option maxRecDepth 100000 in
theorem t_X12_gives_B70 {p : Program} {l : Launch} {e : Env} {s : State} {m : MethodId} {args : Array Value} {below : List Frame} {meth : Method} {c : Code} {D : va_G} {Y : Nat → ClassId} {F : Nat → Nat} {A : Nat → Prop} {G : zG} (C0 : zCx p s m args meth c D Y F A RX12 cX12_gives 5 none wsX12_gives) (res : zSt) (K31 : zSt → Int32 → Int32 → Int32 → Option (zSt)) (hK31 : ∀ (S : zSt) (x1 : Int32) (x3 : Int32) (x4 : Int32), K31 S x1 x3 x4 = some res → ∀ (H : Heap) (locs : List Loc) (ls : Array Slot), zH D Y F A G S H → va_S A s.heap H locs → lv_has ls 5 [(0, .ref (F 0)), (1, .int x1), (3, .int x3), (4, .int x4)] → W p l e (zRm 1 24) s m args below meth c H locs 0 0 (MQ below (zQv D Y F A G res) args s 0 0 A) (F0 m 31 ls [])) : ∀ (S : zSt) (x1 : Int32) (x3 : Int32) (x4 : Int32), M_X12_gives_B70 K31 S x1 x3 x4 = some res → ∀ (H : Heap) (locs : List Loc) (ls : Array Slot), zH D Y F A G S H → va_S A s.heap H locs → lv_has ls 5 [(0, .ref (F 0)), (1, .int x1), (3, .int x3), (4, .int x4)] → W p l e (zRm 1 24) s m args below meth c H locs 0 0 (MQ below (zQv D Y F A G res) args s 0 0 A) (F0 m 70 ls []) := by
  obtain ⟨hx, hb, hml, hr, hown, hts, hK, hA, hlk, hN⟩ := id C0
  intro S x1 x3 x4 h H locs ls hw hS hl
  unfold M_X12_gives_B70 at h
  refine lv_aload_n hx hb dX12_gives_70 rfl (lv_at hl 0 rfl) ?_
  refine z_get C0 in_X12_gives_X12 (C := RX12) (T := TX12) (N := 27) hw (k := 0) (ci := 12) (v := .ref (F 16)) rfl rfl rfl rfl 23 (by decide) rfl 1 rfl dX12_gives_71 ?_
  refine lv_iload hx hb dX12_gives_74 (lv_at hl 3 rfl) ?_
  refine lv_iload_n hx hb dX12_gives_76 rfl (lv_at hl 2 rfl) ?_
  obtain ⟨b7, h⟩ := z_gd h
  refine z_iasts C0 hw hS 16 rfl rfl zri_16 (zin_in b7) dX12_gives_77 (fun H locs hw hS => ?_)
  refine lv_iinc (v := (x4 + 1)) (lv' := [(4, .int ((x4 + 1))), (0, .ref (F 0)), (1, .int x1), (3, .int x3)]) hx hb dX12_gives_78 hl (k := 3) rfl rfl (by decide) rfl (fun ls hl => ?_)
  refine lv_goto (tgt := 31) hx hb dX12_gives_81 (by decide) ?_
  exact hK31 ((zAs S 16 (Int32.toNatClampNeg x4) x3)) x1 x3 ((x4 + 1)) h _ _ _ hw hS (lv_sub hl [1, 2, 3, 0] rfl)
def M_X12_gives_B31 : Nat → zSt → Int32 → Int32 → Int32 → Option (zSt)
  | 0, _, _, _, _ => none
  | n + 1, S, x1, x3, x4 =>
  (if 6 ≤ x4 then some S else zg (zin x1 6) ((if x4 ≤ (zar S 7 (Int32.toNatClampNeg x1)) then M_X12_gives_B70 (fun S_ x1_ x3_ x4_ => M_X12_gives_B31 n S_ x1_ x3_ x4_) S x1 x3 x4 else zg (zin x1 6) (Option.bind (M_X12_lossAt S x1 ((x4 - (zar S 7 (Int32.toNatClampNeg x1))))) (fun w9 => Option.bind (some ((if (0 : Int32) < (x3 - w9) then (x3 - w9) else (0 : Int32)))) (fun v10 => M_X12_gives_B70 (fun S_ x1_ x3_ x4_ => M_X12_gives_B31 n S_ x1_ x3_ x4_) S x1 v10 x4))))))
set_option maxHeartbeats 4000000 in
set_option maxRecDepth 100000 in
theorem t_X12_gives_B31 {p : Program} {l : Launch} {e : Env} {s : State} {m : MethodId} {args : Array Value} {below : List Frame} {meth : Method} {c : Code} {D : va_G} {Y : Nat → ClassId} {F : Nat → Nat} {A : Nat → Prop} {G : zG} (C0 : zCx p s m args meth c D Y F A RX12 cX12_gives 5 none wsX12_gives) (res : zSt) : ∀ (n : Nat), ∀ (S : zSt) (x1 : Int32) (x3 : Int32) (x4 : Int32), M_X12_gives_B31 n S x1 x3 x4 = some res → ∀ (H : Heap) (locs : List Loc) (ls : Array Slot), zH D Y F A G S H → va_S A s.heap H locs → lv_has ls 5 [(0, .ref (F 0)), (1, .int x1), (3, .int x3), (4, .int x4)] → W p l e (zRm 1 24) s m args below meth c H locs 0 0 (MQ below (zQv D Y F A G res) args s 0 0 A) (F0 m 31 ls []) := by
  obtain ⟨hx, hb, hml, hr, hown, hts, hK, hA, hlk, hN⟩ := id C0
  intro n
  induction n with
  | zero =>
    intro S x1 x3 x4 h
    unfold M_X12_gives_B31 at h
    cases h
  | succ n ih =>
    intro S x1 x3 x4 h H locs ls hw hS hl
    rw [M_X12_gives_B31] at h
    refine lv_iload hx hb dX12_gives_31 (lv_at hl 3 rfl) ?_
    refine lv_bipush (v := 6) hx hb dX12_gives_33 (by decide) ?_
    refine lv_icmp_ge (tgt := 84) hx hb dX12_gives_35 (by decide) (fun c4 => ?_) (fun c4 => ?_)
    · replace h := z_ifp c4 h
      exact z_retv C0 hw hS (Option.some.inj h) dX12_gives_84
    · replace h := z_ifn c4 h
      refine lv_iload hx hb dX12_gives_38 (lv_at hl 3 rfl) ?_
      refine lv_aload_n hx hb dX12_gives_40 rfl (lv_at hl 0 rfl) ?_
      refine z_get C0 in_X12_gives_X12 (C := RX12) (T := TX12) (N := 27) hw (k := 0) (ci := 12) (v := .ref (F 7)) rfl rfl rfl rfl 7 (by decide) rfl 2 rfl dX12_gives_41 ?_
      refine lv_iload_n hx hb dX12_gives_44 rfl (lv_at hl 1 rfl) ?_
      obtain ⟨b5, h⟩ := z_gd h
      refine z_iald C0 hw 7 rfl rfl zri_7 (zin_in b5) dX12_gives_45 ?_
      refine lv_icmp_le (tgt := 70) hx hb dX12_gives_46 (by decide) (fun c6 => ?_) (fun c6 => ?_)
      · replace h := z_ifp c6 h
        exact t_X12_gives_B70 C0 res (fun S_ x1_ x3_ x4_ => M_X12_gives_B31 n S_ x1_ x3_ x4_) ih S x1 x3 x4 h _ _ _ hw hS (lv_sub hl [0, 1, 2, 3] rfl)
      · replace h := z_ifn c6 h
        refine lv_iconst (v := 0) hx hb dX12_gives_49 (by decide) ?_
        refine lv_iload_n hx hb dX12_gives_50 rfl (lv_at hl 2 rfl) ?_
        refine lv_aload_n hx hb dX12_gives_51 rfl (lv_at hl 0 rfl) ?_
        refine lv_iload_n hx hb dX12_gives_52 rfl (lv_at hl 1 rfl) ?_
        refine lv_iload hx hb dX12_gives_53 (lv_at hl 3 rfl) ?_
        refine lv_aload_n hx hb dX12_gives_55 rfl (lv_at hl 0 rfl) ?_
        refine z_get C0 in_X12_gives_X12 (C := RX12) (T := TX12) (N := 27) hw (k := 0) (ci := 12) (v := .ref (F 7)) rfl rfl rfl rfl 7 (by decide) rfl 2 rfl dX12_gives_56 ?_
        refine lv_iload_n hx hb dX12_gives_59 rfl (lv_at hl 1 rfl) ?_
        obtain ⟨b8, h⟩ := z_gd h
        refine z_iald C0 hw 7 rfl rfl zri_7 (zin_in b8) dX12_gives_60 ?_
        refine lv_isub hx hb dX12_gives_61 ?_
        obtain ⟨w9, ew9, h⟩ := z_bd h
        refine z_callVip C0 hw hS (k := 0) (As := [.int x1, .int ((x4 - (zar S 7 (Int32.toNatClampNeg x1))))]) (rest := [.int x3, .int 0]) rfl rfl rfl rfl (c_X12_lossAt l D Y F G S _ x1 ((x4 - (zar S 7 (Int32.toNatClampNeg x1)))) w9 ew9) (cwV 2 hts gX12_gives_X12_lossAt rfl rfl rfl (by decide +kernel) ⟨Nat.le_of_ble_eq_true rfl, Nat.le_of_ble_eq_true rfl⟩) rfl hl.1 rfl (Nat.le_of_ble_eq_true rfl) dX12_gives_62 ⟨Nat.zero_le _, Nat.zero_le _⟩ (fun H locs hw hS => ?_)
        refine lv_isub hx hb dX12_gives_65 ?_
        refine va_mmax hx hb (hml.trans hl.1.symm) hown (hts _ (List.mem_of_getElem? (i := 3) rfl)) (hts _ (List.mem_of_getElem? (i := 4) rfl)) (hts _ (List.mem_of_getElem? (i := 5) rfl)) (hts _ (List.mem_of_getElem? (i := 6) rfl)) (Nat.le_of_ble_eq_true rfl) (Nat.le_of_ble_eq_true rfl) (Nat.zero_le _) (Nat.zero_le _) dX12_gives_66 ?_
        obtain ⟨v10, ev10, h⟩ := z_bd h
        refine z_top (Option.some.inj ev10) ?_
        refine lv_istore_n (lv' := [(3, .int v10), (0, .ref (F 0)), (1, .int x1), (4, .int x4)]) hx hb dX12_gives_69 rfl hl (by decide) rfl (fun ls hl => ?_)
        exact t_X12_gives_B70 C0 res (fun S_ x1_ x3_ x4_ => M_X12_gives_B31 n S_ x1_ x3_ x4_) ih S x1 v10 x4 h _ _ _ hw hS (lv_sub hl [1, 2, 0, 3] rfl)
def M_X12_gives_B2 : Nat → zSt → Int32 → Int32 → Int32 → Option (zSt)
  | 0, _, _, _, _ => none
  | n + 1, S, x1, x2, x3 =>
  (if 6 ≤ x3 then zg (zin x1 6) (Option.bind (some ((zar S 7 (Int32.toNatClampNeg x1)))) (fun v3 => M_X12_gives_B31 zF S x1 x2 v3)) else zg (zin x3 6) (M_X12_gives_B2 n ((zAs S 16 (Int32.toNatClampNeg x3) 0)) x1 x2 ((x3 + 1))))
set_option maxHeartbeats 4000000 in
set_option maxRecDepth 100000 in
theorem t_X12_gives_B2 {p : Program} {l : Launch} {e : Env} {s : State} {m : MethodId} {args : Array Value} {below : List Frame} {meth : Method} {c : Code} {D : va_G} {Y : Nat → ClassId} {F : Nat → Nat} {A : Nat → Prop} {G : zG} (C0 : zCx p s m args meth c D Y F A RX12 cX12_gives 5 none wsX12_gives) (res : zSt) : ∀ (n : Nat), ∀ (S : zSt) (x1 : Int32) (x2 : Int32) (x3 : Int32), M_X12_gives_B2 n S x1 x2 x3 = some res → ∀ (H : Heap) (locs : List Loc) (ls : Array Slot), zH D Y F A G S H → va_S A s.heap H locs → lv_has ls 5 [(0, .ref (F 0)), (1, .int x1), (2, .int x2), (3, .int x3)] → W p l e (zRm 1 24) s m args below meth c H locs 0 0 (MQ below (zQv D Y F A G res) args s 0 0 A) (F0 m 2 ls []) := by
  obtain ⟨hx, hb, hml, hr, hown, hts, hK, hA, hlk, hN⟩ := id C0
  intro n
  induction n with
  | zero =>
    intro S x1 x2 x3 h
    unfold M_X12_gives_B2 at h
    cases h
  | succ n ih =>
    intro S x1 x2 x3 h H locs ls hw hS hl
    rw [M_X12_gives_B2] at h
    refine lv_iload_n hx hb dX12_gives_2 rfl (lv_at hl 3 rfl) ?_
    refine lv_bipush (v := 6) hx hb dX12_gives_3 (by decide) ?_
    refine lv_icmp_ge (tgt := 21) hx hb dX12_gives_5 (by decide) (fun c1 => ?_) (fun c1 => ?_)
    · replace h := z_ifp c1 h
      refine lv_iload_n hx hb dX12_gives_21 rfl (lv_at hl 2 rfl) ?_
      refine lv_istore_n (lv' := [(3, .int x2), (0, .ref (F 0)), (1, .int x1), (2, .int x2)]) hx hb dX12_gives_22 rfl hl (by decide) rfl (fun ls hl => ?_)
      refine lv_aload_n hx hb dX12_gives_23 rfl (lv_at hl 1 rfl) ?_
      refine z_get C0 in_X12_gives_X12 (C := RX12) (T := TX12) (N := 27) hw (k := 0) (ci := 12) (v := .ref (F 7)) rfl rfl rfl rfl 7 (by decide) rfl 2 rfl dX12_gives_24 ?_
      refine lv_iload_n hx hb dX12_gives_27 rfl (lv_at hl 2 rfl) ?_
      obtain ⟨b2, h⟩ := z_gd h
      refine z_iald C0 hw 7 rfl rfl zri_7 (zin_in b2) dX12_gives_28 ?_
      obtain ⟨v3, ev3, h⟩ := z_bd h
      refine z_top (Option.some.inj ev3) ?_
      refine lv_istore (lv' := [(4, .int v3), (3, .int x2), (0, .ref (F 0)), (1, .int x1), (2, .int x2)]) hx hb dX12_gives_29 hl (by decide) rfl (fun ls hl => ?_)
      exact t_X12_gives_B31 C0 res zF S x1 x2 v3 h _ _ _ hw hS (lv_sub hl [2, 3, 1, 0] rfl)
    · replace h := z_ifn c1 h
      refine lv_aload_n hx hb dX12_gives_8 rfl (lv_at hl 0 rfl) ?_
      refine z_get C0 in_X12_gives_X12 (C := RX12) (T := TX12) (N := 27) hw (k := 0) (ci := 12) (v := .ref (F 16)) rfl rfl rfl rfl 23 (by decide) rfl 1 rfl dX12_gives_9 ?_
      refine lv_iload_n hx hb dX12_gives_12 rfl (lv_at hl 3 rfl) ?_
      refine lv_iconst (v := 0) hx hb dX12_gives_13 (by decide) ?_
      obtain ⟨b11, h⟩ := z_gd h
      refine z_iasts C0 hw hS 16 rfl rfl zri_16 (zin_in b11) dX12_gives_14 (fun H locs hw hS => ?_)
      refine lv_iinc (v := (x3 + 1)) (lv' := [(3, .int ((x3 + 1))), (0, .ref (F 0)), (1, .int x1), (2, .int x2)]) hx hb dX12_gives_15 hl (k := 3) rfl rfl (by decide) rfl (fun ls hl => ?_)
      refine lv_goto (tgt := 2) hx hb dX12_gives_18 (by decide) ?_
      exact ih ((zAs S 16 (Int32.toNatClampNeg x3) 0)) x1 x2 ((x3 + 1)) h _ _ _ hw hS (lv_sub hl [1, 2, 3, 0] rfl)
def M_X12_gives (S : zSt) (x1 : Int32) (x2 : Int32) : Option (zSt) :=
  M_X12_gives_B2 zF S x1 x2 0
set_option maxHeartbeats 4000000 in
set_option maxRecDepth 100000 in
theorem c_X12_gives (l : Launch) (D : va_G) (Y : Nat → ClassId) (F : Nat → Nat) (G : zG) (S : zSt) (sz : Nat) (x1 : Int32) (x2 : Int32) (res : zSt) (h : M_X12_gives S x1 x2 = some res) : Met l yX12_gives wsX12_gives (zRm 1 24) (zPc D Y F G S sz [.ref (F 0), .int x1, .int x2]) (zQv D Y F (zAo F G sz) G res) 0 0 (zAo F G sz) := by
  unfold M_X12_gives at h
  refine zMet (cc := cX12_gives) (maxL := 5) (ret := none) (own := RX12) (by decide +kernel) rfl rfl (Nat.le_of_ble_eq_true rfl) ?_
  intro p e s m args below meth c C0 hin hw hS ls hl
  have hl : lv_has ls 5 [(0, .ref (F 0)), (1, .int x1), (2, .int x2)] := hl
  generalize zAo F G sz = A at C0 hw hS ⊢
  obtain ⟨hx, hb, hml, hr, hown, hts, hK, hA, hlk, hN⟩ := id C0
  refine lv_iconst (v := 0) hx hb dX12_gives_0 (by decide) ?_
  refine lv_istore_n (lv' := [(3, .int 0), (0, .ref (F 0)), (1, .int x1), (2, .int x2)]) hx hb dX12_gives_1 rfl hl (by decide) rfl (fun ls hl => ?_)
  exact t_X12_gives_B2 C0 res zF S x1 x2 0 h _ _ _ hw hS (lv_sub hl [1, 2, 3, 0] rfl)
def M_X12_presses_B126 (K17 : zSt → Int32 → Int32 → Int32 → Int32 → Option (Int32 × zSt)) (S : zSt) (x1 : Int32) (x2 : Int32) (x4 : Int32) (x5 : Int32) (y0 : Int32) : Option (Int32 × zSt) :=
  zg (zin ((((6 : Int32) * x1) + x5)) 36) (zg (zin ((((6 : Int32) * x1) + x5)) 36) (K17 ((zAs S 9 (Int32.toNatClampNeg ((((6 : Int32) * x1) + x5))) ((if ((-999) : Int32) < (if ((zar S 9 (Int32.toNatClampNeg ((((6 : Int32) * x1) + x5)))) + y0) < (999 : Int32) then ((zar S 9 (Int32.toNatClampNeg ((((6 : Int32) * x1) + x5)))) + y0) else (999 : Int32)) then (if ((zar S 9 (Int32.toNatClampNeg ((((6 : Int32) * x1) + x5)))) + y0) < (999 : Int32) then ((zar S 9 (Int32.toNatClampNeg ((((6 : Int32) * x1) + x5)))) + y0) else (999 : Int32)) else ((-999) : Int32))))) x1 x2 x4 ((x5 + 1))))
set_option maxHeartbeats 4000000 in
set_option maxRecDepth 100000 in
theorem t_X12_presses_B126 {p : Program} {l : Launch} {e : Env} {s : State} {m : MethodId} {args : Array Value} {below : List Frame} {meth : Method} {c : Code} {D : va_G} {Y : Nat → ClassId} {F : Nat → Nat} {A : Nat → Prop} {G : zG} (C0 : zCx p s m args meth c D Y F A RX12 cX12_presses 8 (some .int) wsX12_presses) (res : Int32 × zSt) (K17 : zSt → Int32 → Int32 → Int32 → Int32 → Option (Int32 × zSt)) (hK17 : ∀ (S : zSt) (x1 : Int32) (x2 : Int32) (x4 : Int32) (x5 : Int32), K17 S x1 x2 x4 x5 = some res → ∀ (H : Heap) (locs : List Loc) (ls : Array Slot), zH D Y F A G S H → va_S A s.heap H locs → lv_has ls 8 [(0, .ref (F 0)), (1, .int x1), (2, .int x2), (4, .int x4), (5, .int x5)] → W p l e (zRm 2 48) s m args below meth c H locs 0 0 (MQ below (zQi D Y F A G res) args s 0 0 A) (F0 m 17 ls [])) : ∀ (S : zSt) (x1 : Int32) (x2 : Int32) (x4 : Int32) (x5 : Int32) (y0 : Int32), M_X12_presses_B126 K17 S x1 x2 x4 x5 y0 = some res → ∀ (H : Heap) (locs : List Loc) (ls : Array Slot), zH D Y F A G S H → va_S A s.heap H locs → lv_has ls 8 [(0, .ref (F 0)), (1, .int x1), (2, .int x2), (4, .int x4), (5, .int x5)] → W p l e (zRm 2 48) s m args below meth c H locs 0 0 (MQ below (zQi D Y F A G res) args s 0 0 A) (F0 m 126 ls [.int y0]) := by
  obtain ⟨hx, hb, hml, hr, hown, hts, hK, hA, hlk, hN⟩ := id C0
  intro S x1 x2 x4 x5 y0 h H locs ls hw hS hl
  unfold M_X12_presses_B126 at h
  refine lv_istore (lv' := [(7, .int y0), (0, .ref (F 0)), (1, .int x1), (2, .int x2), (4, .int x4), (5, .int x5)]) hx hb dX12_presses_126 hl (by decide) rfl (fun ls hl => ?_)
  refine lv_aload_n hx hb dX12_presses_128 rfl (lv_at hl 1 rfl) ?_
  refine z_get C0 in_X12_presses_X12 (C := RX12) (T := TX12) (N := 27) hw (k := 0) (ci := 12) (v := .ref (F 9)) rfl rfl rfl rfl 9 (by decide) rfl 10 rfl dX12_presses_129 ?_
  refine lv_bipush (v := 6) hx hb dX12_presses_132 (by decide) ?_
  refine lv_iload_n hx hb dX12_presses_134 rfl (lv_at hl 2 rfl) ?_
  refine lv_imul hx hb dX12_presses_135 ?_
  refine lv_iload hx hb dX12_presses_136 (lv_at hl 5 rfl) ?_
  refine lv_iadd hx hb dX12_presses_138 ?_
  refine lv_sipush (v := (-999)) hx hb dX12_presses_139 (by decide) ?_
  refine lv_sipush (v := 999) hx hb dX12_presses_142 (by decide) ?_
  refine lv_aload_n hx hb dX12_presses_145 rfl (lv_at hl 1 rfl) ?_
  refine z_get C0 in_X12_presses_X12 (C := RX12) (T := TX12) (N := 27) hw (k := 0) (ci := 12) (v := .ref (F 9)) rfl rfl rfl rfl 9 (by decide) rfl 10 rfl dX12_presses_146 ?_
  refine lv_bipush (v := 6) hx hb dX12_presses_149 (by decide) ?_
  refine lv_iload_n hx hb dX12_presses_151 rfl (lv_at hl 2 rfl) ?_
  refine lv_imul hx hb dX12_presses_152 ?_
  refine lv_iload hx hb dX12_presses_153 (lv_at hl 5 rfl) ?_
  refine lv_iadd hx hb dX12_presses_155 ?_
  obtain ⟨b14, h⟩ := z_gd h
  refine z_iald C0 hw 9 rfl rfl zri_9 (zin_in b14) dX12_presses_156 ?_
  refine lv_iload hx hb dX12_presses_157 (lv_at hl 0 rfl) ?_
  refine lv_iadd hx hb dX12_presses_159 ?_
  refine va_mmin hx hb (hml.trans hl.1.symm) hown (hts _ (List.mem_of_getElem? (i := 4) rfl)) (hts _ (List.mem_of_getElem? (i := 5) rfl)) (hts _ (List.mem_of_getElem? (i := 6) rfl)) (hts _ (List.mem_of_getElem? (i := 7) rfl)) (Nat.le_of_ble_eq_true rfl) (Nat.le_of_ble_eq_true rfl) (Nat.zero_le _) (Nat.zero_le _) dX12_presses_160 ?_
  refine va_mmax hx hb (hml.trans hl.1.symm) hown (hts _ (List.mem_of_getElem? (i := 11) rfl)) (hts _ (List.mem_of_getElem? (i := 12) rfl)) (hts _ (List.mem_of_getElem? (i := 6) rfl)) (hts _ (List.mem_of_getElem? (i := 13) rfl)) (Nat.le_of_ble_eq_true rfl) (Nat.le_of_ble_eq_true rfl) (Nat.zero_le _) (Nat.zero_le _) dX12_presses_163 ?_
  obtain ⟨b15, h⟩ := z_gd h
  refine z_iasts C0 hw hS 9 rfl rfl zri_9 (zin_in b15) dX12_presses_166 (fun H locs hw hS => ?_)
  refine lv_iinc (v := (x5 + 1)) (lv' := [(5, .int ((x5 + 1))), (7, .int y0), (0, .ref (F 0)), (1, .int x1), (2, .int x2), (4, .int x4)]) hx hb dX12_presses_167 hl (k := 5) rfl rfl (by decide) rfl (fun ls hl => ?_)
  refine lv_goto (tgt := 17) hx hb dX12_presses_170 (by decide) ?_
  exact hK17 ((zAs S 9 (Int32.toNatClampNeg ((((6 : Int32) * x1) + x5))) ((if ((-999) : Int32) < (if ((zar S 9 (Int32.toNatClampNeg ((((6 : Int32) * x1) + x5)))) + y0) < (999 : Int32) then ((zar S 9 (Int32.toNatClampNeg ((((6 : Int32) * x1) + x5)))) + y0) else (999 : Int32)) then (if ((zar S 9 (Int32.toNatClampNeg ((((6 : Int32) * x1) + x5)))) + y0) < (999 : Int32) then ((zar S 9 (Int32.toNatClampNeg ((((6 : Int32) * x1) + x5)))) + y0) else (999 : Int32)) else ((-999) : Int32))))) x1 x2 x4 ((x5 + 1)) h _ _ _ hw hS (lv_sub hl [2, 3, 4, 5, 0] rfl)
def M_X12_presses_B120 (K17 : zSt → Int32 → Int32 → Int32 → Int32 → Option (Int32 × zSt)) (S : zSt) (x1 : Int32) (x2 : Int32) (x4 : Int32) (x5 : Int32) (y0 : Int32) (y1 : Int32) : Option (Int32 × zSt) :=
  M_X12_presses_B126 K17 S x1 x2 x4 x5 ((y1 + y0))
set_option maxHeartbeats 4000000 in
set_option maxRecDepth 100000 in
theorem t_X12_presses_B120 {p : Program} {l : Launch} {e : Env} {s : State} {m : MethodId} {args : Array Value} {below : List Frame} {meth : Method} {c : Code} {D : va_G} {Y : Nat → ClassId} {F : Nat → Nat} {A : Nat → Prop} {G : zG} (C0 : zCx p s m args meth c D Y F A RX12 cX12_presses 8 (some .int) wsX12_presses) (res : Int32 × zSt) (K17 : zSt → Int32 → Int32 → Int32 → Int32 → Option (Int32 × zSt)) (hK17 : ∀ (S : zSt) (x1 : Int32) (x2 : Int32) (x4 : Int32) (x5 : Int32), K17 S x1 x2 x4 x5 = some res → ∀ (H : Heap) (locs : List Loc) (ls : Array Slot), zH D Y F A G S H → va_S A s.heap H locs → lv_has ls 8 [(0, .ref (F 0)), (1, .int x1), (2, .int x2), (4, .int x4), (5, .int x5)] → W p l e (zRm 2 48) s m args below meth c H locs 0 0 (MQ below (zQi D Y F A G res) args s 0 0 A) (F0 m 17 ls [])) : ∀ (S : zSt) (x1 : Int32) (x2 : Int32) (x4 : Int32) (x5 : Int32) (y0 : Int32) (y1 : Int32), M_X12_presses_B120 K17 S x1 x2 x4 x5 y0 y1 = some res → ∀ (H : Heap) (locs : List Loc) (ls : Array Slot), zH D Y F A G S H → va_S A s.heap H locs → lv_has ls 8 [(0, .ref (F 0)), (1, .int x1), (2, .int x2), (4, .int x4), (5, .int x5)] → W p l e (zRm 2 48) s m args below meth c H locs 0 0 (MQ below (zQi D Y F A G res) args s 0 0 A) (F0 m 120 ls [.int y0, .int y1]) := by
  obtain ⟨hx, hb, hml, hr, hown, hts, hK, hA, hlk, hN⟩ := id C0
  intro S x1 x2 x4 x5 y0 y1 h H locs ls hw hS hl
  unfold M_X12_presses_B120 at h
  refine lv_iadd hx hb dX12_presses_120 ?_
  refine lv_goto (tgt := 126) hx hb dX12_presses_121 (by decide) ?_
  exact t_X12_presses_B126 C0 res K17 hK17 S x1 x2 x4 x5 ((y1 + y0)) h _ _ _ hw hS (lv_sub hl [0, 1, 2, 3, 4] rfl)
def M_X12_presses_B17 : Nat → zSt → Int32 → Int32 → Int32 → Int32 → Option (Int32 × zSt)
  | 0, _, _, _, _, _ => none
  | n + 1, S, x1, x2, x4, x5 =>
  (if 6 ≤ x5 then some (x4, S) else zg (zin x5 6) ((if (zar S 16 (Int32.toNatClampNeg x5)) = 0 then M_X12_presses_B17 n S x1 x2 x4 ((x5 + 1)) else Option.bind (M_X12_strengthOf S x1 x5 x2) (fun w7 => zg (zin x5 6) (zg (zin (((((48 : Int32) * x1) + ((8 : Int32) * x5)) + x2)) 288) (zg (zin x1 6) (Option.bind (some ((x5 - (zar ((zAs S 10 (Int32.toNatClampNeg (((((48 : Int32) * x1) + ((8 : Int32) * x5)) + x2))) ((if (w7 + (zar S 16 (Int32.toNatClampNeg x5))) < (99 : Int32) then (w7 + (zar S 16 (Int32.toNatClampNeg x5))) else (99 : Int32))))) 7 (Int32.toNatClampNeg x1))))) (fun v11 => zg (zin x1 6) ((if (zar ((zAs S 10 (Int32.toNatClampNeg (((((48 : Int32) * x1) + ((8 : Int32) * x5)) + x2))) ((if (w7 + (zar S 16 (Int32.toNatClampNeg x5))) < (99 : Int32) then (w7 + (zar S 16 (Int32.toNatClampNeg x5))) else (99 : Int32))))) 4 (Int32.toNatClampNeg x1)) = 6 then zg (zin x1 6) ((if v11 ≤ 2 then M_X12_presses_B120 (fun S_ x1_ x2_ x4_ x5_ => M_X12_presses_B17 n S_ x1_ x2_ x4_ x5_) ((zAs S 10 (Int32.toNatClampNeg (((((48 : Int32) * x1) + ((8 : Int32) * x5)) + x2))) ((if (w7 + (zar S 16 (Int32.toNatClampNeg x5))) < (99 : Int32) then (w7 + (zar S 16 (Int32.toNatClampNeg x5))) else (99 : Int32))))) x1 x2 ((x4 + 1)) x5 0 ((v11 * (zar ((zAs S 10 (Int32.toNatClampNeg (((((48 : Int32) * x1) + ((8 : Int32) * x5)) + x2))) ((if (w7 + (zar S 16 (Int32.toNatClampNeg x5))) < (99 : Int32) then (w7 + (zar S 16 (Int32.toNatClampNeg x5))) else (99 : Int32))))) 5 (Int32.toNatClampNeg x1)))) else M_X12_presses_B120 (fun S_ x1_ x2_ x4_ x5_ => M_X12_presses_B17 n S_ x1_ x2_ x4_ x5_) ((zAs S 10 (Int32.toNatClampNeg (((((48 : Int32) * x1) + ((8 : Int32) * x5)) + x2))) ((if (w7 + (zar S 16 (Int32.toNatClampNeg x5))) < (99 : Int32) then (w7 + (zar S 16 (Int32.toNatClampNeg x5))) else (99 : Int32))))) x1 x2 ((x4 + 1)) x5 1 ((v11 * (zar ((zAs S 10 (Int32.toNatClampNeg (((((48 : Int32) * x1) + ((8 : Int32) * x5)) + x2))) ((if (w7 + (zar S 16 (Int32.toNatClampNeg x5))) < (99 : Int32) then (w7 + (zar S 16 (Int32.toNatClampNeg x5))) else (99 : Int32))))) 5 (Int32.toNatClampNeg x1)))))) else M_X12_presses_B126 (fun S_ x1_ x2_ x4_ x5_ => M_X12_presses_B17 n S_ x1_ x2_ x4_ x5_) ((zAs S 10 (Int32.toNatClampNeg (((((48 : Int32) * x1) + ((8 : Int32) * x5)) + x2))) ((if (w7 + (zar S 16 (Int32.toNatClampNeg x5))) < (99 : Int32) then (w7 + (zar S 16 (Int32.toNatClampNeg x5))) else (99 : Int32))))) x1 x2 ((x4 + 1)) x5 v11))))))))))
set_option maxHeartbeats 4000000 in
set_option maxRecDepth 100000 in
theorem t_X12_presses_B17 {p : Program} {l : Launch} {e : Env} {s : State} {m : MethodId} {args : Array Value} {below : List Frame} {meth : Method} {c : Code} {D : va_G} {Y : Nat → ClassId} {F : Nat → Nat} {A : Nat → Prop} {G : zG} (C0 : zCx p s m args meth c D Y F A RX12 cX12_presses 8 (some .int) wsX12_presses) (res : Int32 × zSt) : ∀ (n : Nat), ∀ (S : zSt) (x1 : Int32) (x2 : Int32) (x4 : Int32) (x5 : Int32), M_X12_presses_B17 n S x1 x2 x4 x5 = some res → ∀ (H : Heap) (locs : List Loc) (ls : Array Slot), zH D Y F A G S H → va_S A s.heap H locs → lv_has ls 8 [(0, .ref (F 0)), (1, .int x1), (2, .int x2), (4, .int x4), (5, .int x5)] → W p l e (zRm 2 48) s m args below meth c H locs 0 0 (MQ below (zQi D Y F A G res) args s 0 0 A) (F0 m 17 ls []) := by
  obtain ⟨hx, hb, hml, hr, hown, hts, hK, hA, hlk, hN⟩ := id C0
  intro n
  induction n with
  | zero =>
    intro S x1 x2 x4 x5 h
    unfold M_X12_presses_B17 at h
    cases h
  | succ n ih =>
    intro S x1 x2 x4 x5 h H locs ls hw hS hl
    rw [M_X12_presses_B17] at h
    refine lv_iload hx hb dX12_presses_17 (lv_at hl 4 rfl) ?_
    refine lv_bipush (v := 6) hx hb dX12_presses_19 (by decide) ?_
    refine lv_icmp_ge (tgt := 173) hx hb dX12_presses_21 (by decide) (fun c4 => ?_) (fun c4 => ?_)
    · replace h := z_ifp c4 h
      refine lv_iload hx hb dX12_presses_173 (lv_at hl 3 rfl) ?_
      exact z_reti C0 hw hS (Option.some.inj h) dX12_presses_175
    · replace h := z_ifn c4 h
      refine lv_aload_n hx hb dX12_presses_24 rfl (lv_at hl 0 rfl) ?_
      refine z_get C0 in_X12_presses_X12 (C := RX12) (T := TX12) (N := 27) hw (k := 0) (ci := 12) (v := .ref (F 16)) rfl rfl rfl rfl 23 (by decide) rfl 2 rfl dX12_presses_25 ?_
      refine lv_iload hx hb dX12_presses_28 (lv_at hl 4 rfl) ?_
      obtain ⟨b5, h⟩ := z_gd h
      refine z_iald C0 hw 16 rfl rfl zri_16 (zin_in b5) dX12_presses_30 ?_
      refine lv_if_ne (tgt := 37) hx hb dX12_presses_31 (by decide) (fun c6 => ?_) (fun c6 => ?_)
      · replace h := z_ifn c6 h
        refine lv_iinc (v := (x4 + 1)) (lv' := [(4, .int ((x4 + 1))), (0, .ref (F 0)), (1, .int x1), (2, .int x2), (5, .int x5)]) hx hb dX12_presses_37 hl (k := 3) rfl rfl (by decide) rfl (fun ls hl => ?_)
        refine lv_aload_n hx hb dX12_presses_40 rfl (lv_at hl 1 rfl) ?_
        refine z_get C0 in_X12_presses_X12 (C := RX12) (T := TX12) (N := 27) hw (k := 0) (ci := 12) (v := .ref (F 10)) rfl rfl rfl rfl 10 (by decide) rfl 3 rfl dX12_presses_41 ?_
        refine lv_bipush (v := 48) hx hb dX12_presses_44 (by decide) ?_
        refine lv_iload_n hx hb dX12_presses_46 rfl (lv_at hl 2 rfl) ?_
        refine lv_imul hx hb dX12_presses_47 ?_
        refine lv_bipush (v := 8) hx hb dX12_presses_48 (by decide) ?_
        refine lv_iload hx hb dX12_presses_50 (lv_at hl 4 rfl) ?_
        refine lv_imul hx hb dX12_presses_52 ?_
        refine lv_iadd hx hb dX12_presses_53 ?_
        refine lv_iload_n hx hb dX12_presses_54 rfl (lv_at hl 3 rfl) ?_
        refine lv_iadd hx hb dX12_presses_55 ?_
        refine lv_bipush (v := 99) hx hb dX12_presses_56 (by decide) ?_
        refine lv_aload_n hx hb dX12_presses_58 rfl (lv_at hl 1 rfl) ?_
        refine lv_iload_n hx hb dX12_presses_59 rfl (lv_at hl 2 rfl) ?_
        refine lv_iload hx hb dX12_presses_60 (lv_at hl 4 rfl) ?_
        refine lv_iload_n hx hb dX12_presses_62 rfl (lv_at hl 3 rfl) ?_
        obtain ⟨w7, ew7, h⟩ := z_bd h
        refine z_callVip C0 hw hS (k := 0) (As := [.int x1, .int x5, .int x2]) (rest := [.int 99, .int (((((48 : Int32) * x1) + ((8 : Int32) * x5)) + x2)), .ref (F 10)]) rfl rfl rfl rfl (c_X12_strengthOf l D Y F G S _ x1 x5 x2 w7 ew7) (cwV 3 hts gX12_presses_X12_strengthOf rfl rfl rfl (by decide +kernel) ⟨Nat.le_of_ble_eq_true rfl, Nat.le_of_ble_eq_true rfl⟩) rfl hl.1 rfl (Nat.le_of_ble_eq_true rfl) dX12_presses_63 ⟨Nat.zero_le _, Nat.zero_le _⟩ (fun H locs hw hS => ?_)
        refine lv_aload_n hx hb dX12_presses_66 rfl (lv_at hl 1 rfl) ?_
        refine z_get C0 in_X12_presses_X12 (C := RX12) (T := TX12) (N := 27) hw (k := 0) (ci := 12) (v := .ref (F 16)) rfl rfl rfl rfl 23 (by decide) rfl 2 rfl dX12_presses_67 ?_
        refine lv_iload hx hb dX12_presses_70 (lv_at hl 4 rfl) ?_
        obtain ⟨b8, h⟩ := z_gd h
        refine z_iald C0 hw 16 rfl rfl zri_16 (zin_in b8) dX12_presses_72 ?_
        refine lv_iadd hx hb dX12_presses_73 ?_
        refine va_mmin hx hb (hml.trans hl.1.symm) hown (hts _ (List.mem_of_getElem? (i := 4) rfl)) (hts _ (List.mem_of_getElem? (i := 5) rfl)) (hts _ (List.mem_of_getElem? (i := 6) rfl)) (hts _ (List.mem_of_getElem? (i := 7) rfl)) (Nat.le_of_ble_eq_true rfl) (Nat.le_of_ble_eq_true rfl) (Nat.zero_le _) (Nat.zero_le _) dX12_presses_74 ?_
        obtain ⟨b9, h⟩ := z_gd h
        refine z_iasts C0 hw hS 10 rfl rfl zri_10 (zin_in b9) dX12_presses_77 (fun H locs hw hS => ?_)
        refine lv_iload hx hb dX12_presses_78 (lv_at hl 4 rfl) ?_
        refine lv_aload_n hx hb dX12_presses_80 rfl (lv_at hl 1 rfl) ?_
        refine z_get C0 in_X12_presses_X12 (C := RX12) (T := TX12) (N := 27) hw (k := 0) (ci := 12) (v := .ref (F 7)) rfl rfl rfl rfl 7 (by decide) rfl 1 rfl dX12_presses_81 ?_
        refine lv_iload_n hx hb dX12_presses_84 rfl (lv_at hl 2 rfl) ?_
        obtain ⟨b10, h⟩ := z_gd h
        refine z_iald C0 hw 7 rfl rfl zri_7 (zin_in b10) dX12_presses_85 ?_
        refine lv_isub hx hb dX12_presses_86 ?_
        obtain ⟨v11, ev11, h⟩ := z_bd h
        refine z_top (Option.some.inj ev11) ?_
        refine lv_istore (lv' := [(6, .int v11), (4, .int ((x4 + 1))), (0, .ref (F 0)), (1, .int x1), (2, .int x2), (5, .int x5)]) hx hb dX12_presses_87 hl (by decide) rfl (fun ls hl => ?_)
        refine lv_aload_n hx hb dX12_presses_89 rfl (lv_at hl 2 rfl) ?_
        refine z_get C0 in_X12_presses_X12 (C := RX12) (T := TX12) (N := 27) hw (k := 0) (ci := 12) (v := .ref (F 4)) rfl rfl rfl rfl 4 (by decide) rfl 8 rfl dX12_presses_90 ?_
        refine lv_iload_n hx hb dX12_presses_93 rfl (lv_at hl 3 rfl) ?_
        obtain ⟨b12, h⟩ := z_gd h
        refine z_iald C0 hw 4 rfl rfl zri_4 (zin_in b12) dX12_presses_94 ?_
        refine lv_bipush (v := 6) hx hb dX12_presses_95 (by decide) ?_
        refine lv_icmp_ne (tgt := 124) hx hb dX12_presses_97 (by decide) (fun c13 => ?_) (fun c13 => ?_)
        · replace h := z_ifn c13 h
          refine lv_iload hx hb dX12_presses_124 (lv_at hl 0 rfl) ?_
          exact t_X12_presses_B126 C0 res (fun S_ x1_ x2_ x4_ x5_ => M_X12_presses_B17 n S_ x1_ x2_ x4_ x5_) ih ((zAs S 10 (Int32.toNatClampNeg (((((48 : Int32) * x1) + ((8 : Int32) * x5)) + x2))) ((if (w7 + (zar S 16 (Int32.toNatClampNeg x5))) < (99 : Int32) then (w7 + (zar S 16 (Int32.toNatClampNeg x5))) else (99 : Int32))))) x1 x2 ((x4 + 1)) x5 v11 h _ _ _ hw hS (lv_sub hl [2, 3, 4, 1, 5] rfl)
        · replace h := z_ifp c13 h
          refine lv_iload hx hb dX12_presses_100 (lv_at hl 0 rfl) ?_
          refine lv_aload_n hx hb dX12_presses_102 rfl (lv_at hl 2 rfl) ?_
          refine z_get C0 in_X12_presses_X12 (C := RX12) (T := TX12) (N := 27) hw (k := 0) (ci := 12) (v := .ref (F 5)) rfl rfl rfl rfl 5 (by decide) rfl 9 rfl dX12_presses_103 ?_
          refine lv_iload_n hx hb dX12_presses_106 rfl (lv_at hl 3 rfl) ?_
          obtain ⟨b16, h⟩ := z_gd h
          refine z_iald C0 hw 5 rfl rfl zri_5 (zin_in b16) dX12_presses_107 ?_
          refine lv_imul hx hb dX12_presses_108 ?_
          refine lv_iload hx hb dX12_presses_109 (lv_at hl 0 rfl) ?_
          refine lv_iconst (v := 2) hx hb dX12_presses_111 (by decide) ?_
          refine lv_icmp_le (tgt := 119) hx hb dX12_presses_112 (by decide) (fun c17 => ?_) (fun c17 => ?_)
          · replace h := z_ifp c17 h
            refine lv_iconst (v := 0) hx hb dX12_presses_119 (by decide) ?_
            exact t_X12_presses_B120 C0 res (fun S_ x1_ x2_ x4_ x5_ => M_X12_presses_B17 n S_ x1_ x2_ x4_ x5_) ih ((zAs S 10 (Int32.toNatClampNeg (((((48 : Int32) * x1) + ((8 : Int32) * x5)) + x2))) ((if (w7 + (zar S 16 (Int32.toNatClampNeg x5))) < (99 : Int32) then (w7 + (zar S 16 (Int32.toNatClampNeg x5))) else (99 : Int32))))) x1 x2 ((x4 + 1)) x5 0 ((v11 * (zar ((zAs S 10 (Int32.toNatClampNeg (((((48 : Int32) * x1) + ((8 : Int32) * x5)) + x2))) ((if (w7 + (zar S 16 (Int32.toNatClampNeg x5))) < (99 : Int32) then (w7 + (zar S 16 (Int32.toNatClampNeg x5))) else (99 : Int32))))) 5 (Int32.toNatClampNeg x1)))) h _ _ _ hw hS (lv_sub hl [2, 3, 4, 1, 5] rfl)
          · replace h := z_ifn c17 h
            refine lv_iconst (v := 1) hx hb dX12_presses_115 (by decide) ?_
            refine lv_goto (tgt := 120) hx hb dX12_presses_116 (by decide) ?_
            exact t_X12_presses_B120 C0 res (fun S_ x1_ x2_ x4_ x5_ => M_X12_presses_B17 n S_ x1_ x2_ x4_ x5_) ih ((zAs S 10 (Int32.toNatClampNeg (((((48 : Int32) * x1) + ((8 : Int32) * x5)) + x2))) ((if (w7 + (zar S 16 (Int32.toNatClampNeg x5))) < (99 : Int32) then (w7 + (zar S 16 (Int32.toNatClampNeg x5))) else (99 : Int32))))) x1 x2 ((x4 + 1)) x5 1 ((v11 * (zar ((zAs S 10 (Int32.toNatClampNeg (((((48 : Int32) * x1) + ((8 : Int32) * x5)) + x2))) ((if (w7 + (zar S 16 (Int32.toNatClampNeg x5))) < (99 : Int32) then (w7 + (zar S 16 (Int32.toNatClampNeg x5))) else (99 : Int32))))) 5 (Int32.toNatClampNeg x1)))) h _ _ _ hw hS (lv_sub hl [2, 3, 4, 1, 5] rfl)
      · replace h := z_ifp c6 h
        refine lv_goto (tgt := 167) hx hb dX12_presses_34 (by decide) ?_
        refine lv_iinc (v := (x5 + 1)) (lv' := [(5, .int ((x5 + 1))), (0, .ref (F 0)), (1, .int x1), (2, .int x2), (4, .int x4)]) hx hb dX12_presses_167 hl (k := 4) rfl rfl (by decide) rfl (fun ls hl => ?_)
        refine lv_goto (tgt := 17) hx hb dX12_presses_170 (by decide) ?_
        exact ih S x1 x2 x4 ((x5 + 1)) h _ _ _ hw hS (lv_sub hl [1, 2, 3, 4, 0] rfl)
def M_X12_presses (S : zSt) (x1 : Int32) (x2 : Int32) (x3 : Int32) : Option (Int32 × zSt) :=
  Option.bind (M_X12_gives S x1 x3) (fun w1 => zg (zin x1 6) (Option.bind (some ((zar w1 7 (Int32.toNatClampNeg x1)))) (fun v3 => M_X12_presses_B17 zF w1 x1 x2 0 v3)))
set_option maxHeartbeats 4000000 in
set_option maxRecDepth 100000 in
theorem c_X12_presses (l : Launch) (D : va_G) (Y : Nat → ClassId) (F : Nat → Nat) (G : zG) (S : zSt) (sz : Nat) (x1 : Int32) (x2 : Int32) (x3 : Int32) (res : Int32 × zSt) (h : M_X12_presses S x1 x2 x3 = some res) : Met l yX12_presses wsX12_presses (zRm 2 48) (zPc D Y F G S sz [.ref (F 0), .int x1, .int x2, .int x3]) (zQi D Y F (zAo F G sz) G res) 0 0 (zAo F G sz) := by
  unfold M_X12_presses at h
  refine zMet (cc := cX12_presses) (maxL := 8) (ret := (some .int)) (own := RX12) (by decide +kernel) rfl rfl (Nat.le_of_ble_eq_true rfl) ?_
  intro p e s m args below meth c C0 hin hw hS ls hl
  have hl : lv_has ls 8 [(0, .ref (F 0)), (1, .int x1), (2, .int x2), (3, .int x3)] := hl
  generalize zAo F G sz = A at C0 hw hS ⊢
  obtain ⟨hx, hb, hml, hr, hown, hts, hK, hA, hlk, hN⟩ := id C0
  refine lv_aload_n hx hb dX12_presses_0 rfl (lv_at hl 0 rfl) ?_
  refine lv_iload_n hx hb dX12_presses_1 rfl (lv_at hl 1 rfl) ?_
  refine lv_iload_n hx hb dX12_presses_2 rfl (lv_at hl 3 rfl) ?_
  obtain ⟨w1, ew1, h⟩ := z_bd h
  refine z_callVv0 C0 hw hS (k := 0) (As := [.int x1, .int x3]) (rest := []) rfl rfl rfl rfl (c_X12_gives l D Y F G S _ x1 x3 w1 ew1) (cwV 2 hts gX12_presses_X12_gives rfl rfl rfl (by decide +kernel) ⟨Nat.le_of_ble_eq_true rfl, Nat.le_of_ble_eq_true rfl⟩) rfl hl.1 rfl (Nat.le_of_ble_eq_true rfl) dX12_presses_3 ⟨Nat.zero_le _, Nat.zero_le _⟩ (fun H locs hw hS => ?_)
  refine lv_iconst (v := 0) hx hb dX12_presses_6 (by decide) ?_
  refine lv_istore (lv' := [(4, .int 0), (0, .ref (F 0)), (1, .int x1), (2, .int x2), (3, .int x3)]) hx hb dX12_presses_7 hl (by decide) rfl (fun ls hl => ?_)
  refine lv_aload_n hx hb dX12_presses_9 rfl (lv_at hl 1 rfl) ?_
  refine z_get C0 in_X12_presses_X12 (C := RX12) (T := TX12) (N := 27) hw (k := 0) (ci := 12) (v := .ref (F 7)) rfl rfl rfl rfl 7 (by decide) rfl 1 rfl dX12_presses_10 ?_
  refine lv_iload_n hx hb dX12_presses_13 rfl (lv_at hl 2 rfl) ?_
  obtain ⟨b2, h⟩ := z_gd h
  refine z_iald C0 hw 7 rfl rfl zri_7 (zin_in b2) dX12_presses_14 ?_
  obtain ⟨v3, ev3, h⟩ := z_bd h
  refine z_top (Option.some.inj ev3) ?_
  refine lv_istore (lv' := [(5, .int v3), (4, .int 0), (0, .ref (F 0)), (1, .int x1), (2, .int x2), (3, .int x3)]) hx hb dX12_presses_15 hl (by decide) rfl (fun ls hl => ?_)
  exact t_X12_presses_B17 C0 res zF w1 x1 x2 0 v3 h _ _ _ hw hS (lv_sub hl [2, 3, 4, 1, 0] rfl)
def M_X12_rubs (S : zSt) (x1 : Int32) (x2 : Int32) (x3 : Int32) : Option (Int32 × zSt) :=
  Option.bind (M_X12_strengthOf S x1 x2 x3) (fun w1 => zg (zin (((((48 : Int32) * x1) + ((8 : Int32) * x2)) + x3)) 288) (zg (zin ((((6 : Int32) * x1) + x2)) 36) (zg (zin ((((6 : Int32) * x1) + x2)) 36) (some (w1, (zAs ((zAs S 10 (Int32.toNatClampNeg (((((48 : Int32) * x1) + ((8 : Int32) * x2)) + x3))) 0)) 8 (Int32.toNatClampNeg ((((6 : Int32) * x1) + x2))) ((if ((zar ((zAs S 10 (Int32.toNatClampNeg (((((48 : Int32) * x1) + ((8 : Int32) * x2)) + x3))) 0)) 8 (Int32.toNatClampNeg ((((6 : Int32) * x1) + x2)))) + 1) < (99 : Int32) then ((zar ((zAs S 10 (Int32.toNatClampNeg (((((48 : Int32) * x1) + ((8 : Int32) * x2)) + x3))) 0)) 8 (Int32.toNatClampNeg ((((6 : Int32) * x1) + x2)))) + 1) else (99 : Int32)))))))))
set_option maxHeartbeats 4000000 in
set_option maxRecDepth 100000 in
theorem c_X12_rubs (l : Launch) (D : va_G) (Y : Nat → ClassId) (F : Nat → Nat) (G : zG) (S : zSt) (sz : Nat) (x1 : Int32) (x2 : Int32) (x3 : Int32) (res : Int32 × zSt) (h : M_X12_rubs S x1 x2 x3 = some res) : Met l yX12_rubs wsX12_rubs (zRm 1 24) (zPc D Y F G S sz [.ref (F 0), .int x1, .int x2, .int x3]) (zQi D Y F (zAo F G sz) G res) 0 0 (zAo F G sz) := by
  unfold M_X12_rubs at h
  refine zMet (cc := cX12_rubs) (maxL := 5) (ret := (some .int)) (own := RX12) (by decide +kernel) rfl rfl (Nat.le_of_ble_eq_true rfl) ?_
  intro p e s m args below meth c C0 hin hw hS ls hl
  have hl : lv_has ls 5 [(0, .ref (F 0)), (1, .int x1), (2, .int x2), (3, .int x3)] := hl
  generalize zAo F G sz = A at C0 hw hS ⊢
  obtain ⟨hx, hb, hml, hr, hown, hts, hK, hA, hlk, hN⟩ := id C0
  refine lv_aload_n hx hb dX12_rubs_0 rfl (lv_at hl 0 rfl) ?_
  refine lv_iload_n hx hb dX12_rubs_1 rfl (lv_at hl 1 rfl) ?_
  refine lv_iload_n hx hb dX12_rubs_2 rfl (lv_at hl 2 rfl) ?_
  refine lv_iload_n hx hb dX12_rubs_3 rfl (lv_at hl 3 rfl) ?_
  obtain ⟨w1, ew1, h⟩ := z_bd h
  refine z_callVip C0 hw hS (k := 0) (As := [.int x1, .int x2, .int x3]) (rest := []) rfl rfl rfl rfl (c_X12_strengthOf l D Y F G S _ x1 x2 x3 w1 ew1) (cwV 3 hts gX12_rubs_X12_strengthOf rfl rfl rfl (by decide +kernel) ⟨Nat.le_of_ble_eq_true rfl, Nat.le_of_ble_eq_true rfl⟩) rfl hl.1 rfl (Nat.le_of_ble_eq_true rfl) dX12_rubs_4 ⟨Nat.zero_le _, Nat.zero_le _⟩ (fun H locs hw hS => ?_)
  refine lv_istore (lv' := [(4, .int w1), (0, .ref (F 0)), (1, .int x1), (2, .int x2), (3, .int x3)]) hx hb dX12_rubs_7 hl (by decide) rfl (fun ls hl => ?_)
  refine lv_aload_n hx hb dX12_rubs_9 rfl (lv_at hl 1 rfl) ?_
  refine z_get C0 in_X12_rubs_X12 (C := RX12) (T := TX12) (N := 27) hw (k := 0) (ci := 12) (v := .ref (F 10)) rfl rfl rfl rfl 10 (by decide) rfl 1 rfl dX12_rubs_10 ?_
  refine lv_bipush (v := 48) hx hb dX12_rubs_13 (by decide) ?_
  refine lv_iload_n hx hb dX12_rubs_15 rfl (lv_at hl 2 rfl) ?_
  refine lv_imul hx hb dX12_rubs_16 ?_
  refine lv_bipush (v := 8) hx hb dX12_rubs_17 (by decide) ?_
  refine lv_iload_n hx hb dX12_rubs_19 rfl (lv_at hl 3 rfl) ?_
  refine lv_imul hx hb dX12_rubs_20 ?_
  refine lv_iadd hx hb dX12_rubs_21 ?_
  refine lv_iload_n hx hb dX12_rubs_22 rfl (lv_at hl 4 rfl) ?_
  refine lv_iadd hx hb dX12_rubs_23 ?_
  refine lv_iconst (v := 0) hx hb dX12_rubs_24 (by decide) ?_
  obtain ⟨b2, h⟩ := z_gd h
  refine z_iasts C0 hw hS 10 rfl rfl zri_10 (zin_in b2) dX12_rubs_25 (fun H locs hw hS => ?_)
  refine lv_aload_n hx hb dX12_rubs_26 rfl (lv_at hl 1 rfl) ?_
  refine z_get C0 in_X12_rubs_X12 (C := RX12) (T := TX12) (N := 27) hw (k := 0) (ci := 12) (v := .ref (F 8)) rfl rfl rfl rfl 8 (by decide) rfl 2 rfl dX12_rubs_27 ?_
  refine lv_bipush (v := 6) hx hb dX12_rubs_30 (by decide) ?_
  refine lv_iload_n hx hb dX12_rubs_32 rfl (lv_at hl 2 rfl) ?_
  refine lv_imul hx hb dX12_rubs_33 ?_
  refine lv_iload_n hx hb dX12_rubs_34 rfl (lv_at hl 3 rfl) ?_
  refine lv_iadd hx hb dX12_rubs_35 ?_
  refine lv_bipush (v := 99) hx hb dX12_rubs_36 (by decide) ?_
  refine lv_aload_n hx hb dX12_rubs_38 rfl (lv_at hl 1 rfl) ?_
  refine z_get C0 in_X12_rubs_X12 (C := RX12) (T := TX12) (N := 27) hw (k := 0) (ci := 12) (v := .ref (F 8)) rfl rfl rfl rfl 8 (by decide) rfl 2 rfl dX12_rubs_39 ?_
  refine lv_bipush (v := 6) hx hb dX12_rubs_42 (by decide) ?_
  refine lv_iload_n hx hb dX12_rubs_44 rfl (lv_at hl 2 rfl) ?_
  refine lv_imul hx hb dX12_rubs_45 ?_
  refine lv_iload_n hx hb dX12_rubs_46 rfl (lv_at hl 3 rfl) ?_
  refine lv_iadd hx hb dX12_rubs_47 ?_
  obtain ⟨b3, h⟩ := z_gd h
  refine z_iald C0 hw 8 rfl rfl zri_8 (zin_in b3) dX12_rubs_48 ?_
  refine lv_iconst (v := 1) hx hb dX12_rubs_49 (by decide) ?_
  refine lv_iadd hx hb dX12_rubs_50 ?_
  refine va_mmin hx hb (hml.trans hl.1.symm) hown (hts _ (List.mem_of_getElem? (i := 3) rfl)) (hts _ (List.mem_of_getElem? (i := 4) rfl)) (hts _ (List.mem_of_getElem? (i := 5) rfl)) (hts _ (List.mem_of_getElem? (i := 6) rfl)) (Nat.le_of_ble_eq_true rfl) (Nat.le_of_ble_eq_true rfl) (Nat.zero_le _) (Nat.zero_le _) dX12_rubs_51 ?_
  obtain ⟨b4, h⟩ := z_gd h
  refine z_iasts C0 hw hS 8 rfl rfl zri_8 (zin_in b4) dX12_rubs_54 (fun H locs hw hS => ?_)
  refine lv_iload hx hb dX12_rubs_55 (lv_at hl 0 rfl) ?_
  exact z_reti C0 hw hS (Option.some.inj h) dX12_rubs_57
def M_X12_haveBits_B10 (S : zSt) : Nat → Int32 → Int32 → Int32 → Int32 → Option (Int32)
  | 0, _, _, _, _ => none
  | n + 1, x1, x2, x3, x4 =>
  (if 6 ≤ x4 then some x3 else Option.bind (M_X12_hasDeed S x1 x4 x2) (fun w4 => (if w4 = 0 then M_X12_haveBits_B10 S n x1 x2 x3 ((x4 + 1)) else Option.bind (some ((x3 ||| ((1 : Int32) <<< (x4 &&& 31))))) (fun v6 => M_X12_haveBits_B10 S n x1 x2 v6 ((x4 + 1))))))
set_option maxHeartbeats 4000000 in
set_option maxRecDepth 100000 in
theorem t_X12_haveBits_B10 {p : Program} {l : Launch} {e : Env} {s : State} {m : MethodId} {args : Array Value} {below : List Frame} {meth : Method} {c : Code} {D : va_G} {Y : Nat → ClassId} {F : Nat → Nat} {A : Nat → Prop} {G : zG} (C0 : zCx p s m args meth c D Y F A RX12 cX12_haveBits 5 (some .int) wsX12_haveBits) (S : zSt) (res : Int32) : ∀ (n : Nat), ∀ (x1 : Int32) (x2 : Int32) (x3 : Int32) (x4 : Int32), M_X12_haveBits_B10 S n x1 x2 x3 x4 = some res → ∀ (H : Heap) (locs : List Loc) (ls : Array Slot), zH D Y F A G S H → va_S A s.heap H locs → lv_has ls 5 [(0, .ref (F 0)), (1, .int x1), (2, .int x2), (3, .int x3), (4, .int x4)] → W p l e (zRm 2 46) s m args below meth c H locs 0 0 (MQ below (zQi D Y F A G (res, S)) args s 0 0 A) (F0 m 10 ls []) := by
  obtain ⟨hx, hb, hml, hr, hown, hts, hK, hA, hlk, hN⟩ := id C0
  intro n
  induction n with
  | zero =>
    intro x1 x2 x3 x4 h
    unfold M_X12_haveBits_B10 at h
    cases h
  | succ n ih =>
    intro x1 x2 x3 x4 h H locs ls hw hS hl
    rw [M_X12_haveBits_B10] at h
    refine lv_iload hx hb dX12_haveBits_10 (lv_at hl 4 rfl) ?_
    refine lv_bipush (v := 6) hx hb dX12_haveBits_12 (by decide) ?_
    refine lv_icmp_ge (tgt := 41) hx hb dX12_haveBits_14 (by decide) (fun c3 => ?_) (fun c3 => ?_)
    · replace h := z_ifp c3 h
      refine lv_iload_n hx hb dX12_haveBits_41 rfl (lv_at hl 3 rfl) ?_
      exact z_reti C0 hw hS (congrArg (fun z => (z, S)) (Option.some.inj h)) dX12_haveBits_42
    · replace h := z_ifn c3 h
      refine lv_aload_n hx hb dX12_haveBits_17 rfl (lv_at hl 0 rfl) ?_
      refine lv_iload_n hx hb dX12_haveBits_18 rfl (lv_at hl 1 rfl) ?_
      refine lv_iload hx hb dX12_haveBits_19 (lv_at hl 4 rfl) ?_
      refine lv_iload_n hx hb dX12_haveBits_21 rfl (lv_at hl 2 rfl) ?_
      obtain ⟨w4, ew4, h⟩ := z_bd h
      refine z_callVip C0 hw hS (k := 0) (As := [.int x1, .int x4, .int x2]) (rest := []) rfl rfl rfl rfl (c_X12_hasDeed l D Y F G S _ x1 x4 x2 w4 ew4) (cwV 3 hts gX12_haveBits_X12_hasDeed rfl rfl rfl (by decide +kernel) ⟨Nat.le_of_ble_eq_true rfl, Nat.le_of_ble_eq_true rfl⟩) rfl hl.1 rfl (Nat.le_of_ble_eq_true rfl) dX12_haveBits_22 ⟨Nat.zero_le _, Nat.zero_le _⟩ (fun H locs hw hS => ?_)
      refine lv_if_eq (tgt := 35) hx hb dX12_haveBits_25 (by decide) (fun c5 => ?_) (fun c5 => ?_)
      · replace h := z_ifp c5 h
        refine lv_iinc (v := (x4 + 1)) (lv' := [(4, .int ((x4 + 1))), (0, .ref (F 0)), (1, .int x1), (2, .int x2), (3, .int x3)]) hx hb dX12_haveBits_35 hl (k := 4) rfl rfl (by decide) rfl (fun ls hl => ?_)
        refine lv_goto (tgt := 10) hx hb dX12_haveBits_38 (by decide) ?_
        exact ih x1 x2 x3 ((x4 + 1)) h _ _ _ hw hS (lv_sub hl [1, 2, 3, 4, 0] rfl)
      · replace h := z_ifn c5 h
        refine lv_iload_n hx hb dX12_haveBits_28 rfl (lv_at hl 3 rfl) ?_
        refine lv_iconst (v := 1) hx hb dX12_haveBits_29 (by decide) ?_
        refine lv_iload hx hb dX12_haveBits_30 (lv_at hl 4 rfl) ?_
        refine lv_ishl hx hb dX12_haveBits_32 ?_
        refine lv_ior hx hb dX12_haveBits_33 ?_
        obtain ⟨v6, ev6, h⟩ := z_bd h
        refine z_top (Option.some.inj ev6) ?_
        refine lv_istore_n (lv' := [(3, .int v6), (0, .ref (F 0)), (1, .int x1), (2, .int x2), (4, .int x4)]) hx hb dX12_haveBits_34 rfl hl (by decide) rfl (fun ls hl => ?_)
        refine lv_iinc (v := (x4 + 1)) (lv' := [(4, .int ((x4 + 1))), (3, .int v6), (0, .ref (F 0)), (1, .int x1), (2, .int x2)]) hx hb dX12_haveBits_35 hl (k := 4) rfl rfl (by decide) rfl (fun ls hl => ?_)
        refine lv_goto (tgt := 10) hx hb dX12_haveBits_38 (by decide) ?_
        exact ih x1 x2 v6 ((x4 + 1)) h _ _ _ hw hS (lv_sub hl [2, 3, 4, 1, 0] rfl)
def M_X12_haveBits (S : zSt) (x1 : Int32) (x2 : Int32) : Option (Int32) :=
  zg (zin x1 6) (Option.bind (some ((zar S 7 (Int32.toNatClampNeg x1)))) (fun v2 => M_X12_haveBits_B10 S zF x1 x2 0 v2))
set_option maxHeartbeats 4000000 in
set_option maxRecDepth 100000 in
theorem c_X12_haveBits (l : Launch) (D : va_G) (Y : Nat → ClassId) (F : Nat → Nat) (G : zG) (S : zSt) (sz : Nat) (x1 : Int32) (x2 : Int32) (res : Int32) (h : M_X12_haveBits S x1 x2 = some res) : Met l yX12_haveBits wsX12_haveBits (zRm 2 46) (zPc D Y F G S sz [.ref (F 0), .int x1, .int x2]) (zQi D Y F (zAo F G sz) G (res, S)) 0 0 (zAo F G sz) := by
  unfold M_X12_haveBits at h
  refine zMet (cc := cX12_haveBits) (maxL := 5) (ret := (some .int)) (own := RX12) (by decide +kernel) rfl rfl (Nat.le_of_ble_eq_true rfl) ?_
  intro p e s m args below meth c C0 hin hw hS ls hl
  have hl : lv_has ls 5 [(0, .ref (F 0)), (1, .int x1), (2, .int x2)] := hl
  generalize zAo F G sz = A at C0 hw hS ⊢
  obtain ⟨hx, hb, hml, hr, hown, hts, hK, hA, hlk, hN⟩ := id C0
  refine lv_iconst (v := 0) hx hb dX12_haveBits_0 (by decide) ?_
  refine lv_istore_n (lv' := [(3, .int 0), (0, .ref (F 0)), (1, .int x1), (2, .int x2)]) hx hb dX12_haveBits_1 rfl hl (by decide) rfl (fun ls hl => ?_)
  refine lv_aload_n hx hb dX12_haveBits_2 rfl (lv_at hl 1 rfl) ?_
  refine z_get C0 in_X12_haveBits_X12 (C := RX12) (T := TX12) (N := 27) hw (k := 0) (ci := 12) (v := .ref (F 7)) rfl rfl rfl rfl 7 (by decide) rfl 1 rfl dX12_haveBits_3 ?_
  refine lv_iload_n hx hb dX12_haveBits_6 rfl (lv_at hl 2 rfl) ?_
  obtain ⟨b1, h⟩ := z_gd h
  refine z_iald C0 hw 7 rfl rfl zri_7 (zin_in b1) dX12_haveBits_7 ?_
  obtain ⟨v2, ev2, h⟩ := z_bd h
  refine z_top (Option.some.inj ev2) ?_
  refine lv_istore (lv' := [(4, .int v2), (3, .int 0), (0, .ref (F 0)), (1, .int x1), (2, .int x2)]) hx hb dX12_haveBits_8 hl (by decide) rfl (fun ls hl => ?_)
  exact t_X12_haveBits_B10 C0 S res zF x1 x2 0 v2 h _ _ _ hw hS (lv_sub hl [2, 3, 4, 1, 0] rfl)
