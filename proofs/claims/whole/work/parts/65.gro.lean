def zlet2 {β : Type} (w : (Nat → Nat) × zSt) (f : (Nat → Nat) → zSt → Option β) : Option β := f w.1 w.2
def zlet3 {α β : Type} (w : α × (Nat → Nat) × zSt) (f : α → (Nat → Nat) → zSt → Option β) : Option β := f w.1 w.2.1 w.2.2
theorem zlet2_h {β : Type} {p : Nat → Nat} {S : zSt} {f : (Nat → Nat) → zSt → Option β} {r : β} {G1 : zG} (hG : zpk G1 = (p, S).1) (h : zlet2 (p, S) f = some r) : f (zpk G1) S = some r := by
  rw [hG]; exact h
theorem zlet3_h {α β : Type} {a : α} {p : Nat → Nat} {S : zSt} {f : α → (Nat → Nat) → zSt → Option β} {r : β} {G1 : zG} (hG : zpk G1 = (a, p, S).2.1) (h : zlet3 (a, p, S) f = some r) : f a (zpk G1) S = some r := by
  rw [hG]; exact h
set_option maxRecDepth 20000 in
theorem in_X11_behind_X11 : ∀ w ∈ u_ws RX11 TX11 14, w ∈ wsX11_behind := by decide +kernel
set_option maxRecDepth 20000 in
theorem in_X11_image_X11 : ∀ w ∈ u_ws RX11 TX11 14, w ∈ wsX11_image := by decide +kernel
set_option maxRecDepth 20000 in
theorem in_X11_image_X4 : ∀ w ∈ u_ws RX4 TX4 6, w ∈ wsX11_image := by decide +kernel
set_option maxRecDepth 20000 in
theorem in_X11_land_X11 : ∀ w ∈ u_ws RX11 TX11 14, w ∈ wsX11_land := by decide +kernel
set_option maxRecDepth 20000 in
theorem in_X11_land_X6 : ∀ w ∈ u_ws RX6 TX6 10, w ∈ wsX11_land := by decide +kernel
set_option maxRecDepth 20000 in
theorem in_X11_person_X11 : ∀ w ∈ u_ws RX11 TX11 14, w ∈ wsX11_person := by decide +kernel
set_option maxRecDepth 20000 in
theorem in_X11_restore_X11 : ∀ w ∈ u_ws RX11 TX11 14, w ∈ wsX11_restore := by decide +kernel
set_option maxRecDepth 20000 in
theorem in_X11_restore_X4 : ∀ w ∈ u_ws RX4 TX4 6, w ∈ wsX11_restore := by decide +kernel
set_option maxRecDepth 20000 in
theorem in_X11_restore_X7 : ∀ w ∈ u_ws RX7 TX7 3, w ∈ wsX11_restore := by decide +kernel
set_option maxRecDepth 20000 in
theorem in_X4_add_X4 : ∀ w ∈ u_ws RX4 TX4 6, w ∈ wsX4_add := by decide +kernel
set_option maxRecDepth 20000 in
theorem in_X4_takeFrom_X4 : ∀ w ∈ u_ws RX4 TX4 6, w ∈ wsX4_takeFrom := by decide +kernel
set_option maxRecDepth 20000 in
theorem in_X6_readFrom_X6 : ∀ w ∈ u_ws RX6 TX6 10, w ∈ wsX6_readFrom := by decide +kernel
set_option maxRecDepth 20000 in
theorem in_X6_readFrom_X7 : ∀ w ∈ u_ws RX7 TX7 3, w ∈ wsX6_readFrom := by decide +kernel
set_option maxRecDepth 20000 in
theorem in_X6_tellItem_X4 : ∀ w ∈ u_ws RX4 TX4 6, w ∈ wsX6_tellItem := by decide +kernel
set_option maxRecDepth 20000 in
theorem in_X6_tellItem_X6 : ∀ w ∈ u_ws RX6 TX6 10, w ∈ wsX6_tellItem := by decide +kernel
set_option maxRecDepth 20000 in
theorem inP_X4_add : ∀ w ∈ wsPers, w ∈ wsX4_add := by decide +kernel
set_option maxRecDepth 20000 in
theorem inP_X4_takeFrom : ∀ w ∈ wsPers, w ∈ wsX4_takeFrom := by decide +kernel
set_option maxRecDepth 20000 in
theorem inP_X6_tellItem : ∀ w ∈ wsPers, w ∈ wsX6_tellItem := by decide +kernel
def M_X4_add (pk : Nat → Nat) (S : zSt) (i0 : Nat) (x1 : Int32) (x2 : Int32) (x3 : Int32) : Option (Int32 × (Nat → Nat) × zSt) :=
  zg (decide (1 ≤ 1)) (Option.bind (M_X4_placeFor pk S i0 ((zsc S (60 + 3 * i0) 3)) x1) (fun w1_ => zlet3 w1_ (fun w1 pk T2 => (zm w1 (some ((-1), pk, T2)) (fun q5 => zg (zOKb pk q5) (Option.bind (M_X5_begin pk T2 q5 x2 x3) (fun w6 => some ((zsc ((zP w6 ((60 + 3 * i0)) 3 (((zsc w6 (60 + 3 * i0) 3) + 1)))) (100 + 4 * q5) 1), pk, (zP w6 ((60 + 3 * i0)) 3 (((zsc w6 (60 + 3 * i0) 3) + 1)))))))))))
set_option maxHeartbeats 4000000 in
set_option maxRecDepth 100000 in
theorem c_X4_add (l : Launch) (D : va_G) (Y : Nat → ClassId) (F : Nat → Nat) (G : zG) (S : zSt) (sz : Nat) (i0 : Nat) (hi0 : i0 < 3) (x1 : Int32) (x2 : Int32) (x3 : Int32) (res : Int32 × (Nat → Nat) × zSt) (h : M_X4_add (zpk G) S i0 x1 x2 x3 = some res) : Met l yX4_add wsX4_add { frames := 5, cells := 4, slots := 69, locals := 104 } (zPc D Y F G S sz [.ref (zad F G (60 + 3 * i0)), .int x1, .int x2, .int x3]) (zQiG D Y F (zAo F G sz) res) 4 69 (zAo F G sz) := by
  unfold M_X4_add at h
  refine zMet (cc := cX4_add) (maxL := 5) (ret := (some .int)) (own := RX4) (by decide +kernel) rfl rfl (Nat.le_of_ble_eq_true rfl) ?_
  intro p e s m args below meth c C0 hin hw hS ls hl
  have hl : lv_has ls 5 [(0, .ref (zad F G (60 + 3 * i0))), (1, .int x1), (2, .int x2), (3, .int x3)] := hl
  generalize zAo F G sz = A at C0 hw hS ⊢
  obtain ⟨hx, hb, hml, hr, hown, hts, hK, hA, hlk, hN⟩ := id C0
  have hc0 : 0 + 4 * 1 ≤ 4 := by omega
  have hs0 : 0 + 69 * 1 ≤ 69 := by omega
  refine lv_aload_n hx hb dX4_add_0 rfl (lv_at hl 0 rfl) ?_
  refine lv_aload_n hx hb dX4_add_1 rfl (lv_at hl 0 rfl) ?_
  refine z_getU C0 in_X4_add_X4 (C := RX4) (T := TX4) (N := 6) hw (k := (60 + 3 * i0)) (ci := 4) (v := .int ((zsc S (60 + 3 * i0) 3))) (zld_E hi0) rfl (zld_B hi0) rfl 3 (by decide) rfl 1 rfl (Or.inl rfl) dX4_add_2 ?_
  refine lv_iload_n hx hb dX4_add_5 rfl (lv_at hl 1 rfl) ?_
  obtain ⟨b4, h⟩ := z_gd h
  have b4 : 1 ≤ 1 := of_decide_eq_true b4
  obtain ⟨⟨w1, p3, T2⟩, ew1, h⟩ := z_bd h
  refine z_goqG (i := i0) (mc := 4) (ms := 69) C0 hw hS (res := (w1, p3, T2)) (rest := []) (arr := (Value.ref (zad F G (60 + 3 * i0)) :: [.int ((zsc S (60 + 3 * i0) 3)), .int x1]).toArray) ?_ (fun G1 H locs hG hGk hw hS => ?_)
  · exact va_runV (z_fix C0) (c_X4_placeFor l D Y F G S _ i0 hi0 ((zsc S (60 + 3 * i0) 3)) x1 (w1, p3, T2) ew1) (cwV 2 hts gX4_add_X4_placeFor rfl rfl rfl (by decide +kernel) ⟨Nat.le_of_ble_eq_true rfl, Nat.le_of_ble_eq_true rfl⟩) ⟨zPc_blind, z_rv C0 hw (k := (60 + 3 * i0)) (zld_E hi0) rfl (zld_B hi0) rfl, z_give C0 hw hS _⟩ rfl rfl hl.1 rfl (lv_room (Nat.le_of_ble_eq_true rfl)) dX4_add_6 ⟨by show 0 + 4 ≤ 4; omega, by show 0 + 69 ≤ 69; omega⟩
  replace h := zlet3_h hG h
  have hc0 : (0 + 4) + 4 * (1 - 1) ≤ 4 := by omega
  have hs0 : (0 + 69) + 69 * (1 - 1) ≤ 69 := by omega
  have hl := lv_sub hl [0, 2, 3] rfl
  rw [show zad F G (60 + 3 * i0) = zad F G1 (60 + 3 * i0) from zad_lo (by omega)] at hl
  rename zG => G
  have hl : lv_has ls 5 [(0, .ref (zad F G (60 + 3 * i0))), (2, .int x2), (3, .int x3)] := hl
  rcases w1 with _ | q5
  · replace h := zm_n h
    refine z_topv (y := .null) rfl ?_
    refine lv_astoreN (lv' := [(4, .null), (0, .ref (zad F G (60 + 3 * i0))), (2, .int x2), (3, .int x3)]) hx hb dX4_add_9 hl (by decide) rfl (fun ls hl => ?_)
    refine lv_aloadN hx hb dX4_add_11 (lv_at hl 0 rfl) ?_
    refine lv_ifnonnullN hx hb dX4_add_13 ?_
    refine lv_iconst (v := (-1)) hx hb dX4_add_16 (by decide) ?_
    exact z_retiG C0 hw hS (zle hc0) (zle hs0) (Option.some.inj h) dX4_add_17
  · replace h := zm_s h
    obtain ⟨bq5, h⟩ := z_gd h
    have hq5 := bq5
    refine z_topv (y := .ref (zad F G (100 + 4 * q5))) rfl ?_
    refine lv_astore (lv' := [(4, .ref (zad F G (100 + 4 * q5))), (0, .ref (zad F G (60 + 3 * i0))), (2, .int x2), (3, .int x3)]) hx hb dX4_add_9 hl (by decide) rfl (fun ls hl => ?_)
    refine lv_aload hx hb dX4_add_11 (lv_at hl 0 rfl) ?_
    refine lv_ifnonnull (tgt := 18) hx hb dX4_add_13 (by decide) ?_
    refine lv_aload hx hb dX4_add_18 (lv_at hl 0 rfl) ?_
    refine lv_iload_n hx hb dX4_add_20 rfl (lv_at hl 2 rfl) ?_
    refine lv_iload_n hx hb dX4_add_21 rfl (lv_at hl 3 rfl) ?_
    obtain ⟨w6, ew6, h⟩ := z_bd h
    refine z_gov C0 hw hS (res := w6) (rest := []) (arr := (Value.ref (zad F G (100 + 4 * q5)) :: [.int x2, .int x3]).toArray) ?_ (fun H locs hw hS => ?_)
    · rcases zOK_cases hq5 with zz | zz | zz | zz | zz | zz | zz
      · exact va_runU (z_fix C0) (c_X5_begin l D Y F G T2 _ q5 hq5 x2 x3 w6 ew6) (va_cwU 2 hts gX4_add_X5_begin_u63X0 rfl rfl rfl rfl (by decide +kernel) ⟨Nat.le_of_ble_eq_true rfl, Nat.le_of_ble_eq_true rfl⟩) ⟨zPc_blind, z_prec C0 hw hq5 (ci := 0) zz rfl, z_give C0 hw hS _⟩ rfl rfl hl.1 rfl (lv_room (Nat.le_of_ble_eq_true rfl)) dX4_add_22 ⟨zle hc0, zle hs0⟩
      · exact va_runU (z_fix C0) (c_X5_begin l D Y F G T2 _ q5 hq5 x2 x3 w6 ew6) (va_cwU 2 hts gX4_add_X5_begin_u63X1 rfl rfl rfl rfl (by decide +kernel) ⟨Nat.le_of_ble_eq_true rfl, Nat.le_of_ble_eq_true rfl⟩) ⟨zPc_blind, z_prec C0 hw hq5 (ci := 1) zz rfl, z_give C0 hw hS _⟩ rfl rfl hl.1 rfl (lv_room (Nat.le_of_ble_eq_true rfl)) dX4_add_22 ⟨zle hc0, zle hs0⟩
      · exact va_runU (z_fix C0) (c_X5_begin l D Y F G T2 _ q5 hq5 x2 x3 w6 ew6) (va_cwU 2 hts gX4_add_X5_begin_u63X2 rfl rfl rfl rfl (by decide +kernel) ⟨Nat.le_of_ble_eq_true rfl, Nat.le_of_ble_eq_true rfl⟩) ⟨zPc_blind, z_prec C0 hw hq5 (ci := 2) zz rfl, z_give C0 hw hS _⟩ rfl rfl hl.1 rfl (lv_room (Nat.le_of_ble_eq_true rfl)) dX4_add_22 ⟨zle hc0, zle hs0⟩
      · exact va_runU (z_fix C0) (c_X5_begin l D Y F G T2 _ q5 hq5 x2 x3 w6 ew6) (va_cwU 2 hts gX4_add_X5_begin_u63X3 rfl rfl rfl rfl (by decide +kernel) ⟨Nat.le_of_ble_eq_true rfl, Nat.le_of_ble_eq_true rfl⟩) ⟨zPc_blind, z_prec C0 hw hq5 (ci := 3) zz rfl, z_give C0 hw hS _⟩ rfl rfl hl.1 rfl (lv_room (Nat.le_of_ble_eq_true rfl)) dX4_add_22 ⟨zle hc0, zle hs0⟩
      · exact va_runV (z_fix C0) (c_X5_begin l D Y F G T2 _ q5 hq5 x2 x3 w6 ew6) (cwV 2 hts gX4_add_X5_begin rfl rfl rfl (by decide +kernel) ⟨Nat.le_of_ble_eq_true rfl, Nat.le_of_ble_eq_true rfl⟩) ⟨zPc_blind, z_prec C0 hw hq5 (ci := 5) zz rfl, z_give C0 hw hS _⟩ rfl rfl hl.1 rfl (lv_room (Nat.le_of_ble_eq_true rfl)) dX4_add_22 ⟨zle hc0, zle hs0⟩
      · exact va_runU (z_fix C0) (c_X5_begin l D Y F G T2 _ q5 hq5 x2 x3 w6 ew6) (va_cwU 2 hts gX4_add_X5_begin_u63X8 rfl rfl rfl rfl (by decide +kernel) ⟨Nat.le_of_ble_eq_true rfl, Nat.le_of_ble_eq_true rfl⟩) ⟨zPc_blind, z_prec C0 hw hq5 (ci := 8) zz rfl, z_give C0 hw hS _⟩ rfl rfl hl.1 rfl (lv_room (Nat.le_of_ble_eq_true rfl)) dX4_add_22 ⟨zle hc0, zle hs0⟩
      · exact va_runU (z_fix C0) (c_X5_begin l D Y F G T2 _ q5 hq5 x2 x3 w6 ew6) (va_cwU 2 hts gX4_add_X5_begin_u63X10 rfl rfl rfl rfl (by decide +kernel) ⟨Nat.le_of_ble_eq_true rfl, Nat.le_of_ble_eq_true rfl⟩) ⟨zPc_blind, z_prec C0 hw hq5 (ci := 10) zz rfl, z_give C0 hw hS _⟩ rfl rfl hl.1 rfl (lv_room (Nat.le_of_ble_eq_true rfl)) dX4_add_22 ⟨zle hc0, zle hs0⟩
    refine lv_aload_n hx hb dX4_add_25 rfl (lv_at hl 1 rfl) ?_
    refine lv_dup hx hb dX4_add_26 rfl ?_
    refine z_getU C0 in_X4_add_X4 (C := RX4) (T := TX4) (N := 6) hw (k := (60 + 3 * i0)) (ci := 4) (v := .int ((zsc w6 (60 + 3 * i0) 3))) (zld_E hi0) rfl (zld_B hi0) rfl 3 (by decide) rfl 1 rfl (Or.inl rfl) dX4_add_27 ?_
    refine lv_iconst (v := 1) hx hb dX4_add_30 (by decide) ?_
    refine lv_iadd hx hb dX4_add_31 ?_
    refine z_putU C0 in_X4_add_X4 tyX4 tyX4_ok nmX4 (C := RX4) (T := TX4) (N := 6) hw hS (k := (60 + 3 * i0)) (ci := 4) (v := ((zsc w6 (60 + 3 * i0) 3) + 1)) (zld_E hi0) rfl (zld_B hi0) rfl 3 (by decide) 1 rfl rfl rfl rfl (Nat.le_of_ble_eq_true rfl) (zld_P hi0 (by decide)) dX4_add_32 (fun H locs hw hS => ?_)
    refine lv_aload hx hb dX4_add_35 (lv_at hl 0 rfl) ?_
    refine z_getP C0 inP_X4_add hw hq5 1 (by decide) (v := .int ((zsc ((zP w6 ((60 + 3 * i0)) 3 (((zsc w6 (60 + 3 * i0) 3) + 1)))) (100 + 4 * q5) 1))) rfl 2 rfl (Or.inl rfl) dX4_add_37 ?_
    exact z_retiG C0 hw hS (zle hc0) (zle hs0) (Option.some.inj h) dX4_add_40
def M_X4_takeFrom_B23 (i0 : Nat) (i1 : Nat) : Nat → (Nat → Nat) → zSt → Nat → Int32 → Option ((Nat → Nat) × zSt)
  | 0, _, _, _, _ => none
  | n + 1, pk, S, b, x2 =>
  (if (zsc S (60 + 3 * i1) 3) ≤ x2 then some (pk, S) else (if 6 ≤ x2 then some (pk, S) else Option.bind (M_X4_personAt pk S i1 x2) (fun w3 => (zm w3 (M_X4_takeFrom_B23 i0 i1 n pk S b ((x2 + 1))) (fun q4 => zg (zOKb pk q4) (zg (decide (1 ≤ b)) (Option.bind (M_X4_placeFor pk S i0 x2 ((zsc S (100 + 4 * q4) 0))) (fun w5_ => zlet3 w5_ (fun w5 pk T6 => zg (zOKb pk q4 && decide (q4 / 6 ≠ i0)) ((zm w5 (M_X4_takeFrom_B23 i0 i1 n pk T6 ((b - 1)) ((x2 + 1))) (fun q10 => zg (zOKb pk q10) (Option.bind (M_X5_takeFrom pk T6 q10 q4) (fun w11 => M_X4_takeFrom_B23 i0 i1 n pk ((zP w11 ((60 + 3 * i0)) 3 ((x2 + 1)))) ((b - 1)) ((x2 + 1))))))))))))))))
set_option maxHeartbeats 4000000 in
set_option maxRecDepth 100000 in
theorem t_X4_takeFrom_B23 {p : Program} {l : Launch} {e : Env} {s : State} {m : MethodId} {args : Array Value} {below : List Frame} {meth : Method} {c : Code} {D : va_G} {Y : Nat → ClassId} {F : Nat → Nat} {A : Nat → Prop} (C0 : zCx p s m args meth c D Y F A RX4 cX4_takeFrom 5 none wsX4_takeFrom) (i0 : Nat) (i1 : Nat) (hi0 : i0 < 3) (hi1 : i1 < 3) (res : (Nat → Nat) × zSt) : ∀ (n : Nat), ∀ (G : zG) (S : zSt) (b : Nat) (x2 : Int32), M_X4_takeFrom_B23 i0 i1 n (zpk G) S b x2 = some res → ∀ (cells slots : Nat), cells + 4 * b ≤ 24 → slots + 69 * b ≤ 414 → ∀ (H : Heap) (locs : List Loc) (ls : Array Slot), zH D Y F A G S H → va_S A s.heap H locs → lv_has ls 5 [(0, .ref (zad F G (60 + 3 * i0))), (1, .ref (zad F G (60 + 3 * i1))), (2, .int x2)] → W p l e { frames := 5, cells := 24, slots := 414, locals := 104 } s m args below meth c H locs cells slots (MQ below (zQvG D Y F A res) args s 24 414 A) (F0 m 23 ls []) := by
  obtain ⟨hx, hb, hml, hr, hown, hts, hK, hA, hlk, hN⟩ := id C0
  intro n
  induction n with
  | zero =>
    intro G S b x2 h
    unfold M_X4_takeFrom_B23 at h
    cases h
  | succ n ih =>
    intro G S b x2 h cells slots hc0 hs0 H locs ls hw hS hl
    rw [M_X4_takeFrom_B23] at h
    refine lv_iload_n hx hb dX4_takeFrom_23 rfl (lv_at hl 2 rfl) ?_
    refine lv_aload_n hx hb dX4_takeFrom_24 rfl (lv_at hl 1 rfl) ?_
    refine z_getU C0 in_X4_takeFrom_X4 (C := RX4) (T := TX4) (N := 6) hw (k := (60 + 3 * i1)) (ci := 4) (v := .int ((zsc S (60 + 3 * i1) 3))) (zld_E hi1) rfl (zld_B hi1) rfl 3 (by decide) rfl 3 rfl (Or.inl rfl) dX4_takeFrom_25 ?_
    refine lv_icmp_ge (tgt := 86) hx hb dX4_takeFrom_28 (by decide) (fun c1 => ?_) (fun c1 => ?_)
    · replace h := z_ifp c1 h
      exact z_retvG C0 hw hS (zle hc0) (zle hs0) (Option.some.inj h) dX4_takeFrom_86
    · replace h := z_ifn c1 h
      refine lv_iload_n hx hb dX4_takeFrom_31 rfl (lv_at hl 2 rfl) ?_
      refine lv_bipush (v := 6) hx hb dX4_takeFrom_32 (by decide) ?_
      refine lv_icmp_ge (tgt := 86) hx hb dX4_takeFrom_34 (by decide) (fun c2 => ?_) (fun c2 => ?_)
      · replace h := z_ifp c2 h
        exact z_retvG C0 hw hS (zle hc0) (zle hs0) (Option.some.inj h) dX4_takeFrom_86
      · replace h := z_ifn c2 h
        refine lv_aload_n hx hb dX4_takeFrom_37 rfl (lv_at hl 1 rfl) ?_
        refine lv_iload_n hx hb dX4_takeFrom_38 rfl (lv_at hl 2 rfl) ?_
        obtain ⟨w3, ew3, h⟩ := z_bd h
        refine z_goq C0 hw hS (r0 := w3.map (zpa F G)) (rest := []) (arr := (Value.ref (zad F G (60 + 3 * i1)) :: [.int x2]).toArray) ?_ (fun H locs hw hS => ?_)
        · exact va_runV (z_fix C0) (c_X4_personAt l D Y F G S _ i1 hi1 x2 w3 ew3) (cwV 1 hts gX4_takeFrom_X4_personAt rfl rfl rfl (by decide +kernel) ⟨Nat.le_of_ble_eq_true rfl, Nat.le_of_ble_eq_true rfl⟩) ⟨zPc_blind, z_rv C0 hw (k := (60 + 3 * i1)) (zld_E hi1) rfl (zld_B hi1) rfl, z_give C0 hw hS _⟩ rfl rfl hl.1 rfl (lv_room (Nat.le_of_ble_eq_true rfl)) dX4_takeFrom_39 ⟨zle hc0, zle hs0⟩
        rcases w3 with _ | q4
        · replace h := zm_n h
          refine z_topv (y := .null) rfl ?_
          refine lv_astore_nN (lv' := [(3, .null), (0, .ref (zad F G (60 + 3 * i0))), (1, .ref (zad F G (60 + 3 * i1))), (2, .int x2)]) hx hb dX4_takeFrom_42 rfl hl (by decide) rfl (fun ls hl => ?_)
          refine lv_aload_nN hx hb dX4_takeFrom_43 rfl (lv_at hl 0 rfl) ?_
          refine lv_ifnonnullN hx hb dX4_takeFrom_44 ?_
          refine lv_null hx hb dX4_takeFrom_47 ?_
          refine lv_goto (tgt := 60) hx hb dX4_takeFrom_48 (by decide) ?_
          refine lv_astoreN (lv' := [(4, .null), (3, .null), (0, .ref (zad F G (60 + 3 * i0))), (1, .ref (zad F G (60 + 3 * i1))), (2, .int x2)]) hx hb dX4_takeFrom_60 hl (by decide) rfl (fun ls hl => ?_)
          refine lv_aloadN hx hb dX4_takeFrom_62 (lv_at hl 0 rfl) ?_
          refine lv_ifnullN (tgt := 80) hx hb dX4_takeFrom_64 (by decide) ?_
          refine lv_iinc (v := (x2 + 1)) (lv' := [(2, .int ((x2 + 1))), (4, .null), (3, .null), (0, .ref (zad F G (60 + 3 * i0))), (1, .ref (zad F G (60 + 3 * i1)))]) hx hb dX4_takeFrom_80 hl (k := 4) rfl rfl (by decide) rfl (fun ls hl => ?_)
          refine lv_goto (tgt := 23) hx hb dX4_takeFrom_83 (by decide) ?_
          exact ih G S b ((x2 + 1)) h _ _ hc0 hs0 _ _ _ hw hS (lv_sub hl [3, 4, 0] rfl)
        · replace h := zm_s h
          obtain ⟨bq4, h⟩ := z_gd h
          have hq4 := bq4
          refine z_topv (y := .ref (zad F G (100 + 4 * q4))) rfl ?_
          refine lv_astore_n (lv' := [(3, .ref (zad F G (100 + 4 * q4))), (0, .ref (zad F G (60 + 3 * i0))), (1, .ref (zad F G (60 + 3 * i1))), (2, .int x2)]) hx hb dX4_takeFrom_42 rfl hl (by decide) rfl (fun ls hl => ?_)
          refine lv_aload_n hx hb dX4_takeFrom_43 rfl (lv_at hl 0 rfl) ?_
          refine lv_ifnonnull (tgt := 51) hx hb dX4_takeFrom_44 (by decide) ?_
          refine lv_aload_n hx hb dX4_takeFrom_51 rfl (lv_at hl 1 rfl) ?_
          refine lv_iload_n hx hb dX4_takeFrom_52 rfl (lv_at hl 3 rfl) ?_
          refine lv_aload_n hx hb dX4_takeFrom_53 rfl (lv_at hl 0 rfl) ?_
          refine z_getP C0 inP_X4_takeFrom hw hq4 0 (by decide) (v := .int ((zsc S (100 + 4 * q4) 0))) rfl 4 rfl (Or.inl rfl) dX4_takeFrom_54 ?_
          obtain ⟨b8, h⟩ := z_gd h
          have b8 : 1 ≤ b := of_decide_eq_true b8
          obtain ⟨⟨w5, p7, T6⟩, ew5, h⟩ := z_bd h
          refine z_goqG (i := i0) (mc := 4) (ms := 69) C0 hw hS (res := (w5, p7, T6)) (rest := []) (arr := (Value.ref (zad F G (60 + 3 * i0)) :: [.int x2, .int ((zsc S (100 + 4 * q4) 0))]).toArray) ?_ (fun G1 H locs hG hGk hw hS => ?_)
          · exact va_runV (z_fix C0) (c_X4_placeFor l D Y F G S _ i0 hi0 x2 ((zsc S (100 + 4 * q4) 0)) (w5, p7, T6) ew5) (cwV 2 hts gX4_takeFrom_X4_placeFor rfl rfl rfl (by decide +kernel) ⟨Nat.le_of_ble_eq_true rfl, Nat.le_of_ble_eq_true rfl⟩) ⟨zPc_blind, z_rv C0 hw (k := (60 + 3 * i0)) (zld_E hi0) rfl (zld_B hi0) rfl, z_give C0 hw hS _⟩ rfl rfl hl.1 rfl (lv_room (Nat.le_of_ble_eq_true rfl)) dX4_takeFrom_57 ⟨by show cells + 4 ≤ 24; omega, by show slots + 69 ≤ 414; omega⟩
          replace h := zlet3_h hG h
          have hc0 : (cells + 4) + 4 * (b - 1) ≤ 24 := by omega
          have hs0 : (slots + 69) + 69 * (b - 1) ≤ 414 := by omega
          have hl := lv_sub hl [0, 1, 2, 3] rfl
          obtain ⟨b9, h⟩ := z_gd h
          obtain ⟨b9, b9n⟩ := (Bool.and_eq_true _ _).mp b9
          rw [zad_hi (F := F) (hGk q4 (of_decide_eq_true b9n))] at hl
          rw [show zad F G (60 + 3 * i0) = zad F G1 (60 + 3 * i0) from zad_lo (by omega)] at hl
          rw [show zad F G (60 + 3 * i1) = zad F G1 (60 + 3 * i1) from zad_lo (by omega)] at hl
          rename zG => G
          have hl : lv_has ls 5 [(3, .ref (zad F G (100 + 4 * q4))), (0, .ref (zad F G (60 + 3 * i0))), (1, .ref (zad F G (60 + 3 * i1))), (2, .int x2)] := hl
          rcases w5 with _ | q10
          · replace h := zm_n h
            refine z_topv (y := .null) rfl ?_
            refine lv_astoreN (lv' := [(4, .null), (3, .ref (zad F G (100 + 4 * q4))), (0, .ref (zad F G (60 + 3 * i0))), (1, .ref (zad F G (60 + 3 * i1))), (2, .int x2)]) hx hb dX4_takeFrom_60 hl (by decide) rfl (fun ls hl => ?_)
            refine lv_aloadN hx hb dX4_takeFrom_62 (lv_at hl 0 rfl) ?_
            refine lv_ifnullN (tgt := 80) hx hb dX4_takeFrom_64 (by decide) ?_
            refine lv_iinc (v := (x2 + 1)) (lv' := [(2, .int ((x2 + 1))), (4, .null), (3, .ref (zad F G (100 + 4 * q4))), (0, .ref (zad F G (60 + 3 * i0))), (1, .ref (zad F G (60 + 3 * i1)))]) hx hb dX4_takeFrom_80 hl (k := 4) rfl rfl (by decide) rfl (fun ls hl => ?_)
            refine lv_goto (tgt := 23) hx hb dX4_takeFrom_83 (by decide) ?_
            exact ih G T6 ((b - 1)) ((x2 + 1)) h _ _ hc0 hs0 _ _ _ hw hS (lv_sub hl [3, 4, 0] rfl)
          · replace h := zm_s h
            obtain ⟨bq10, h⟩ := z_gd h
            have hq10 := bq10
            refine z_topv (y := .ref (zad F G (100 + 4 * q10))) rfl ?_
            refine lv_astore (lv' := [(4, .ref (zad F G (100 + 4 * q10))), (3, .ref (zad F G (100 + 4 * q4))), (0, .ref (zad F G (60 + 3 * i0))), (1, .ref (zad F G (60 + 3 * i1))), (2, .int x2)]) hx hb dX4_takeFrom_60 hl (by decide) rfl (fun ls hl => ?_)
            refine lv_aload hx hb dX4_takeFrom_62 (lv_at hl 0 rfl) ?_
            refine lv_ifnull hx hb dX4_takeFrom_64 ?_
            refine lv_aload hx hb dX4_takeFrom_67 (lv_at hl 0 rfl) ?_
            refine lv_aload_n hx hb dX4_takeFrom_69 rfl (lv_at hl 1 rfl) ?_
            obtain ⟨w11, ew11, h⟩ := z_bd h
            refine z_gov C0 hw hS (res := w11) (rest := []) (arr := (Value.ref (zad F G (100 + 4 * q10)) :: [.ref (zad F G (100 + 4 * q4))]).toArray) ?_ (fun H locs hw hS => ?_)
            · rcases zOK_cases hq10 with zz | zz | zz | zz | zz | zz | zz
              · exact va_runU (z_fix C0) (c_X5_takeFrom l D Y F G T6 _ q10 q4 hq10 b9 w11 ew11) (va_cwU 1 hts gX4_takeFrom_X5_takeFrom_u74X0 rfl rfl rfl rfl (by decide +kernel) ⟨Nat.le_of_ble_eq_true rfl, Nat.le_of_ble_eq_true rfl⟩) ⟨zPc_blind, z_prec C0 hw hq10 (ci := 0) zz rfl, z_give C0 hw hS _⟩ rfl rfl hl.1 rfl (lv_room (Nat.le_of_ble_eq_true rfl)) dX4_takeFrom_70 ⟨zle hc0, zle hs0⟩
              · exact va_runU (z_fix C0) (c_X5_takeFrom l D Y F G T6 _ q10 q4 hq10 b9 w11 ew11) (va_cwU 1 hts gX4_takeFrom_X5_takeFrom_u74X1 rfl rfl rfl rfl (by decide +kernel) ⟨Nat.le_of_ble_eq_true rfl, Nat.le_of_ble_eq_true rfl⟩) ⟨zPc_blind, z_prec C0 hw hq10 (ci := 1) zz rfl, z_give C0 hw hS _⟩ rfl rfl hl.1 rfl (lv_room (Nat.le_of_ble_eq_true rfl)) dX4_takeFrom_70 ⟨zle hc0, zle hs0⟩
              · exact va_runU (z_fix C0) (c_X5_takeFrom l D Y F G T6 _ q10 q4 hq10 b9 w11 ew11) (va_cwU 1 hts gX4_takeFrom_X5_takeFrom_u74X2 rfl rfl rfl rfl (by decide +kernel) ⟨Nat.le_of_ble_eq_true rfl, Nat.le_of_ble_eq_true rfl⟩) ⟨zPc_blind, z_prec C0 hw hq10 (ci := 2) zz rfl, z_give C0 hw hS _⟩ rfl rfl hl.1 rfl (lv_room (Nat.le_of_ble_eq_true rfl)) dX4_takeFrom_70 ⟨zle hc0, zle hs0⟩
              · exact va_runU (z_fix C0) (c_X5_takeFrom l D Y F G T6 _ q10 q4 hq10 b9 w11 ew11) (va_cwU 1 hts gX4_takeFrom_X5_takeFrom_u74X3 rfl rfl rfl rfl (by decide +kernel) ⟨Nat.le_of_ble_eq_true rfl, Nat.le_of_ble_eq_true rfl⟩) ⟨zPc_blind, z_prec C0 hw hq10 (ci := 3) zz rfl, z_give C0 hw hS _⟩ rfl rfl hl.1 rfl (lv_room (Nat.le_of_ble_eq_true rfl)) dX4_takeFrom_70 ⟨zle hc0, zle hs0⟩
              · exact va_runV (z_fix C0) (c_X5_takeFrom l D Y F G T6 _ q10 q4 hq10 b9 w11 ew11) (cwV 1 hts gX4_takeFrom_X5_takeFrom rfl rfl rfl (by decide +kernel) ⟨Nat.le_of_ble_eq_true rfl, Nat.le_of_ble_eq_true rfl⟩) ⟨zPc_blind, z_prec C0 hw hq10 (ci := 5) zz rfl, z_give C0 hw hS _⟩ rfl rfl hl.1 rfl (lv_room (Nat.le_of_ble_eq_true rfl)) dX4_takeFrom_70 ⟨zle hc0, zle hs0⟩
              · exact va_runU (z_fix C0) (c_X5_takeFrom l D Y F G T6 _ q10 q4 hq10 b9 w11 ew11) (va_cwU 1 hts gX4_takeFrom_X5_takeFrom_u74X8 rfl rfl rfl rfl (by decide +kernel) ⟨Nat.le_of_ble_eq_true rfl, Nat.le_of_ble_eq_true rfl⟩) ⟨zPc_blind, z_prec C0 hw hq10 (ci := 8) zz rfl, z_give C0 hw hS _⟩ rfl rfl hl.1 rfl (lv_room (Nat.le_of_ble_eq_true rfl)) dX4_takeFrom_70 ⟨zle hc0, zle hs0⟩
              · exact va_runU (z_fix C0) (c_X5_takeFrom l D Y F G T6 _ q10 q4 hq10 b9 w11 ew11) (va_cwU 1 hts gX4_takeFrom_X5_takeFrom_u74X10 rfl rfl rfl rfl (by decide +kernel) ⟨Nat.le_of_ble_eq_true rfl, Nat.le_of_ble_eq_true rfl⟩) ⟨zPc_blind, z_prec C0 hw hq10 (ci := 10) zz rfl, z_give C0 hw hS _⟩ rfl rfl hl.1 rfl (lv_room (Nat.le_of_ble_eq_true rfl)) dX4_takeFrom_70 ⟨zle hc0, zle hs0⟩
            refine lv_aload_n hx hb dX4_takeFrom_73 rfl (lv_at hl 2 rfl) ?_
            refine lv_iload_n hx hb dX4_takeFrom_74 rfl (lv_at hl 4 rfl) ?_
            refine lv_iconst (v := 1) hx hb dX4_takeFrom_75 (by decide) ?_
            refine lv_iadd hx hb dX4_takeFrom_76 ?_
            refine z_putU C0 in_X4_takeFrom_X4 tyX4 tyX4_ok nmX4 (C := RX4) (T := TX4) (N := 6) hw hS (k := (60 + 3 * i0)) (ci := 4) (v := (x2 + 1)) (zld_E hi0) rfl (zld_B hi0) rfl 3 (by decide) 3 rfl rfl rfl rfl (Nat.le_of_ble_eq_true rfl) (zld_P hi0 (by decide)) dX4_takeFrom_77 (fun H locs hw hS => ?_)
            refine lv_iinc (v := (x2 + 1)) (lv' := [(2, .int ((x2 + 1))), (4, .ref (zad F G (100 + 4 * q10))), (3, .ref (zad F G (100 + 4 * q4))), (0, .ref (zad F G (60 + 3 * i0))), (1, .ref (zad F G (60 + 3 * i1)))]) hx hb dX4_takeFrom_80 hl (k := 4) rfl rfl (by decide) rfl (fun ls hl => ?_)
            refine lv_goto (tgt := 23) hx hb dX4_takeFrom_83 (by decide) ?_
            exact ih G ((zP w11 ((60 + 3 * i0)) 3 ((x2 + 1)))) ((b - 1)) ((x2 + 1)) h _ _ hc0 hs0 _ _ _ hw hS (lv_sub hl [3, 4, 0] rfl)
def M_X4_takeFrom (pk : Nat → Nat) (S : zSt) (i0 : Nat) (i1 : Nat) : Option ((Nat → Nat) × zSt) :=
  M_X4_takeFrom_B23 i0 i1 zF pk ((zP ((zP ((zP S ((60 + 3 * i0)) 4 ((zsc S (60 + 3 * i1) 4)))) ((60 + 3 * i0)) 5 ((zsc ((zP S ((60 + 3 * i0)) 4 ((zsc S (60 + 3 * i1) 4)))) (60 + 3 * i1) 5)))) ((60 + 3 * i0)) 3 0)) 6 0
set_option maxHeartbeats 4000000 in
set_option maxRecDepth 100000 in
theorem c_X4_takeFrom (l : Launch) (D : va_G) (Y : Nat → ClassId) (F : Nat → Nat) (G : zG) (S : zSt) (sz : Nat) (i0 : Nat) (i1 : Nat) (hi0 : i0 < 3) (hi1 : i1 < 3) (res : (Nat → Nat) × zSt) (h : M_X4_takeFrom (zpk G) S i0 i1 = some res) : Met l yX4_takeFrom wsX4_takeFrom { frames := 5, cells := 24, slots := 414, locals := 104 } (zPc D Y F G S sz [.ref (zad F G (60 + 3 * i0)), .ref (zad F G (60 + 3 * i1))]) (zQvG D Y F (zAo F G sz) res) 24 414 (zAo F G sz) := by
  unfold M_X4_takeFrom at h
  refine zMet (cc := cX4_takeFrom) (maxL := 5) (ret := none) (own := RX4) (by decide +kernel) rfl rfl (Nat.le_of_ble_eq_true rfl) ?_
  intro p e s m args below meth c C0 hin hw hS ls hl
  have hl : lv_has ls 5 [(0, .ref (zad F G (60 + 3 * i0))), (1, .ref (zad F G (60 + 3 * i1)))] := hl
  generalize zAo F G sz = A at C0 hw hS ⊢
  obtain ⟨hx, hb, hml, hr, hown, hts, hK, hA, hlk, hN⟩ := id C0
  have hc0 : 0 + 4 * 6 ≤ 24 := by omega
  have hs0 : 0 + 69 * 6 ≤ 414 := by omega
  refine lv_aload_n hx hb dX4_takeFrom_0 rfl (lv_at hl 0 rfl) ?_
  refine lv_aload_n hx hb dX4_takeFrom_1 rfl (lv_at hl 1 rfl) ?_
  refine z_getU C0 in_X4_takeFrom_X4 (C := RX4) (T := TX4) (N := 6) hw (k := (60 + 3 * i1)) (ci := 4) (v := .int ((zsc S (60 + 3 * i1) 4))) (zld_E hi1) rfl (zld_B hi1) rfl 4 (by decide) rfl 1 rfl (Or.inl rfl) dX4_takeFrom_2 ?_
  refine z_putU C0 in_X4_takeFrom_X4 tyX4 tyX4_ok nmX4 (C := RX4) (T := TX4) (N := 6) hw hS (k := (60 + 3 * i0)) (ci := 4) (v := (zsc S (60 + 3 * i1) 4)) (zld_E hi0) rfl (zld_B hi0) rfl 4 (by decide) 1 rfl rfl rfl rfl (Nat.le_of_ble_eq_true rfl) (zld_P hi0 (by decide)) dX4_takeFrom_5 (fun H locs hw hS => ?_)
  refine lv_aload_n hx hb dX4_takeFrom_8 rfl (lv_at hl 0 rfl) ?_
  refine lv_aload_n hx hb dX4_takeFrom_9 rfl (lv_at hl 1 rfl) ?_
  refine z_getU C0 in_X4_takeFrom_X4 (C := RX4) (T := TX4) (N := 6) hw (k := (60 + 3 * i1)) (ci := 4) (v := .int ((zsc ((zP S ((60 + 3 * i0)) 4 ((zsc S (60 + 3 * i1) 4)))) (60 + 3 * i1) 5))) (zld_E hi1) rfl (zld_B hi1) rfl 5 (by decide) rfl 2 rfl (Or.inl rfl) dX4_takeFrom_10 ?_
  refine z_putU C0 in_X4_takeFrom_X4 tyX4 tyX4_ok nmX4 (C := RX4) (T := TX4) (N := 6) hw hS (k := (60 + 3 * i0)) (ci := 4) (v := (zsc ((zP S ((60 + 3 * i0)) 4 ((zsc S (60 + 3 * i1) 4)))) (60 + 3 * i1) 5)) (zld_E hi0) rfl (zld_B hi0) rfl 5 (by decide) 2 rfl rfl rfl rfl (Nat.le_of_ble_eq_true rfl) (zld_P hi0 (by decide)) dX4_takeFrom_13 (fun H locs hw hS => ?_)
  refine lv_aload_n hx hb dX4_takeFrom_16 rfl (lv_at hl 0 rfl) ?_
  refine lv_iconst (v := 0) hx hb dX4_takeFrom_17 (by decide) ?_
  refine z_putU C0 in_X4_takeFrom_X4 tyX4 tyX4_ok nmX4 (C := RX4) (T := TX4) (N := 6) hw hS (k := (60 + 3 * i0)) (ci := 4) (v := 0) (zld_E hi0) rfl (zld_B hi0) rfl 3 (by decide) 3 rfl rfl rfl rfl (Nat.le_of_ble_eq_true rfl) (zld_P hi0 (by decide)) dX4_takeFrom_18 (fun H locs hw hS => ?_)
  refine lv_iconst (v := 0) hx hb dX4_takeFrom_21 (by decide) ?_
  refine lv_istore_n (lv' := [(2, .int 0), (0, .ref (zad F G (60 + 3 * i0))), (1, .ref (zad F G (60 + 3 * i1)))]) hx hb dX4_takeFrom_22 rfl hl (by decide) rfl (fun ls hl => ?_)
  exact t_X4_takeFrom_B23 C0 i0 i1 hi0 hi1 res zF G ((zP ((zP ((zP S ((60 + 3 * i0)) 4 ((zsc S (60 + 3 * i1) 4)))) ((60 + 3 * i0)) 5 ((zsc ((zP S ((60 + 3 * i0)) 4 ((zsc S (60 + 3 * i1) 4)))) (60 + 3 * i1) 5)))) ((60 + 3 * i0)) 3 0)) 6 0 h _ _ hc0 hs0 _ _ _ hw hS (lv_sub hl [1, 2, 0] rfl)
def M_X6_tellItem (pk : Nat → Nat) (S : zSt) : Option ((Nat → Nat) × zSt) :=
  Option.bind (M_X4_personAt pk S 1 ((zsc S 70 7))) (fun w1 => (zm w1 ((if (zsc S 70 6) = 0 then zg (decide (1 ≤ 1)) (Option.bind (M_X4_add pk S 1 ((zsc S 70 7)) ((zsc S 70 8)) ((zsc S 70 9))) (fun w5_ => zlet3 w5_ (fun w5 pk T6 => some (pk, T6)))) else (if (zsc S 70 6) = 4 then some (pk, (zP S 63 4 ((zsc S 70 7)))) else some (pk, S)))) (fun q2 => zg (zOKb pk q2) ((if (zsc S 70 6) = 0 then zg (decide (1 ≤ 1)) (Option.bind (M_X4_add pk S 1 ((zsc S 70 7)) ((zsc S 70 8)) ((zsc S 70 9))) (fun w15_ => zlet3 w15_ (fun w15 pk T16 => some (pk, T16)))) else (if (zsc S 70 6) = 4 then some (pk, (zP S 63 4 ((zsc S 70 7)))) else (if (zsc S 70 6) = 1 then Option.bind (M_X5_pressWith pk S q2 ((zsc S 70 8)) ((zsc S 70 9))) (fun w14 => some (pk, w14.2)) else (if (zsc S 70 6) = 2 then Option.bind (M_X5_rubOn pk S q2 ((zsc S 70 8)) ((zsc S 70 9))) (fun w13 => some (pk, w13.2)) else some (pk, (zP S ((100 + 4 * q2)) 8 (((zsc S (100 + 4 * q2) 8) + 1))))))))))))
set_option maxHeartbeats 4000000 in
set_option maxRecDepth 100000 in
theorem c_X6_tellItem (l : Launch) (D : va_G) (Y : Nat → ClassId) (F : Nat → Nat) (G : zG) (S : zSt) (sz : Nat) (res : (Nat → Nat) × zSt) (h : M_X6_tellItem (zpk G) S = some res) : Met l yX6_tellItem wsX6_tellItem { frames := 6, cells := 4, slots := 69, locals := 128 } (zPc D Y F G S sz [.ref (F 70)]) (zQvG D Y F (zAo F G sz) res) 4 69 (zAo F G sz) := by
  unfold M_X6_tellItem at h
  refine zMet (cc := cX6_tellItem) (maxL := 2) (ret := none) (own := RX6) (by decide +kernel) rfl rfl (Nat.le_of_ble_eq_true rfl) ?_
  intro p e s m args below meth c C0 hin hw hS ls hl
  have hl : lv_has ls 2 [(0, .ref (F 70))] := hl
  generalize zAo F G sz = A at C0 hw hS ⊢
  obtain ⟨hx, hb, hml, hr, hown, hts, hK, hA, hlk, hN⟩ := id C0
  have hc0 : 0 + 4 * 1 ≤ 4 := by omega
  have hs0 : 0 + 69 * 1 ≤ 69 := by omega
  refine lv_aload_n hx hb dX6_tellItem_0 rfl (lv_at hl 0 rfl) ?_
  refine z_getU C0 in_X6_tellItem_X6 (C := RX6) (T := TX6) (N := 10) hw (k := 70) (ci := 6) (v := .ref (F 63)) rfl rfl rfl rfl 0 (by decide) rfl 1 rfl (Or.inl rfl) dX6_tellItem_1 ?_
  refine lv_aload_n hx hb dX6_tellItem_4 rfl (lv_at hl 0 rfl) ?_
  refine z_getU C0 in_X6_tellItem_X6 (C := RX6) (T := TX6) (N := 10) hw (k := 70) (ci := 6) (v := .int ((zsc S 70 7))) rfl rfl rfl rfl 7 (by decide) rfl 2 rfl (Or.inl rfl) dX6_tellItem_5 ?_
  obtain ⟨w1, ew1, h⟩ := z_bd h
  refine z_goq C0 hw hS (r0 := w1.map (zpa F G)) (rest := []) (arr := (Value.ref (F 63) :: [.int ((zsc S 70 7))]).toArray) ?_ (fun H locs hw hS => ?_)
  · exact va_runV (z_fix C0) (c_X4_personAt l D Y F G S _ 1 (by decide) ((zsc S 70 7)) w1 ew1) (cwV 1 hts gX6_tellItem_X4_personAt rfl rfl rfl (by decide +kernel) ⟨Nat.le_of_ble_eq_true rfl, Nat.le_of_ble_eq_true rfl⟩) ⟨zPc_blind, z_rv C0 hw (k := 63) rfl rfl rfl rfl, z_give C0 hw hS _⟩ rfl rfl hl.1 rfl (lv_room (Nat.le_of_ble_eq_true rfl)) dX6_tellItem_8 ⟨zle hc0, zle hs0⟩
  rcases w1 with _ | q2
  · replace h := zm_n h
    refine z_topv (y := .null) rfl ?_
    refine lv_astore_nN (lv' := [(1, .null), (0, .ref (F 70))]) hx hb dX6_tellItem_11 rfl hl (by decide) rfl (fun ls hl => ?_)
    refine lv_aload_n hx hb dX6_tellItem_12 rfl (lv_at hl 1 rfl) ?_
    refine z_getU C0 in_X6_tellItem_X6 (C := RX6) (T := TX6) (N := 10) hw (k := 70) (ci := 6) (v := .int ((zsc S 70 6))) rfl rfl rfl rfl 6 (by decide) rfl 3 rfl (Or.inl rfl) dX6_tellItem_13 ?_
    refine lv_if_ne (tgt := 42) hx hb dX6_tellItem_16 (by decide) (fun c3 => ?_) (fun c3 => ?_)
    · replace h := z_ifn c3 h
      refine lv_aload_n hx hb dX6_tellItem_42 rfl (lv_at hl 1 rfl) ?_
      refine z_getU C0 in_X6_tellItem_X6 (C := RX6) (T := TX6) (N := 10) hw (k := 70) (ci := 6) (v := .int ((zsc S 70 6))) rfl rfl rfl rfl 6 (by decide) rfl 3 rfl (Or.inl rfl) dX6_tellItem_43 ?_
      refine lv_iconst (v := 4) hx hb dX6_tellItem_46 (by decide) ?_
      refine lv_icmp_ne (tgt := 64) hx hb dX6_tellItem_47 (by decide) (fun c4 => ?_) (fun c4 => ?_)
      · replace h := z_ifn c4 h
        refine lv_aload_nN hx hb dX6_tellItem_64 rfl (lv_at hl 0 rfl) ?_
        refine lv_ifnonnullN hx hb dX6_tellItem_65 ?_
        exact z_retvG C0 hw hS (zle hc0) (zle hs0) (Option.some.inj h) dX6_tellItem_68
      · replace h := z_ifp c4 h
        refine lv_aload_n hx hb dX6_tellItem_50 rfl (lv_at hl 1 rfl) ?_
        refine z_getU C0 in_X6_tellItem_X6 (C := RX6) (T := TX6) (N := 10) hw (k := 70) (ci := 6) (v := .ref (F 63)) rfl rfl rfl rfl 0 (by decide) rfl 1 rfl (Or.inl rfl) dX6_tellItem_51 ?_
        refine lv_aload_n hx hb dX6_tellItem_54 rfl (lv_at hl 1 rfl) ?_
        refine z_getU C0 in_X6_tellItem_X6 (C := RX6) (T := TX6) (N := 10) hw (k := 70) (ci := 6) (v := .int ((zsc S 70 7))) rfl rfl rfl rfl 7 (by decide) rfl 2 rfl (Or.inl rfl) dX6_tellItem_55 ?_
        refine z_putU C0 in_X6_tellItem_X4 tyX4 tyX4_ok nmX4 (C := RX4) (T := TX4) (N := 6) hw hS (k := 63) (ci := 4) (v := (zsc S 70 7)) rfl rfl rfl rfl 4 (by decide) 6 rfl rfl rfl rfl (Nat.le_of_ble_eq_true rfl) rfl dX6_tellItem_58 (fun H locs hw hS => ?_)
        refine lv_goto (tgt := 127) hx hb dX6_tellItem_61 (by decide) ?_
        exact z_retvG C0 hw hS (zle hc0) (zle hs0) (Option.some.inj h) dX6_tellItem_127
    · replace h := z_ifp c3 h
      refine lv_aload_n hx hb dX6_tellItem_19 rfl (lv_at hl 1 rfl) ?_
      refine z_getU C0 in_X6_tellItem_X6 (C := RX6) (T := TX6) (N := 10) hw (k := 70) (ci := 6) (v := .ref (F 63)) rfl rfl rfl rfl 0 (by decide) rfl 1 rfl (Or.inl rfl) dX6_tellItem_20 ?_
      refine lv_aload_n hx hb dX6_tellItem_23 rfl (lv_at hl 1 rfl) ?_
      refine z_getU C0 in_X6_tellItem_X6 (C := RX6) (T := TX6) (N := 10) hw (k := 70) (ci := 6) (v := .int ((zsc S 70 7))) rfl rfl rfl rfl 7 (by decide) rfl 2 rfl (Or.inl rfl) dX6_tellItem_24 ?_
      refine lv_aload_n hx hb dX6_tellItem_27 rfl (lv_at hl 1 rfl) ?_
      refine z_getU C0 in_X6_tellItem_X6 (C := RX6) (T := TX6) (N := 10) hw (k := 70) (ci := 6) (v := .int ((zsc S 70 8))) rfl rfl rfl rfl 8 (by decide) rfl 4 rfl (Or.inl rfl) dX6_tellItem_28 ?_
      refine lv_aload_n hx hb dX6_tellItem_31 rfl (lv_at hl 1 rfl) ?_
      refine z_getU C0 in_X6_tellItem_X6 (C := RX6) (T := TX6) (N := 10) hw (k := 70) (ci := 6) (v := .int ((zsc S 70 9))) rfl rfl rfl rfl 9 (by decide) rfl 5 rfl (Or.inl rfl) dX6_tellItem_32 ?_
      obtain ⟨b8, h⟩ := z_gd h
      have b8 : 1 ≤ 1 := of_decide_eq_true b8
      obtain ⟨⟨w5, p7, T6⟩, ew5, h⟩ := z_bd h
      refine z_goiG (mc := 4) (ms := 69) C0 hw hS (res := (w5, p7, T6)) (rest := []) (arr := (Value.ref (F 63) :: [.int ((zsc S 70 7)), .int ((zsc S 70 8)), .int ((zsc S 70 9))]).toArray) ?_ (fun G1 H locs hG hw hS => ?_)
      · exact va_runV (z_fix C0) (c_X4_add l D Y F G S _ 1 (by decide) ((zsc S 70 7)) ((zsc S 70 8)) ((zsc S 70 9)) (w5, p7, T6) ew5) (cwV 3 hts gX6_tellItem_X4_add rfl rfl rfl (by decide +kernel) ⟨Nat.le_of_ble_eq_true rfl, Nat.le_of_ble_eq_true rfl⟩) ⟨zPc_blind, z_rv C0 hw (k := 63) rfl rfl rfl rfl, z_give C0 hw hS _⟩ rfl rfl hl.1 rfl (lv_room (Nat.le_of_ble_eq_true rfl)) dX6_tellItem_35 ⟨by show 0 + 4 ≤ 4; omega, by show 0 + 69 ≤ 69; omega⟩
      replace h := zlet3_h hG h
      have hc0 : (0 + 4) + 4 * (1 - 1) ≤ 4 := by omega
      have hs0 : (0 + 69) + 69 * (1 - 1) ≤ 69 := by omega
      have hl := lv_sub hl [] rfl
      rename zG => G
      have hl : lv_has ls 2 [] := hl
      refine lv_pop hx hb dX6_tellItem_38 rfl ?_
      refine lv_goto (tgt := 127) hx hb dX6_tellItem_39 (by decide) ?_
      exact z_retvG C0 hw hS (zle hc0) (zle hs0) (Option.some.inj h) dX6_tellItem_127
  · replace h := zm_s h
    obtain ⟨bq2, h⟩ := z_gd h
    have hq2 := bq2
    refine z_topv (y := .ref (zad F G (100 + 4 * q2))) rfl ?_
    refine lv_astore_n (lv' := [(1, .ref (zad F G (100 + 4 * q2))), (0, .ref (F 70))]) hx hb dX6_tellItem_11 rfl hl (by decide) rfl (fun ls hl => ?_)
    refine lv_aload_n hx hb dX6_tellItem_12 rfl (lv_at hl 1 rfl) ?_
    refine z_getU C0 in_X6_tellItem_X6 (C := RX6) (T := TX6) (N := 10) hw (k := 70) (ci := 6) (v := .int ((zsc S 70 6))) rfl rfl rfl rfl 6 (by decide) rfl 3 rfl (Or.inl rfl) dX6_tellItem_13 ?_
    refine lv_if_ne (tgt := 42) hx hb dX6_tellItem_16 (by decide) (fun c9 => ?_) (fun c9 => ?_)
    · replace h := z_ifn c9 h
      refine lv_aload_n hx hb dX6_tellItem_42 rfl (lv_at hl 1 rfl) ?_
      refine z_getU C0 in_X6_tellItem_X6 (C := RX6) (T := TX6) (N := 10) hw (k := 70) (ci := 6) (v := .int ((zsc S 70 6))) rfl rfl rfl rfl 6 (by decide) rfl 3 rfl (Or.inl rfl) dX6_tellItem_43 ?_
      refine lv_iconst (v := 4) hx hb dX6_tellItem_46 (by decide) ?_
      refine lv_icmp_ne (tgt := 64) hx hb dX6_tellItem_47 (by decide) (fun c10 => ?_) (fun c10 => ?_)
      · replace h := z_ifn c10 h
        refine lv_aload_n hx hb dX6_tellItem_64 rfl (lv_at hl 0 rfl) ?_
        refine lv_ifnonnull (tgt := 69) hx hb dX6_tellItem_65 (by decide) ?_
        refine lv_aload_n hx hb dX6_tellItem_69 rfl (lv_at hl 1 rfl) ?_
        refine z_getU C0 in_X6_tellItem_X6 (C := RX6) (T := TX6) (N := 10) hw (k := 70) (ci := 6) (v := .int ((zsc S 70 6))) rfl rfl rfl rfl 6 (by decide) rfl 3 rfl (Or.inl rfl) dX6_tellItem_70 ?_
        refine lv_iconst (v := 1) hx hb dX6_tellItem_73 (by decide) ?_
        refine lv_icmp_ne (tgt := 93) hx hb dX6_tellItem_74 (by decide) (fun c11 => ?_) (fun c11 => ?_)
        · replace h := z_ifn c11 h
          refine lv_aload_n hx hb dX6_tellItem_93 rfl (lv_at hl 1 rfl) ?_
          refine z_getU C0 in_X6_tellItem_X6 (C := RX6) (T := TX6) (N := 10) hw (k := 70) (ci := 6) (v := .int ((zsc S 70 6))) rfl rfl rfl rfl 6 (by decide) rfl 3 rfl (Or.inl rfl) dX6_tellItem_94 ?_
          refine lv_iconst (v := 2) hx hb dX6_tellItem_97 (by decide) ?_
          refine lv_icmp_ne (tgt := 117) hx hb dX6_tellItem_98 (by decide) (fun c12 => ?_) (fun c12 => ?_)
          · replace h := z_ifn c12 h
            refine lv_aload_n hx hb dX6_tellItem_117 rfl (lv_at hl 0 rfl) ?_
            refine lv_dup hx hb dX6_tellItem_118 rfl ?_
            refine z_getP C0 inP_X6_tellItem hw hq2 8 (by decide) (v := .int ((zsc S (100 + 4 * q2) 8))) rfl 7 rfl (Or.inl rfl) dX6_tellItem_119 ?_
            refine lv_iconst (v := 1) hx hb dX6_tellItem_122 (by decide) ?_
            refine lv_iadd hx hb dX6_tellItem_123 ?_
            refine z_putP C0 inP_X6_tellItem hw hS hq2 8 (by decide) 7 rfl rfl (v := ((zsc S (100 + 4 * q2) 8) + 1)) dX6_tellItem_124 (fun H locs hw hS => ?_)
            exact z_retvG C0 hw hS (zle hc0) (zle hs0) (Option.some.inj h) dX6_tellItem_127
          · replace h := z_ifp c12 h
            refine lv_aload_n hx hb dX6_tellItem_101 rfl (lv_at hl 0 rfl) ?_
            refine lv_aload_n hx hb dX6_tellItem_102 rfl (lv_at hl 1 rfl) ?_
            refine z_getU C0 in_X6_tellItem_X6 (C := RX6) (T := TX6) (N := 10) hw (k := 70) (ci := 6) (v := .int ((zsc S 70 8))) rfl rfl rfl rfl 8 (by decide) rfl 4 rfl (Or.inl rfl) dX6_tellItem_103 ?_
            refine lv_aload_n hx hb dX6_tellItem_106 rfl (lv_at hl 1 rfl) ?_
            refine z_getU C0 in_X6_tellItem_X6 (C := RX6) (T := TX6) (N := 10) hw (k := 70) (ci := 6) (v := .int ((zsc S 70 9))) rfl rfl rfl rfl 9 (by decide) rfl 5 rfl (Or.inl rfl) dX6_tellItem_107 ?_
            obtain ⟨w13, ew13, h⟩ := z_bd h
            refine z_goi C0 hw hS (res := w13) (rest := []) (arr := (Value.ref (zad F G (100 + 4 * q2)) :: [.int ((zsc S 70 8)), .int ((zsc S 70 9))]).toArray) ?_ (fun H locs hw hS => ?_)
            · rcases zOK_cases hq2 with zz | zz | zz | zz | zz | zz | zz
              · exact va_runU (z_fix C0) (c_X5_rubOn l D Y F G S _ q2 hq2 ((zsc S 70 8)) ((zsc S 70 9)) w13 ew13) (va_cwU 2 hts gX6_tellItem_X5_rubOn_u106X0 rfl rfl rfl rfl (by decide +kernel) ⟨Nat.le_of_ble_eq_true rfl, Nat.le_of_ble_eq_true rfl⟩) ⟨zPc_blind, z_prec C0 hw hq2 (ci := 0) zz rfl, z_give C0 hw hS _⟩ rfl rfl hl.1 rfl (lv_room (Nat.le_of_ble_eq_true rfl)) dX6_tellItem_110 ⟨zle hc0, zle hs0⟩
              · exact va_runU (z_fix C0) (c_X5_rubOn l D Y F G S _ q2 hq2 ((zsc S 70 8)) ((zsc S 70 9)) w13 ew13) (va_cwU 2 hts gX6_tellItem_X5_rubOn_u106X1 rfl rfl rfl rfl (by decide +kernel) ⟨Nat.le_of_ble_eq_true rfl, Nat.le_of_ble_eq_true rfl⟩) ⟨zPc_blind, z_prec C0 hw hq2 (ci := 1) zz rfl, z_give C0 hw hS _⟩ rfl rfl hl.1 rfl (lv_room (Nat.le_of_ble_eq_true rfl)) dX6_tellItem_110 ⟨zle hc0, zle hs0⟩
              · exact va_runU (z_fix C0) (c_X5_rubOn l D Y F G S _ q2 hq2 ((zsc S 70 8)) ((zsc S 70 9)) w13 ew13) (va_cwU 2 hts gX6_tellItem_X5_rubOn_u106X2 rfl rfl rfl rfl (by decide +kernel) ⟨Nat.le_of_ble_eq_true rfl, Nat.le_of_ble_eq_true rfl⟩) ⟨zPc_blind, z_prec C0 hw hq2 (ci := 2) zz rfl, z_give C0 hw hS _⟩ rfl rfl hl.1 rfl (lv_room (Nat.le_of_ble_eq_true rfl)) dX6_tellItem_110 ⟨zle hc0, zle hs0⟩
              · exact va_runU (z_fix C0) (c_X5_rubOn l D Y F G S _ q2 hq2 ((zsc S 70 8)) ((zsc S 70 9)) w13 ew13) (va_cwU 2 hts gX6_tellItem_X5_rubOn_u106X3 rfl rfl rfl rfl (by decide +kernel) ⟨Nat.le_of_ble_eq_true rfl, Nat.le_of_ble_eq_true rfl⟩) ⟨zPc_blind, z_prec C0 hw hq2 (ci := 3) zz rfl, z_give C0 hw hS _⟩ rfl rfl hl.1 rfl (lv_room (Nat.le_of_ble_eq_true rfl)) dX6_tellItem_110 ⟨zle hc0, zle hs0⟩
              · exact va_runV (z_fix C0) (c_X5_rubOn l D Y F G S _ q2 hq2 ((zsc S 70 8)) ((zsc S 70 9)) w13 ew13) (cwV 2 hts gX6_tellItem_X5_rubOn rfl rfl rfl (by decide +kernel) ⟨Nat.le_of_ble_eq_true rfl, Nat.le_of_ble_eq_true rfl⟩) ⟨zPc_blind, z_prec C0 hw hq2 (ci := 5) zz rfl, z_give C0 hw hS _⟩ rfl rfl hl.1 rfl (lv_room (Nat.le_of_ble_eq_true rfl)) dX6_tellItem_110 ⟨zle hc0, zle hs0⟩
              · exact va_runU (z_fix C0) (c_X5_rubOn l D Y F G S _ q2 hq2 ((zsc S 70 8)) ((zsc S 70 9)) w13 ew13) (va_cwU 2 hts gX6_tellItem_X5_rubOn_u106X8 rfl rfl rfl rfl (by decide +kernel) ⟨Nat.le_of_ble_eq_true rfl, Nat.le_of_ble_eq_true rfl⟩) ⟨zPc_blind, z_prec C0 hw hq2 (ci := 8) zz rfl, z_give C0 hw hS _⟩ rfl rfl hl.1 rfl (lv_room (Nat.le_of_ble_eq_true rfl)) dX6_tellItem_110 ⟨zle hc0, zle hs0⟩
              · exact va_runU (z_fix C0) (c_X5_rubOn l D Y F G S _ q2 hq2 ((zsc S 70 8)) ((zsc S 70 9)) w13 ew13) (va_cwU 2 hts gX6_tellItem_X5_rubOn_u106X10 rfl rfl rfl rfl (by decide +kernel) ⟨Nat.le_of_ble_eq_true rfl, Nat.le_of_ble_eq_true rfl⟩) ⟨zPc_blind, z_prec C0 hw hq2 (ci := 10) zz rfl, z_give C0 hw hS _⟩ rfl rfl hl.1 rfl (lv_room (Nat.le_of_ble_eq_true rfl)) dX6_tellItem_110 ⟨zle hc0, zle hs0⟩
            refine lv_pop hx hb dX6_tellItem_113 rfl ?_
            refine lv_goto (tgt := 127) hx hb dX6_tellItem_114 (by decide) ?_
            exact z_retvG C0 hw hS (zle hc0) (zle hs0) (Option.some.inj h) dX6_tellItem_127
        · replace h := z_ifp c11 h
          refine lv_aload_n hx hb dX6_tellItem_77 rfl (lv_at hl 0 rfl) ?_
          refine lv_aload_n hx hb dX6_tellItem_78 rfl (lv_at hl 1 rfl) ?_
          refine z_getU C0 in_X6_tellItem_X6 (C := RX6) (T := TX6) (N := 10) hw (k := 70) (ci := 6) (v := .int ((zsc S 70 8))) rfl rfl rfl rfl 8 (by decide) rfl 4 rfl (Or.inl rfl) dX6_tellItem_79 ?_
          refine lv_aload_n hx hb dX6_tellItem_82 rfl (lv_at hl 1 rfl) ?_
          refine z_getU C0 in_X6_tellItem_X6 (C := RX6) (T := TX6) (N := 10) hw (k := 70) (ci := 6) (v := .int ((zsc S 70 9))) rfl rfl rfl rfl 9 (by decide) rfl 5 rfl (Or.inl rfl) dX6_tellItem_83 ?_
          obtain ⟨w14, ew14, h⟩ := z_bd h
          refine z_goi C0 hw hS (res := w14) (rest := []) (arr := (Value.ref (zad F G (100 + 4 * q2)) :: [.int ((zsc S 70 8)), .int ((zsc S 70 9))]).toArray) ?_ (fun H locs hw hS => ?_)
          · rcases zOK_cases hq2 with zz | zz | zz | zz | zz | zz | zz
            · exact va_runU (z_fix C0) (c_X5_pressWith l D Y F G S _ q2 hq2 ((zsc S 70 8)) ((zsc S 70 9)) w14 ew14) (va_cwU 2 hts gX6_tellItem_X5_pressWith_u101X0 rfl rfl rfl rfl (by decide +kernel) ⟨Nat.le_of_ble_eq_true rfl, Nat.le_of_ble_eq_true rfl⟩) ⟨zPc_blind, z_prec C0 hw hq2 (ci := 0) zz rfl, z_give C0 hw hS _⟩ rfl rfl hl.1 rfl (lv_room (Nat.le_of_ble_eq_true rfl)) dX6_tellItem_86 ⟨zle hc0, zle hs0⟩
            · exact va_runU (z_fix C0) (c_X5_pressWith l D Y F G S _ q2 hq2 ((zsc S 70 8)) ((zsc S 70 9)) w14 ew14) (va_cwU 2 hts gX6_tellItem_X5_pressWith_u101X1 rfl rfl rfl rfl (by decide +kernel) ⟨Nat.le_of_ble_eq_true rfl, Nat.le_of_ble_eq_true rfl⟩) ⟨zPc_blind, z_prec C0 hw hq2 (ci := 1) zz rfl, z_give C0 hw hS _⟩ rfl rfl hl.1 rfl (lv_room (Nat.le_of_ble_eq_true rfl)) dX6_tellItem_86 ⟨zle hc0, zle hs0⟩
            · exact va_runU (z_fix C0) (c_X5_pressWith l D Y F G S _ q2 hq2 ((zsc S 70 8)) ((zsc S 70 9)) w14 ew14) (va_cwU 2 hts gX6_tellItem_X5_pressWith_u101X2 rfl rfl rfl rfl (by decide +kernel) ⟨Nat.le_of_ble_eq_true rfl, Nat.le_of_ble_eq_true rfl⟩) ⟨zPc_blind, z_prec C0 hw hq2 (ci := 2) zz rfl, z_give C0 hw hS _⟩ rfl rfl hl.1 rfl (lv_room (Nat.le_of_ble_eq_true rfl)) dX6_tellItem_86 ⟨zle hc0, zle hs0⟩
            · exact va_runU (z_fix C0) (c_X5_pressWith l D Y F G S _ q2 hq2 ((zsc S 70 8)) ((zsc S 70 9)) w14 ew14) (va_cwU 2 hts gX6_tellItem_X5_pressWith_u101X3 rfl rfl rfl rfl (by decide +kernel) ⟨Nat.le_of_ble_eq_true rfl, Nat.le_of_ble_eq_true rfl⟩) ⟨zPc_blind, z_prec C0 hw hq2 (ci := 3) zz rfl, z_give C0 hw hS _⟩ rfl rfl hl.1 rfl (lv_room (Nat.le_of_ble_eq_true rfl)) dX6_tellItem_86 ⟨zle hc0, zle hs0⟩
            · exact va_runV (z_fix C0) (c_X5_pressWith l D Y F G S _ q2 hq2 ((zsc S 70 8)) ((zsc S 70 9)) w14 ew14) (cwV 2 hts gX6_tellItem_X5_pressWith rfl rfl rfl (by decide +kernel) ⟨Nat.le_of_ble_eq_true rfl, Nat.le_of_ble_eq_true rfl⟩) ⟨zPc_blind, z_prec C0 hw hq2 (ci := 5) zz rfl, z_give C0 hw hS _⟩ rfl rfl hl.1 rfl (lv_room (Nat.le_of_ble_eq_true rfl)) dX6_tellItem_86 ⟨zle hc0, zle hs0⟩
            · exact va_runU (z_fix C0) (c_X5_pressWith l D Y F G S _ q2 hq2 ((zsc S 70 8)) ((zsc S 70 9)) w14 ew14) (va_cwU 2 hts gX6_tellItem_X5_pressWith_u101X8 rfl rfl rfl rfl (by decide +kernel) ⟨Nat.le_of_ble_eq_true rfl, Nat.le_of_ble_eq_true rfl⟩) ⟨zPc_blind, z_prec C0 hw hq2 (ci := 8) zz rfl, z_give C0 hw hS _⟩ rfl rfl hl.1 rfl (lv_room (Nat.le_of_ble_eq_true rfl)) dX6_tellItem_86 ⟨zle hc0, zle hs0⟩
            · exact va_runU (z_fix C0) (c_X5_pressWith l D Y F G S _ q2 hq2 ((zsc S 70 8)) ((zsc S 70 9)) w14 ew14) (va_cwU 2 hts gX6_tellItem_X5_pressWith_u101X10 rfl rfl rfl rfl (by decide +kernel) ⟨Nat.le_of_ble_eq_true rfl, Nat.le_of_ble_eq_true rfl⟩) ⟨zPc_blind, z_prec C0 hw hq2 (ci := 10) zz rfl, z_give C0 hw hS _⟩ rfl rfl hl.1 rfl (lv_room (Nat.le_of_ble_eq_true rfl)) dX6_tellItem_86 ⟨zle hc0, zle hs0⟩
          refine lv_pop hx hb dX6_tellItem_89 rfl ?_
          refine lv_goto (tgt := 127) hx hb dX6_tellItem_90 (by decide) ?_
          exact z_retvG C0 hw hS (zle hc0) (zle hs0) (Option.some.inj h) dX6_tellItem_127
      · replace h := z_ifp c10 h
        refine lv_aload_n hx hb dX6_tellItem_50 rfl (lv_at hl 1 rfl) ?_
        refine z_getU C0 in_X6_tellItem_X6 (C := RX6) (T := TX6) (N := 10) hw (k := 70) (ci := 6) (v := .ref (F 63)) rfl rfl rfl rfl 0 (by decide) rfl 1 rfl (Or.inl rfl) dX6_tellItem_51 ?_
        refine lv_aload_n hx hb dX6_tellItem_54 rfl (lv_at hl 1 rfl) ?_
        refine z_getU C0 in_X6_tellItem_X6 (C := RX6) (T := TX6) (N := 10) hw (k := 70) (ci := 6) (v := .int ((zsc S 70 7))) rfl rfl rfl rfl 7 (by decide) rfl 2 rfl (Or.inl rfl) dX6_tellItem_55 ?_
        refine z_putU C0 in_X6_tellItem_X4 tyX4 tyX4_ok nmX4 (C := RX4) (T := TX4) (N := 6) hw hS (k := 63) (ci := 4) (v := (zsc S 70 7)) rfl rfl rfl rfl 4 (by decide) 6 rfl rfl rfl rfl (Nat.le_of_ble_eq_true rfl) rfl dX6_tellItem_58 (fun H locs hw hS => ?_)
        refine lv_goto (tgt := 127) hx hb dX6_tellItem_61 (by decide) ?_
        exact z_retvG C0 hw hS (zle hc0) (zle hs0) (Option.some.inj h) dX6_tellItem_127
    · replace h := z_ifp c9 h
      refine lv_aload_n hx hb dX6_tellItem_19 rfl (lv_at hl 1 rfl) ?_
      refine z_getU C0 in_X6_tellItem_X6 (C := RX6) (T := TX6) (N := 10) hw (k := 70) (ci := 6) (v := .ref (F 63)) rfl rfl rfl rfl 0 (by decide) rfl 1 rfl (Or.inl rfl) dX6_tellItem_20 ?_
      refine lv_aload_n hx hb dX6_tellItem_23 rfl (lv_at hl 1 rfl) ?_
      refine z_getU C0 in_X6_tellItem_X6 (C := RX6) (T := TX6) (N := 10) hw (k := 70) (ci := 6) (v := .int ((zsc S 70 7))) rfl rfl rfl rfl 7 (by decide) rfl 2 rfl (Or.inl rfl) dX6_tellItem_24 ?_
      refine lv_aload_n hx hb dX6_tellItem_27 rfl (lv_at hl 1 rfl) ?_
      refine z_getU C0 in_X6_tellItem_X6 (C := RX6) (T := TX6) (N := 10) hw (k := 70) (ci := 6) (v := .int ((zsc S 70 8))) rfl rfl rfl rfl 8 (by decide) rfl 4 rfl (Or.inl rfl) dX6_tellItem_28 ?_
      refine lv_aload_n hx hb dX6_tellItem_31 rfl (lv_at hl 1 rfl) ?_
      refine z_getU C0 in_X6_tellItem_X6 (C := RX6) (T := TX6) (N := 10) hw (k := 70) (ci := 6) (v := .int ((zsc S 70 9))) rfl rfl rfl rfl 9 (by decide) rfl 5 rfl (Or.inl rfl) dX6_tellItem_32 ?_
      obtain ⟨b18, h⟩ := z_gd h
      have b18 : 1 ≤ 1 := of_decide_eq_true b18
      obtain ⟨⟨w15, p17, T16⟩, ew15, h⟩ := z_bd h
      refine z_goiG (mc := 4) (ms := 69) C0 hw hS (res := (w15, p17, T16)) (rest := []) (arr := (Value.ref (F 63) :: [.int ((zsc S 70 7)), .int ((zsc S 70 8)), .int ((zsc S 70 9))]).toArray) ?_ (fun G1 H locs hG hw hS => ?_)
      · exact va_runV (z_fix C0) (c_X4_add l D Y F G S _ 1 (by decide) ((zsc S 70 7)) ((zsc S 70 8)) ((zsc S 70 9)) (w15, p17, T16) ew15) (cwV 3 hts gX6_tellItem_X4_add rfl rfl rfl (by decide +kernel) ⟨Nat.le_of_ble_eq_true rfl, Nat.le_of_ble_eq_true rfl⟩) ⟨zPc_blind, z_rv C0 hw (k := 63) rfl rfl rfl rfl, z_give C0 hw hS _⟩ rfl rfl hl.1 rfl (lv_room (Nat.le_of_ble_eq_true rfl)) dX6_tellItem_35 ⟨by show 0 + 4 ≤ 4; omega, by show 0 + 69 ≤ 69; omega⟩
      replace h := zlet3_h hG h
      have hc0 : (0 + 4) + 4 * (1 - 1) ≤ 4 := by omega
      have hs0 : (0 + 69) + 69 * (1 - 1) ≤ 69 := by omega
      have hl := lv_sub hl [] rfl
      rename zG => G
      have hl : lv_has ls 2 [] := hl
      refine lv_pop hx hb dX6_tellItem_38 rfl ?_
      refine lv_goto (tgt := 127) hx hb dX6_tellItem_39 (by decide) ?_
      exact z_retvG C0 hw hS (zle hc0) (zle hs0) (Option.some.inj h) dX6_tellItem_127
def M_X6_readFrom_B55 (s1 : Nat) : Nat → (Nat → Nat) → zSt → Nat → Int32 → Int32 → Option (Int32 × (Nat → Nat) × zSt)
  | 0, _, _, _, _, _ => none
  | n + 1, pk, S, b, x2, x3 =>
  (if 160 < x3 then some (x2, pk, S) else Option.bind (M_X6_readItem pk S) (fun w3 => (if (zsc w3 70 4) = (-1) then zg (decide (1 ≤ b)) (Option.bind (M_X6_tellItem pk w3) (fun w5 => zlet2 w5 (fun pk T6 => (if (zsc T6 70 3) < (zsc T6 70 2) then Option.bind (M_X6_readLetter pk T6 59) (fun w10 => M_X6_readFrom_B55 s1 n pk w10 ((b - 1)) ((x2 + 1)) ((x3 + 1))) else some ((x2 + 1), pk, T6))))) else some (x2, pk, w3))))
set_option maxHeartbeats 4000000 in
set_option maxRecDepth 100000 in
theorem t_X6_readFrom_B55 {p : Program} {l : Launch} {e : Env} {s : State} {m : MethodId} {args : Array Value} {below : List Frame} {meth : Method} {c : Code} {D : va_G} {Y : Nat → ClassId} {F : Nat → Nat} {A : Nat → Prop} (C0 : zCx p s m args meth c D Y F A RX6 cX6_readFrom 4 (some .int) wsX6_readFrom) (s1 : Nat) (hs1 : s1 < 8) (res : Int32 × (Nat → Nat) × zSt) : ∀ (n : Nat), ∀ (G : zG) (S : zSt) (b : Nat) (x2 : Int32) (x3 : Int32), M_X6_readFrom_B55 s1 n (zpk G) S b x2 x3 = some res → ∀ (cells slots : Nat), cells + 4 * b ≤ 644 → slots + 69 * b ≤ 11109 → ∀ (H : Heap) (locs : List Loc) (ls : Array Slot), zH D Y F A G S H → va_S A s.heap H locs → lv_has ls 4 [(0, .ref (F 70)), (2, .int x2), (3, .int x3)] → W p l e { frames := 7, cells := 644, slots := 11109, locals := 149 } s m args below meth c H locs cells slots (MQ below (zQiG D Y F A res) args s 644 11109 A) (F0 m 55 ls []) := by
  obtain ⟨hx, hb, hml, hr, hown, hts, hK, hA, hlk, hN⟩ := id C0
  intro n
  induction n with
  | zero =>
    intro G S b x2 x3 h
    unfold M_X6_readFrom_B55 at h
    cases h
  | succ n ih =>
    intro G S b x2 x3 h cells slots hc0 hs0 H locs ls hw hS hl
    rw [M_X6_readFrom_B55] at h
    refine lv_iload_n hx hb dX6_readFrom_55 rfl (lv_at hl 2 rfl) ?_
    refine lv_sipush (v := 160) hx hb dX6_readFrom_56 (by decide) ?_
    refine lv_icmp_gt (tgt := 108) hx hb dX6_readFrom_59 (by decide) (fun c2 => ?_) (fun c2 => ?_)
    · replace h := z_ifp c2 h
      refine lv_iload_n hx hb dX6_readFrom_108 rfl (lv_at hl 1 rfl) ?_
      exact z_retiG C0 hw hS (zle hc0) (zle hs0) (Option.some.inj h) dX6_readFrom_109
    · replace h := z_ifn c2 h
      refine lv_aload_n hx hb dX6_readFrom_62 rfl (lv_at hl 0 rfl) ?_
      obtain ⟨w3, ew3, h⟩ := z_bd h
      refine z_gov C0 hw hS (res := w3) (rest := []) (arr := (Value.ref (F 70) :: []).toArray) ?_ (fun H locs hw hS => ?_)
      · exact va_runV (z_fix C0) (c_X6_readItem l D Y F G S _ w3 ew3) (cwV 0 hts gX6_readFrom_X6_readItem rfl rfl rfl (by decide +kernel) ⟨Nat.le_of_ble_eq_true rfl, Nat.le_of_ble_eq_true rfl⟩) ⟨zPc_blind, z_rv C0 hw (k := 70) rfl rfl rfl rfl, z_give C0 hw hS _⟩ rfl rfl hl.1 rfl (lv_room (Nat.le_of_ble_eq_true rfl)) dX6_readFrom_63 ⟨zle hc0, zle hs0⟩
      refine lv_aload_n hx hb dX6_readFrom_66 rfl (lv_at hl 0 rfl) ?_
      refine z_getU C0 in_X6_readFrom_X6 (C := RX6) (T := TX6) (N := 10) hw (k := 70) (ci := 6) (v := .int ((zsc w3 70 4))) rfl rfl rfl rfl 4 (by decide) rfl 9 rfl (Or.inl rfl) dX6_readFrom_67 ?_
      refine lv_iconst (v := (-1)) hx hb dX6_readFrom_70 (by decide) ?_
      refine lv_icmp_eq (tgt := 76) hx hb dX6_readFrom_71 (by decide) (fun c4 => ?_) (fun c4 => ?_)
      · replace h := z_ifp c4 h
        refine lv_aload_n hx hb dX6_readFrom_76 rfl (lv_at hl 0 rfl) ?_
        obtain ⟨b8, h⟩ := z_gd h
        have b8 : 1 ≤ b := of_decide_eq_true b8
        obtain ⟨⟨p7, T6⟩, ew5, h⟩ := z_bd h
        refine z_govG (mc := 4) (ms := 69) C0 hw hS (res := (p7, T6)) (rest := []) (arr := (Value.ref (F 70) :: []).toArray) ?_ (fun G1 H locs hG hw hS => ?_)
        · exact va_runV (z_fix C0) (c_X6_tellItem l D Y F G w3 _ (p7, T6) ew5) (cwV 0 hts gX6_readFrom_X6_tellItem rfl rfl rfl (by decide +kernel) ⟨Nat.le_of_ble_eq_true rfl, Nat.le_of_ble_eq_true rfl⟩) ⟨zPc_blind, z_rv C0 hw (k := 70) rfl rfl rfl rfl, z_give C0 hw hS _⟩ rfl rfl hl.1 rfl (lv_room (Nat.le_of_ble_eq_true rfl)) dX6_readFrom_77 ⟨by show cells + 4 ≤ 644; omega, by show slots + 69 ≤ 11109; omega⟩
        replace h := zlet2_h hG h
        have hc0 : (cells + 4) + 4 * (b - 1) ≤ 644 := by omega
        have hs0 : (slots + 69) + 69 * (b - 1) ≤ 11109 := by omega
        have hl := lv_sub hl [0, 1, 2] rfl
        rename zG => G
        have hl : lv_has ls 4 [(0, .ref (F 70)), (2, .int x2), (3, .int x3)] := hl
        refine lv_iinc (v := (x2 + 1)) (lv' := [(2, .int ((x2 + 1))), (0, .ref (F 70)), (3, .int x3)]) hx hb dX6_readFrom_80 hl (k := 1) rfl rfl (by decide) rfl (fun ls hl => ?_)
        refine lv_aload_n hx hb dX6_readFrom_83 rfl (lv_at hl 1 rfl) ?_
        refine z_getU C0 in_X6_readFrom_X6 (C := RX6) (T := TX6) (N := 10) hw (k := 70) (ci := 6) (v := .int ((zsc T6 70 3))) rfl rfl rfl rfl 3 (by decide) rfl 8 rfl (Or.inl rfl) dX6_readFrom_84 ?_
        refine lv_aload_n hx hb dX6_readFrom_87 rfl (lv_at hl 1 rfl) ?_
        refine z_getU C0 in_X6_readFrom_X6 (C := RX6) (T := TX6) (N := 10) hw (k := 70) (ci := 6) (v := .int ((zsc T6 70 2))) rfl rfl rfl rfl 2 (by decide) rfl 6 rfl (Or.inl rfl) dX6_readFrom_88 ?_
        refine lv_icmp_lt (tgt := 96) hx hb dX6_readFrom_91 (by decide) (fun c9 => ?_) (fun c9 => ?_)
        · replace h := z_ifp c9 h
          refine lv_aload_n hx hb dX6_readFrom_96 rfl (lv_at hl 1 rfl) ?_
          refine lv_bipush (v := 59) hx hb dX6_readFrom_97 (by decide) ?_
          obtain ⟨w10, ew10, h⟩ := z_bd h
          refine z_gov C0 hw hS (res := w10) (rest := []) (arr := (Value.ref (F 70) :: [.int 59]).toArray) ?_ (fun H locs hw hS => ?_)
          · exact va_runV (z_fix C0) (c_X6_readLetter l D Y F G T6 _ 59 w10 ew10) (cwV 1 hts gX6_readFrom_X6_readLetter rfl rfl rfl (by decide +kernel) ⟨Nat.le_of_ble_eq_true rfl, Nat.le_of_ble_eq_true rfl⟩) ⟨zPc_blind, z_rv C0 hw (k := 70) rfl rfl rfl rfl, z_give C0 hw hS _⟩ rfl rfl hl.1 rfl (lv_room (Nat.le_of_ble_eq_true rfl)) dX6_readFrom_99 ⟨zle hc0, zle hs0⟩
          refine lv_iinc (v := (x3 + 1)) (lv' := [(3, .int ((x3 + 1))), (2, .int ((x2 + 1))), (0, .ref (F 70))]) hx hb dX6_readFrom_102 hl (k := 2) rfl rfl (by decide) rfl (fun ls hl => ?_)
          refine lv_goto (tgt := 55) hx hb dX6_readFrom_105 (by decide) ?_
          exact ih G w10 ((b - 1)) ((x2 + 1)) ((x3 + 1)) h _ _ hc0 hs0 _ _ _ hw hS (lv_sub hl [2, 1, 0] rfl)
        · replace h := z_ifn c9 h
          refine lv_iload_n hx hb dX6_readFrom_94 rfl (lv_at hl 0 rfl) ?_
          exact z_retiG C0 hw hS (zle hc0) (zle hs0) (Option.some.inj h) dX6_readFrom_95
      · replace h := z_ifn c4 h
        refine lv_iload_n hx hb dX6_readFrom_74 rfl (lv_at hl 1 rfl) ?_
        exact z_retiG C0 hw hS (zle hc0) (zle hs0) (Option.some.inj h) dX6_readFrom_75
def M_X6_readFrom_B16 (s1 : Nat) : Nat → (Nat → Nat) → zSt → Nat → Int32 → Option (Int32 × (Nat → Nat) × zSt)
  | 0, _, _, _, _ => none
  | n + 1, pk, S, b, x2 =>
  (if (zsc S 70 2) ≤ x2 then M_X6_readFrom_B55 s1 zF pk ((zP ((zP S 70 3 0)) 70 4 (-1))) b 0 0 else Option.bind (M_X7_intAt pk S s1 x2) (fun w11 => zg (zin x2 160) (M_X6_readFrom_B16 s1 n pk ((zAs S 71 (Int32.toNatClampNeg x2) w11)) b ((x2 + 1)))))
set_option maxHeartbeats 4000000 in
set_option maxRecDepth 100000 in
theorem t_X6_readFrom_B16 {p : Program} {l : Launch} {e : Env} {s : State} {m : MethodId} {args : Array Value} {below : List Frame} {meth : Method} {c : Code} {D : va_G} {Y : Nat → ClassId} {F : Nat → Nat} {A : Nat → Prop} (C0 : zCx p s m args meth c D Y F A RX6 cX6_readFrom 4 (some .int) wsX6_readFrom) (s1 : Nat) (hs1 : s1 < 8) (res : Int32 × (Nat → Nat) × zSt) : ∀ (n : Nat), ∀ (G : zG) (S : zSt) (b : Nat) (x2 : Int32), M_X6_readFrom_B16 s1 n (zpk G) S b x2 = some res → ∀ (cells slots : Nat), cells + 4 * b ≤ 644 → slots + 69 * b ≤ 11109 → ∀ (H : Heap) (locs : List Loc) (ls : Array Slot), zH D Y F A G S H → va_S A s.heap H locs → lv_has ls 4 [(0, .ref (F 70)), (1, .ref (zad F G (40 + 2 * s1))), (2, .int x2)] → W p l e { frames := 7, cells := 644, slots := 11109, locals := 149 } s m args below meth c H locs cells slots (MQ below (zQiG D Y F A res) args s 644 11109 A) (F0 m 16 ls []) := by
  obtain ⟨hx, hb, hml, hr, hown, hts, hK, hA, hlk, hN⟩ := id C0
  intro n
  induction n with
  | zero =>
    intro G S b x2 h
    unfold M_X6_readFrom_B16 at h
    cases h
  | succ n ih =>
    intro G S b x2 h cells slots hc0 hs0 H locs ls hw hS hl
    rw [M_X6_readFrom_B16] at h
    refine lv_iload_n hx hb dX6_readFrom_16 rfl (lv_at hl 2 rfl) ?_
    refine lv_aload_n hx hb dX6_readFrom_17 rfl (lv_at hl 0 rfl) ?_
    refine z_getU C0 in_X6_readFrom_X6 (C := RX6) (T := TX6) (N := 10) hw (k := 70) (ci := 6) (v := .int ((zsc S 70 2))) rfl rfl rfl rfl 2 (by decide) rfl 6 rfl (Or.inl rfl) dX6_readFrom_18 ?_
    refine lv_icmp_ge (tgt := 41) hx hb dX6_readFrom_21 (by decide) (fun c1 => ?_) (fun c1 => ?_)
    · replace h := z_ifp c1 h
      refine lv_aload_n hx hb dX6_readFrom_41 rfl (lv_at hl 0 rfl) ?_
      refine lv_iconst (v := 0) hx hb dX6_readFrom_42 (by decide) ?_
      refine z_putU C0 in_X6_readFrom_X6 tyX6 tyX6_ok nmX6 (C := RX6) (T := TX6) (N := 10) hw hS (k := 70) (ci := 6) (v := 0) rfl rfl rfl rfl 3 (by decide) 8 rfl rfl rfl rfl (Nat.le_of_ble_eq_true rfl) rfl dX6_readFrom_43 (fun H locs hw hS => ?_)
      refine lv_aload_n hx hb dX6_readFrom_46 rfl (lv_at hl 0 rfl) ?_
      refine lv_iconst (v := (-1)) hx hb dX6_readFrom_47 (by decide) ?_
      refine z_putU C0 in_X6_readFrom_X6 tyX6 tyX6_ok nmX6 (C := RX6) (T := TX6) (N := 10) hw hS (k := 70) (ci := 6) (v := (-1)) rfl rfl rfl rfl 4 (by decide) 9 rfl rfl rfl rfl (Nat.le_of_ble_eq_true rfl) rfl dX6_readFrom_48 (fun H locs hw hS => ?_)
      refine lv_iconst (v := 0) hx hb dX6_readFrom_51 (by decide) ?_
      refine lv_istore_n (lv' := [(2, .int 0), (0, .ref (F 70)), (1, .ref (zad F G (40 + 2 * s1)))]) hx hb dX6_readFrom_52 rfl hl (by decide) rfl (fun ls hl => ?_)
      refine lv_iconst (v := 0) hx hb dX6_readFrom_53 (by decide) ?_
      refine lv_istore_n (lv' := [(3, .int 0), (2, .int 0), (0, .ref (F 70)), (1, .ref (zad F G (40 + 2 * s1)))]) hx hb dX6_readFrom_54 rfl hl (by decide) rfl (fun ls hl => ?_)
      exact t_X6_readFrom_B55 C0 s1 hs1 res zF G ((zP ((zP S 70 3 0)) 70 4 (-1))) b 0 0 h _ _ hc0 hs0 _ _ _ hw hS (lv_sub hl [2, 1, 0] rfl)
    · replace h := z_ifn c1 h
      refine lv_aload_n hx hb dX6_readFrom_24 rfl (lv_at hl 0 rfl) ?_
      refine z_getU C0 in_X6_readFrom_X6 (C := RX6) (T := TX6) (N := 10) hw (k := 70) (ci := 6) (v := .ref (F 71)) rfl rfl rfl rfl 1 (by decide) rfl 7 rfl (Or.inl rfl) dX6_readFrom_25 ?_
      refine lv_iload_n hx hb dX6_readFrom_28 rfl (lv_at hl 2 rfl) ?_
      refine lv_aload_n hx hb dX6_readFrom_29 rfl (lv_at hl 1 rfl) ?_
      refine lv_iload_n hx hb dX6_readFrom_30 rfl (lv_at hl 2 rfl) ?_
      obtain ⟨w11, ew11, h⟩ := z_bd h
      refine z_goi C0 hw hS (res := (w11, S)) (rest := [.int x2, .ref (F 71)]) (arr := (Value.ref (zad F G (40 + 2 * s1)) :: [.int x2]).toArray) ?_ (fun H locs hw hS => ?_)
      · exact va_runV (z_fix C0) (c_X7_intAt l D Y F G S _ s1 hs1 x2 w11 ew11) (cwV 1 hts gX6_readFrom_X7_intAt rfl rfl rfl (by decide +kernel) ⟨Nat.le_of_ble_eq_true rfl, Nat.le_of_ble_eq_true rfl⟩) ⟨zPc_blind, z_rv C0 hw (k := (40 + 2 * s1)) (zsh_E hs1) rfl (zsh_B hs1) rfl, z_give C0 hw hS _⟩ rfl rfl hl.1 rfl (lv_room (Nat.le_of_ble_eq_true rfl)) dX6_readFrom_31 ⟨zle hc0, zle hs0⟩
      obtain ⟨b12, h⟩ := z_gd h
      refine z_iasts C0 hw hS 71 rfl rfl zri_71 (zin_in b12) dX6_readFrom_34 (fun H locs hw hS => ?_)
      refine lv_iinc (v := (x2 + 1)) (lv' := [(2, .int ((x2 + 1))), (0, .ref (F 70)), (1, .ref (zad F G (40 + 2 * s1)))]) hx hb dX6_readFrom_35 hl (k := 2) rfl rfl (by decide) rfl (fun ls hl => ?_)
      refine lv_goto (tgt := 16) hx hb dX6_readFrom_38 (by decide) ?_
      exact ih G ((zAs S 71 (Int32.toNatClampNeg x2) w11)) b ((x2 + 1)) h _ _ hc0 hs0 _ _ _ hw hS (lv_sub hl [1, 2, 0] rfl)
def M_X6_readFrom (pk : Nat → Nat) (S : zSt) (s1 : Nat) : Option (Int32 × (Nat → Nat) × zSt) :=
  M_X6_readFrom_B16 s1 zF pk ((zP S 70 2 ((if (160 : Int32) < (zsc S (40 + 2 * s1) 2) then (160 : Int32) else (zsc S (40 + 2 * s1) 2))))) 161 0
set_option maxHeartbeats 4000000 in
set_option maxRecDepth 100000 in
theorem c_X6_readFrom (l : Launch) (D : va_G) (Y : Nat → ClassId) (F : Nat → Nat) (G : zG) (S : zSt) (sz : Nat) (s1 : Nat) (hs1 : s1 < 8) (res : Int32 × (Nat → Nat) × zSt) (h : M_X6_readFrom (zpk G) S s1 = some res) : Met l yX6_readFrom wsX6_readFrom { frames := 7, cells := 644, slots := 11109, locals := 149 } (zPc D Y F G S sz [.ref (F 70), .ref (zad F G (40 + 2 * s1))]) (zQiG D Y F (zAo F G sz) res) 644 11109 (zAo F G sz) := by
  unfold M_X6_readFrom at h
  refine zMet (cc := cX6_readFrom) (maxL := 4) (ret := (some .int)) (own := RX6) (by decide +kernel) rfl rfl (Nat.le_of_ble_eq_true rfl) ?_
  intro p e s m args below meth c C0 hin hw hS ls hl
  have hl : lv_has ls 4 [(0, .ref (F 70)), (1, .ref (zad F G (40 + 2 * s1)))] := hl
  generalize zAo F G sz = A at C0 hw hS ⊢
  obtain ⟨hx, hb, hml, hr, hown, hts, hK, hA, hlk, hN⟩ := id C0
  have hc0 : 0 + 4 * 161 ≤ 644 := by omega
  have hs0 : 0 + 69 * 161 ≤ 11109 := by omega
  refine lv_aload_n hx hb dX6_readFrom_0 rfl (lv_at hl 0 rfl) ?_
  refine lv_aload_n hx hb dX6_readFrom_1 rfl (lv_at hl 1 rfl) ?_
  refine z_getU C0 in_X6_readFrom_X7 (C := RX7) (T := TX7) (N := 3) hw (k := (40 + 2 * s1)) (ci := 7) (v := .int ((zsc S (40 + 2 * s1) 2))) (zsh_E hs1) rfl (zsh_B hs1) rfl 2 (by decide) rfl 1 rfl (Or.inl rfl) dX6_readFrom_2 ?_
  refine lv_sipush (v := 160) hx hb dX6_readFrom_5 (by decide) ?_
  refine va_mmin hx hb (hml.trans hl.1.symm) hown (hts _ (List.mem_of_getElem? (i := 2) rfl)) (hts _ (List.mem_of_getElem? (i := 3) rfl)) (hts _ (List.mem_of_getElem? (i := 4) rfl)) (hts _ (List.mem_of_getElem? (i := 5) rfl)) (Nat.le_of_ble_eq_true rfl) (Nat.le_of_ble_eq_true rfl) (zle hc0) (zle hs0) dX6_readFrom_8 ?_
  refine z_putU C0 in_X6_readFrom_X6 tyX6 tyX6_ok nmX6 (C := RX6) (T := TX6) (N := 10) hw hS (k := 70) (ci := 6) (v := (if (160 : Int32) < (zsc S (40 + 2 * s1) 2) then (160 : Int32) else (zsc S (40 + 2 * s1) 2))) rfl rfl rfl rfl 2 (by decide) 6 rfl rfl rfl rfl (Nat.le_of_ble_eq_true rfl) rfl dX6_readFrom_11 (fun H locs hw hS => ?_)
  refine lv_iconst (v := 0) hx hb dX6_readFrom_14 (by decide) ?_
  refine lv_istore_n (lv' := [(2, .int 0), (0, .ref (F 70)), (1, .ref (zad F G (40 + 2 * s1)))]) hx hb dX6_readFrom_15 rfl hl (by decide) rfl (fun ls hl => ?_)
  exact t_X6_readFrom_B16 C0 s1 hs1 res zF G ((zP S 70 2 ((if (160 : Int32) < (zsc S (40 + 2 * s1) 2) then (160 : Int32) else (zsc S (40 + 2 * s1) 2))))) 161 0 h _ _ hc0 hs0 _ _ _ hw hS (lv_sub hl [1, 2, 0] rfl)
def M_X11_person_B10 (pk : Nat → Nat) (S : zSt) (b : Nat) : Option (Int32 × (Nat → Nat) × zSt) :=
  Option.bind (M_X11_refuse pk S (-1)) (fun w2 => some (w2.1, pk, w2.2))
set_option maxHeartbeats 4000000 in
set_option maxRecDepth 100000 in
theorem t_X11_person_B10 {p : Program} {l : Launch} {e : Env} {s : State} {m : MethodId} {args : Array Value} {below : List Frame} {meth : Method} {c : Code} {D : va_G} {Y : Nat → ClassId} {F : Nat → Nat} {A : Nat → Prop} (C0 : zCx p s m args meth c D Y F A RX11 cX11_person 4 (some .int) wsX11_person) (res : Int32 × (Nat → Nat) × zSt) : ∀ (G : zG) (S : zSt) (b : Nat), M_X11_person_B10 (zpk G) S b = some res → ∀ (cells slots : Nat), cells + 4 * b ≤ 4 → slots + 69 * b ≤ 69 → ∀ (H : Heap) (locs : List Loc) (ls : Array Slot), zH D Y F A G S H → va_S A s.heap H locs → lv_has ls 4 [(0, .ref (F 20))] → W p l e { frames := 6, cells := 4, slots := 69, locals := 128 } s m args below meth c H locs cells slots (MQ below (zQiG D Y F A res) args s 4 69 A) (F0 m 10 ls []) := by
  obtain ⟨hx, hb, hml, hr, hown, hts, hK, hA, hlk, hN⟩ := id C0
  intro G S b h cells slots hc0 hs0 H locs ls hw hS hl
  unfold M_X11_person_B10 at h
  refine lv_aload_n hx hb dX11_person_10 rfl (lv_at hl 0 rfl) ?_
  refine lv_iconst (v := (-1)) hx hb dX11_person_11 (by decide) ?_
  obtain ⟨w2, ew2, h⟩ := z_bd h
  refine z_goi C0 hw hS (res := w2) (rest := []) (arr := (Value.ref (F 20) :: [.int (-1)]).toArray) ?_ (fun H locs hw hS => ?_)
  · exact va_runV (z_fix C0) (c_X11_refuse l D Y F G S _ (-1) w2 ew2) (cwV 1 hts gX11_person_X11_refuse rfl rfl rfl (by decide +kernel) ⟨Nat.le_of_ble_eq_true rfl, Nat.le_of_ble_eq_true rfl⟩) ⟨zPc_blind, z_rv C0 hw (k := 20) rfl rfl rfl rfl, z_give C0 hw hS _⟩ rfl rfl hl.1 rfl (lv_room (Nat.le_of_ble_eq_true rfl)) dX11_person_12 ⟨zle hc0, zle hs0⟩
  exact z_retiG C0 hw hS (zle hc0) (zle hs0) (Option.some.inj h) dX11_person_15
def M_X11_person_B37 (pk : Nat → Nat) (S : zSt) (b : Nat) : Option (Int32 × (Nat → Nat) × zSt) :=
  Option.bind (M_X11_refuse pk S (-6)) (fun w5 => some (w5.1, pk, w5.2))
set_option maxHeartbeats 4000000 in
set_option maxRecDepth 100000 in
theorem t_X11_person_B37 {p : Program} {l : Launch} {e : Env} {s : State} {m : MethodId} {args : Array Value} {below : List Frame} {meth : Method} {c : Code} {D : va_G} {Y : Nat → ClassId} {F : Nat → Nat} {A : Nat → Prop} (C0 : zCx p s m args meth c D Y F A RX11 cX11_person 4 (some .int) wsX11_person) (res : Int32 × (Nat → Nat) × zSt) : ∀ (G : zG) (S : zSt) (b : Nat), M_X11_person_B37 (zpk G) S b = some res → ∀ (cells slots : Nat), cells + 4 * b ≤ 4 → slots + 69 * b ≤ 69 → ∀ (H : Heap) (locs : List Loc) (ls : Array Slot), zH D Y F A G S H → va_S A s.heap H locs → lv_has ls 4 [(0, .ref (F 20))] → W p l e { frames := 6, cells := 4, slots := 69, locals := 128 } s m args below meth c H locs cells slots (MQ below (zQiG D Y F A res) args s 4 69 A) (F0 m 37 ls []) := by
  obtain ⟨hx, hb, hml, hr, hown, hts, hK, hA, hlk, hN⟩ := id C0
  intro G S b h cells slots hc0 hs0 H locs ls hw hS hl
  unfold M_X11_person_B37 at h
  refine lv_aload_n hx hb dX11_person_37 rfl (lv_at hl 0 rfl) ?_
  refine lv_bipush (v := (-6)) hx hb dX11_person_38 (by decide) ?_
  obtain ⟨w5, ew5, h⟩ := z_bd h
  refine z_goi C0 hw hS (res := w5) (rest := []) (arr := (Value.ref (F 20) :: [.int (-6)]).toArray) ?_ (fun H locs hw hS => ?_)
  · exact va_runV (z_fix C0) (c_X11_refuse l D Y F G S _ (-6) w5 ew5) (cwV 1 hts gX11_person_X11_refuse rfl rfl rfl (by decide +kernel) ⟨Nat.le_of_ble_eq_true rfl, Nat.le_of_ble_eq_true rfl⟩) ⟨zPc_blind, z_rv C0 hw (k := 20) rfl rfl rfl rfl, z_give C0 hw hS _⟩ rfl rfl hl.1 rfl (lv_room (Nat.le_of_ble_eq_true rfl)) dX11_person_40 ⟨zle hc0, zle hs0⟩
  exact z_retiG C0 hw hS (zle hc0) (zle hs0) (Option.some.inj h) dX11_person_43
def M_X11_person (pk : Nat → Nat) (S : zSt) (x1 : Int32) (x2 : Int32) (x3 : Int32) : Option (Int32 × (Nat → Nat) × zSt) :=
  (if x1 < 0 then M_X11_person_B10 pk S 1 else (if x1 < 7 then (if x2 < 0 then M_X11_person_B37 pk S 1 else (if 9 < x2 then M_X11_person_B37 pk S 1 else (if x3 < 1 then M_X11_person_B37 pk S 1 else (if x3 ≤ 20 then Option.bind (M_X4_hasRoom pk S 0) (fun w9 => (if w9 = 0 then Option.bind (M_X11_refuse pk S (-7)) (fun w15 => some (w15.1, pk, w15.2)) else zg (decide (1 ≤ 1)) (Option.bind (M_X4_add pk S 0 x1 x2 x3) (fun w11_ => zlet3 w11_ (fun w11 pk T12 => some (w11, pk, T12)))))) else M_X11_person_B37 pk S 1)))) else M_X11_person_B10 pk S 1))
set_option maxHeartbeats 4000000 in
set_option maxRecDepth 100000 in
theorem c_X11_person (l : Launch) (D : va_G) (Y : Nat → ClassId) (F : Nat → Nat) (G : zG) (S : zSt) (sz : Nat) (x1 : Int32) (x2 : Int32) (x3 : Int32) (res : Int32 × (Nat → Nat) × zSt) (h : M_X11_person (zpk G) S x1 x2 x3 = some res) : Met l yX11_person wsX11_person { frames := 6, cells := 4, slots := 69, locals := 128 } (zPc D Y F G S sz [.ref (F 20), .int x1, .int x2, .int x3]) (zQiG D Y F (zAo F G sz) res) 4 69 (zAo F G sz) := by
  unfold M_X11_person at h
  refine zMet (cc := cX11_person) (maxL := 4) (ret := (some .int)) (own := RX11) (by decide +kernel) rfl rfl (Nat.le_of_ble_eq_true rfl) ?_
  intro p e s m args below meth c C0 hin hw hS ls hl
  have hl : lv_has ls 4 [(0, .ref (F 20)), (1, .int x1), (2, .int x2), (3, .int x3)] := hl
  generalize zAo F G sz = A at C0 hw hS ⊢
  obtain ⟨hx, hb, hml, hr, hown, hts, hK, hA, hlk, hN⟩ := id C0
  have hc0 : 0 + 4 * 1 ≤ 4 := by omega
  have hs0 : 0 + 69 * 1 ≤ 69 := by omega
  refine lv_iload_n hx hb dX11_person_0 rfl (lv_at hl 1 rfl) ?_
  refine lv_if_lt (tgt := 10) hx hb dX11_person_1 (by decide) (fun c1 => ?_) (fun c1 => ?_)
  · replace h := z_ifp c1 h
    exact t_X11_person_B10 C0 res G S 1 h _ _ hc0 hs0 _ _ _ hw hS (lv_sub hl [0] rfl)
  · replace h := z_ifn c1 h
    refine lv_iload_n hx hb dX11_person_4 rfl (lv_at hl 1 rfl) ?_
    refine lv_bipush (v := 7) hx hb dX11_person_5 (by decide) ?_
    refine lv_icmp_lt (tgt := 16) hx hb dX11_person_7 (by decide) (fun c3 => ?_) (fun c3 => ?_)
    · replace h := z_ifp c3 h
      refine lv_iload_n hx hb dX11_person_16 rfl (lv_at hl 2 rfl) ?_
      refine lv_if_lt (tgt := 37) hx hb dX11_person_17 (by decide) (fun c4 => ?_) (fun c4 => ?_)
      · replace h := z_ifp c4 h
        exact t_X11_person_B37 C0 res G S 1 h _ _ hc0 hs0 _ _ _ hw hS (lv_sub hl [0] rfl)
      · replace h := z_ifn c4 h
        refine lv_iload_n hx hb dX11_person_20 rfl (lv_at hl 2 rfl) ?_
        refine lv_bipush (v := 9) hx hb dX11_person_21 (by decide) ?_
        refine lv_icmp_gt (tgt := 37) hx hb dX11_person_23 (by decide) (fun c6 => ?_) (fun c6 => ?_)
        · replace h := z_ifp c6 h
          exact t_X11_person_B37 C0 res G S 1 h _ _ hc0 hs0 _ _ _ hw hS (lv_sub hl [0] rfl)
        · replace h := z_ifn c6 h
          refine lv_iload_n hx hb dX11_person_26 rfl (lv_at hl 3 rfl) ?_
          refine lv_iconst (v := 1) hx hb dX11_person_27 (by decide) ?_
          refine lv_icmp_lt (tgt := 37) hx hb dX11_person_28 (by decide) (fun c7 => ?_) (fun c7 => ?_)
          · replace h := z_ifp c7 h
            exact t_X11_person_B37 C0 res G S 1 h _ _ hc0 hs0 _ _ _ hw hS (lv_sub hl [0] rfl)
          · replace h := z_ifn c7 h
            refine lv_iload_n hx hb dX11_person_31 rfl (lv_at hl 3 rfl) ?_
            refine lv_bipush (v := 20) hx hb dX11_person_32 (by decide) ?_
            refine lv_icmp_le (tgt := 44) hx hb dX11_person_34 (by decide) (fun c8 => ?_) (fun c8 => ?_)
            · replace h := z_ifp c8 h
              refine lv_aload_n hx hb dX11_person_44 rfl (lv_at hl 0 rfl) ?_
              refine z_getU C0 in_X11_person_X11 (C := RX11) (T := TX11) (N := 14) hw (k := 20) (ci := 11) (v := .ref (F 60)) rfl rfl rfl rfl 3 (by decide) rfl 1 rfl (Or.inl rfl) dX11_person_45 ?_
              obtain ⟨w9, ew9, h⟩ := z_bd h
              refine z_goi C0 hw hS (res := (w9, S)) (rest := []) (arr := (Value.ref (F 60) :: []).toArray) ?_ (fun H locs hw hS => ?_)
              · exact va_runV (z_fix C0) (c_X4_hasRoom l D Y F G S _ 0 (by decide) w9 ew9) (cwV 0 hts gX11_person_X4_hasRoom rfl rfl rfl (by decide +kernel) ⟨Nat.le_of_ble_eq_true rfl, Nat.le_of_ble_eq_true rfl⟩) ⟨zPc_blind, z_rv C0 hw (k := 60) rfl rfl rfl rfl, z_give C0 hw hS _⟩ rfl rfl hl.1 rfl (lv_room (Nat.le_of_ble_eq_true rfl)) dX11_person_48 ⟨zle hc0, zle hs0⟩
              refine lv_if_ne (tgt := 61) hx hb dX11_person_51 (by decide) (fun c10 => ?_) (fun c10 => ?_)
              · replace h := z_ifn c10 h
                refine lv_aload_n hx hb dX11_person_61 rfl (lv_at hl 0 rfl) ?_
                refine z_getU C0 in_X11_person_X11 (C := RX11) (T := TX11) (N := 14) hw (k := 20) (ci := 11) (v := .ref (F 60)) rfl rfl rfl rfl 3 (by decide) rfl 1 rfl (Or.inl rfl) dX11_person_62 ?_
                refine lv_iload_n hx hb dX11_person_65 rfl (lv_at hl 1 rfl) ?_
                refine lv_iload_n hx hb dX11_person_66 rfl (lv_at hl 2 rfl) ?_
                refine lv_iload_n hx hb dX11_person_67 rfl (lv_at hl 3 rfl) ?_
                obtain ⟨b14, h⟩ := z_gd h
                have b14 : 1 ≤ 1 := of_decide_eq_true b14
                obtain ⟨⟨w11, p13, T12⟩, ew11, h⟩ := z_bd h
                refine z_goiG (mc := 4) (ms := 69) C0 hw hS (res := (w11, p13, T12)) (rest := []) (arr := (Value.ref (F 60) :: [.int x1, .int x2, .int x3]).toArray) ?_ (fun G1 H locs hG hw hS => ?_)
                · exact va_runV (z_fix C0) (c_X4_add l D Y F G S _ 0 (by decide) x1 x2 x3 (w11, p13, T12) ew11) (cwV 3 hts gX11_person_X4_add rfl rfl rfl (by decide +kernel) ⟨Nat.le_of_ble_eq_true rfl, Nat.le_of_ble_eq_true rfl⟩) ⟨zPc_blind, z_rv C0 hw (k := 60) rfl rfl rfl rfl, z_give C0 hw hS _⟩ rfl rfl hl.1 rfl (lv_room (Nat.le_of_ble_eq_true rfl)) dX11_person_68 ⟨by show 0 + 4 ≤ 4; omega, by show 0 + 69 ≤ 69; omega⟩
                replace h := zlet3_h hG h
                have hc0 : (0 + 4) + 4 * (1 - 1) ≤ 4 := by omega
                have hs0 : (0 + 69) + 69 * (1 - 1) ≤ 69 := by omega
                have hl := lv_sub hl [] rfl
                rename zG => G
                have hl : lv_has ls 4 [] := hl
                exact z_retiG C0 hw hS (zle hc0) (zle hs0) (Option.some.inj h) dX11_person_71
              · replace h := z_ifp c10 h
                refine lv_aload_n hx hb dX11_person_54 rfl (lv_at hl 0 rfl) ?_
                refine lv_bipush (v := (-7)) hx hb dX11_person_55 (by decide) ?_
                obtain ⟨w15, ew15, h⟩ := z_bd h
                refine z_goi C0 hw hS (res := w15) (rest := []) (arr := (Value.ref (F 20) :: [.int (-7)]).toArray) ?_ (fun H locs hw hS => ?_)
                · exact va_runV (z_fix C0) (c_X11_refuse l D Y F G S _ (-7) w15 ew15) (cwV 1 hts gX11_person_X11_refuse rfl rfl rfl (by decide +kernel) ⟨Nat.le_of_ble_eq_true rfl, Nat.le_of_ble_eq_true rfl⟩) ⟨zPc_blind, z_rv C0 hw (k := 20) rfl rfl rfl rfl, z_give C0 hw hS _⟩ rfl rfl hl.1 rfl (lv_room (Nat.le_of_ble_eq_true rfl)) dX11_person_57 ⟨zle hc0, zle hs0⟩
                exact z_retiG C0 hw hS (zle hc0) (zle hs0) (Option.some.inj h) dX11_person_60
            · replace h := z_ifn c8 h
              exact t_X11_person_B37 C0 res G S 1 h _ _ hc0 hs0 _ _ _ hw hS (lv_sub hl [0] rfl)
    · replace h := z_ifn c3 h
      exact t_X11_person_B10 C0 res G S 1 h _ _ hc0 hs0 _ _ _ hw hS (lv_sub hl [0] rfl)
def M_X11_land_B17 (pk : Nat → Nat) (S : zSt) (b : Nat) (o2 : Option Nat) : Option (Int32 × (Nat → Nat) × zSt) :=
  (zm o2 (Option.bind (M_X11_lackOfRow pk S none) (fun w4 => Option.bind (M_X11_refuse pk S w4) (fun w5 => some (w5.1, pk, w5.2)))) (fun q3 => zg (decide (q3 < 8)) (Option.bind (M_X11_lackOfRow pk S (some q3)) (fun w6 => Option.bind (M_X11_refuse pk S w6) (fun w7 => some (w7.1, pk, w7.2))))))
set_option maxHeartbeats 4000000 in
set_option maxRecDepth 100000 in
theorem t_X11_land_B17 {p : Program} {l : Launch} {e : Env} {s : State} {m : MethodId} {args : Array Value} {below : List Frame} {meth : Method} {c : Code} {D : va_G} {Y : Nat → ClassId} {F : Nat → Nat} {A : Nat → Prop} (C0 : zCx p s m args meth c D Y F A RX11 cX11_land 4 (some .int) wsX11_land) (res : Int32 × (Nat → Nat) × zSt) : ∀ (G : zG) (S : zSt) (b : Nat) (o2 : Option Nat), M_X11_land_B17 (zpk G) S b o2 = some res → ∀ (cells slots : Nat), cells + 4 * b ≤ 692 → slots + 69 * b ≤ 11937 → ∀ (H : Heap) (locs : List Loc) (ls : Array Slot), zH D Y F A G S H → va_S A s.heap H locs → lv_has ls 4 [(0, .ref (F 20)), (2, va_rf (Option.map (zsa F G) o2))] → W p l e { frames := 8, cells := 692, slots := 11937, locals := 172 } s m args below meth c H locs cells slots (MQ below (zQiG D Y F A res) args s 692 11937 A) (F0 m 17 ls []) := by
  obtain ⟨hx, hb, hml, hr, hown, hts, hK, hA, hlk, hN⟩ := id C0
  intro G S b o2 h cells slots hc0 hs0 H locs ls hw hS hl
  unfold M_X11_land_B17 at h
  rcases o2 with _ | q3
  · replace h := zm_n h
    have hl : lv_has ls 4 [(0, .ref (F 20)), (2, .null)] := hl
    refine lv_aload_n hx hb dX11_land_17 rfl (lv_at hl 0 rfl) ?_
    refine lv_aload_nN hx hb dX11_land_18 rfl (lv_at hl 1 rfl) ?_
    obtain ⟨w4, ew4, h⟩ := z_bd h
    refine z_goi C0 hw hS (res := (w4, S)) (rest := [.ref (F 20)]) (arr := ([.null] : List Value).toArray) ?_ (fun H locs hw hS => ?_)
    · exact va_runS (z_fix C0) (c_X11_lackOfRow l D Y F G S _ none (fun _ h => nomatch h) w4 ew4) (va_cwS 1 hts gX11_land_X11_lackOfRow rfl rfl rfl (by decide +kernel) ⟨Nat.le_of_ble_eq_true rfl, Nat.le_of_ble_eq_true rfl⟩) ⟨zPc_blind, z_give C0 hw hS _⟩ rfl rfl hl.1 rfl (lv_room (Nat.le_of_ble_eq_true rfl)) dX11_land_19 ⟨zle hc0, zle hs0⟩
    obtain ⟨w5, ew5, h⟩ := z_bd h
    refine z_goi C0 hw hS (res := w5) (rest := []) (arr := (Value.ref (F 20) :: [.int w4]).toArray) ?_ (fun H locs hw hS => ?_)
    · exact va_runV (z_fix C0) (c_X11_refuse l D Y F G S _ w4 w5 ew5) (cwV 1 hts gX11_land_X11_refuse rfl rfl rfl (by decide +kernel) ⟨Nat.le_of_ble_eq_true rfl, Nat.le_of_ble_eq_true rfl⟩) ⟨zPc_blind, z_rv C0 hw (k := 20) rfl rfl rfl rfl, z_give C0 hw hS _⟩ rfl rfl hl.1 rfl (lv_room (Nat.le_of_ble_eq_true rfl)) dX11_land_22 ⟨zle hc0, zle hs0⟩
    exact z_retiG C0 hw hS (zle hc0) (zle hs0) (Option.some.inj h) dX11_land_25
  · replace h := zm_s h
    obtain ⟨bq3, h⟩ := z_gd h
    have hq3 : q3 < 8 := of_decide_eq_true bq3
    have hl : lv_has ls 4 [(0, .ref (F 20)), (2, .ref (zad F G (40 + 2 * q3)))] := hl
    refine lv_aload_n hx hb dX11_land_17 rfl (lv_at hl 0 rfl) ?_
    refine lv_aload_n hx hb dX11_land_18 rfl (lv_at hl 1 rfl) ?_
    obtain ⟨w6, ew6, h⟩ := z_bd h
    refine z_goi C0 hw hS (res := (w6, S)) (rest := [.ref (F 20)]) (arr := ([.ref (zad F G (40 + 2 * q3))] : List Value).toArray) ?_ (fun H locs hw hS => ?_)
    · exact va_runS (z_fix C0) (c_X11_lackOfRow l D Y F G S _ (some q3) (fun _ h => Option.some.inj h ▸ hq3) w6 ew6) (va_cwS 1 hts gX11_land_X11_lackOfRow rfl rfl rfl (by decide +kernel) ⟨Nat.le_of_ble_eq_true rfl, Nat.le_of_ble_eq_true rfl⟩) ⟨zPc_blind, z_give C0 hw hS _⟩ rfl rfl hl.1 rfl (lv_room (Nat.le_of_ble_eq_true rfl)) dX11_land_19 ⟨zle hc0, zle hs0⟩
    obtain ⟨w7, ew7, h⟩ := z_bd h
    refine z_goi C0 hw hS (res := w7) (rest := []) (arr := (Value.ref (F 20) :: [.int w6]).toArray) ?_ (fun H locs hw hS => ?_)
    · exact va_runV (z_fix C0) (c_X11_refuse l D Y F G S _ w6 w7 ew7) (cwV 1 hts gX11_land_X11_refuse rfl rfl rfl (by decide +kernel) ⟨Nat.le_of_ble_eq_true rfl, Nat.le_of_ble_eq_true rfl⟩) ⟨zPc_blind, z_rv C0 hw (k := 20) rfl rfl rfl rfl, z_give C0 hw hS _⟩ rfl rfl hl.1 rfl (lv_room (Nat.le_of_ble_eq_true rfl)) dX11_land_22 ⟨zle hc0, zle hs0⟩
    exact z_retiG C0 hw hS (zle hc0) (zle hs0) (Option.some.inj h) dX11_land_25
def M_X11_land (pk : Nat → Nat) (S : zSt) (x1 : Int32) : Option (Int32 × (Nat → Nat) × zSt) :=
  Option.bind (M_X11_shelfAt pk S x1) (fun w1 => (zm w1 (M_X11_land_B17 pk S 173 none) (fun q2 => zg (decide (q2 < 8)) (Option.bind (M_X7_hasRow pk S q2) (fun w8 => (if w8 = 0 then M_X11_land_B17 pk S 173 (some q2) else zg (decide (6 ≤ 173)) (Option.bind (M_X4_takeFrom pk S 1 0) (fun w10 => zlet2 w10 (fun pk T11 => zg (decide (161 ≤ (173 - 6))) (Option.bind (M_X6_readFrom pk T11 q2) (fun w14_ => zlet3 w14_ (fun w14 pk T15 => (if (zsc ((zP T15 20 13 ((zsc T15 70 4)))) 20 13) = (-1) then zg (decide (6 ≤ ((173 - 6) - 161))) (Option.bind (M_X4_takeFrom pk ((zP T15 20 13 ((zsc T15 70 4)))) 0 1) (fun w19 => zlet2 w19 (fun pk T20 => some (w14, pk, T20)))) else Option.bind (M_X11_refuse pk ((zP T15 20 13 ((zsc T15 70 4)))) (-6)) (fun w23 => some (w23.1, pk, w23.2)))))))))))))))
set_option maxHeartbeats 4000000 in
set_option maxRecDepth 100000 in
theorem c_X11_land (l : Launch) (D : va_G) (Y : Nat → ClassId) (F : Nat → Nat) (G : zG) (S : zSt) (sz : Nat) (x1 : Int32) (res : Int32 × (Nat → Nat) × zSt) (h : M_X11_land (zpk G) S x1 = some res) : Met l yX11_land wsX11_land { frames := 8, cells := 692, slots := 11937, locals := 172 } (zPc D Y F G S sz [.ref (F 20), .int x1]) (zQiG D Y F (zAo F G sz) res) 692 11937 (zAo F G sz) := by
  unfold M_X11_land at h
  refine zMet (cc := cX11_land) (maxL := 4) (ret := (some .int)) (own := RX11) (by decide +kernel) rfl rfl (Nat.le_of_ble_eq_true rfl) ?_
  intro p e s m args below meth c C0 hin hw hS ls hl
  have hl : lv_has ls 4 [(0, .ref (F 20)), (1, .int x1)] := hl
  generalize zAo F G sz = A at C0 hw hS ⊢
  obtain ⟨hx, hb, hml, hr, hown, hts, hK, hA, hlk, hN⟩ := id C0
  have hc0 : 0 + 4 * 173 ≤ 692 := by omega
  have hs0 : 0 + 69 * 173 ≤ 11937 := by omega
  refine lv_aload_n hx hb dX11_land_0 rfl (lv_at hl 0 rfl) ?_
  refine lv_iload_n hx hb dX11_land_1 rfl (lv_at hl 1 rfl) ?_
  obtain ⟨w1, ew1, h⟩ := z_bd h
  refine z_goq C0 hw hS (r0 := w1.map (zsa F G)) (rest := []) (arr := (Value.ref (F 20) :: [.int x1]).toArray) ?_ (fun H locs hw hS => ?_)
  · exact va_runV (z_fix C0) (c_X11_shelfAt l D Y F G S _ x1 w1 ew1) (cwV 1 hts gX11_land_X11_shelfAt rfl rfl rfl (by decide +kernel) ⟨Nat.le_of_ble_eq_true rfl, Nat.le_of_ble_eq_true rfl⟩) ⟨zPc_blind, z_rv C0 hw (k := 20) rfl rfl rfl rfl, z_give C0 hw hS _⟩ rfl rfl hl.1 rfl (lv_room (Nat.le_of_ble_eq_true rfl)) dX11_land_2 ⟨zle hc0, zle hs0⟩
  rcases w1 with _ | q2
  · replace h := zm_n h
    refine z_topv (y := .null) rfl ?_
    refine lv_astore_nN (lv' := [(2, .null), (0, .ref (F 20)), (1, .int x1)]) hx hb dX11_land_5 rfl hl (by decide) rfl (fun ls hl => ?_)
    refine lv_aload_nN hx hb dX11_land_6 rfl (lv_at hl 0 rfl) ?_
    refine lv_ifnullN (tgt := 17) hx hb dX11_land_7 (by decide) ?_
    exact t_X11_land_B17 C0 res G S 173 none h _ _ hc0 hs0 _ _ _ hw hS (lv_sub hl [1, 0] rfl)
  · replace h := zm_s h
    obtain ⟨bq2, h⟩ := z_gd h
    have hq2 : q2 < 8 := of_decide_eq_true bq2
    refine z_topv (y := .ref (zad F G (40 + 2 * q2))) rfl ?_
    refine lv_astore_n (lv' := [(2, .ref (zad F G (40 + 2 * q2))), (0, .ref (F 20)), (1, .int x1)]) hx hb dX11_land_5 rfl hl (by decide) rfl (fun ls hl => ?_)
    refine lv_aload_n hx hb dX11_land_6 rfl (lv_at hl 0 rfl) ?_
    refine lv_ifnull hx hb dX11_land_7 ?_
    refine lv_aload_n hx hb dX11_land_10 rfl (lv_at hl 0 rfl) ?_
    obtain ⟨w8, ew8, h⟩ := z_bd h
    refine z_goi C0 hw hS (res := (w8, S)) (rest := []) (arr := (Value.ref (zad F G (40 + 2 * q2)) :: []).toArray) ?_ (fun H locs hw hS => ?_)
    · exact va_runV (z_fix C0) (c_X7_hasRow l D Y F G S _ q2 hq2 w8 ew8) (cwV 0 hts gX11_land_X7_hasRow rfl rfl rfl (by decide +kernel) ⟨Nat.le_of_ble_eq_true rfl, Nat.le_of_ble_eq_true rfl⟩) ⟨zPc_blind, z_rv C0 hw (k := (40 + 2 * q2)) (zsh_E hq2) rfl (zsh_B hq2) rfl, z_give C0 hw hS _⟩ rfl rfl hl.1 rfl (lv_room (Nat.le_of_ble_eq_true rfl)) dX11_land_11 ⟨zle hc0, zle hs0⟩
    refine lv_if_ne (tgt := 26) hx hb dX11_land_14 (by decide) (fun c9 => ?_) (fun c9 => ?_)
    · replace h := z_ifn c9 h
      refine lv_aload_n hx hb dX11_land_26 rfl (lv_at hl 1 rfl) ?_
      refine z_getU C0 in_X11_land_X11 (C := RX11) (T := TX11) (N := 14) hw (k := 20) (ci := 11) (v := .ref (F 63)) rfl rfl rfl rfl 4 (by decide) rfl 1 rfl (Or.inl rfl) dX11_land_27 ?_
      refine lv_aload_n hx hb dX11_land_30 rfl (lv_at hl 1 rfl) ?_
      refine z_getU C0 in_X11_land_X11 (C := RX11) (T := TX11) (N := 14) hw (k := 20) (ci := 11) (v := .ref (F 60)) rfl rfl rfl rfl 3 (by decide) rfl 2 rfl (Or.inl rfl) dX11_land_31 ?_
      obtain ⟨b13, h⟩ := z_gd h
      have b13 : 6 ≤ 173 := of_decide_eq_true b13
      obtain ⟨⟨p12, T11⟩, ew10, h⟩ := z_bd h
      refine z_govG (mc := 24) (ms := 414) C0 hw hS (res := (p12, T11)) (rest := []) (arr := (Value.ref (F 63) :: [.ref (F 60)]).toArray) ?_ (fun G1 H locs hG hw hS => ?_)
      · exact va_runV (z_fix C0) (c_X4_takeFrom l D Y F G S _ 1 0 (by decide) (by decide) (p12, T11) ew10) (cwV 1 hts gX11_land_X4_takeFrom rfl rfl rfl (by decide +kernel) ⟨Nat.le_of_ble_eq_true rfl, Nat.le_of_ble_eq_true rfl⟩) ⟨zPc_blind, z_rv C0 hw (k := 63) rfl rfl rfl rfl, z_give C0 hw hS _⟩ rfl rfl hl.1 rfl (lv_room (Nat.le_of_ble_eq_true rfl)) dX11_land_34 ⟨by show 0 + 24 ≤ 692; omega, by show 0 + 414 ≤ 11937; omega⟩
      replace h := zlet2_h hG h
      have hc0 : (0 + 24) + 4 * (173 - 6) ≤ 692 := by omega
      have hs0 : (0 + 414) + 69 * (173 - 6) ≤ 11937 := by omega
      have hl := lv_sub hl [0, 1] rfl
      rw [show zad F G (40 + 2 * q2) = zad F G1 (40 + 2 * q2) from zad_lo (by omega)] at hl
      rename zG => G
      have hl : lv_has ls 4 [(2, .ref (zad F G (40 + 2 * q2))), (0, .ref (F 20))] := hl
      refine lv_aload_n hx hb dX11_land_37 rfl (lv_at hl 1 rfl) ?_
      refine z_getU C0 in_X11_land_X11 (C := RX11) (T := TX11) (N := 14) hw (k := 20) (ci := 11) (v := .ref (F 70)) rfl rfl rfl rfl 6 (by decide) rfl 3 rfl (Or.inl rfl) dX11_land_38 ?_
      refine lv_aload_n hx hb dX11_land_41 rfl (lv_at hl 0 rfl) ?_
      obtain ⟨b17, h⟩ := z_gd h
      have b17 : 161 ≤ (173 - 6) := of_decide_eq_true b17
      obtain ⟨⟨w14, p16, T15⟩, ew14, h⟩ := z_bd h
      refine z_goiG (mc := 644) (ms := 11109) C0 hw hS (res := (w14, p16, T15)) (rest := []) (arr := (Value.ref (F 70) :: [.ref (zad F G (40 + 2 * q2))]).toArray) ?_ (fun G1 H locs hG hw hS => ?_)
      · exact va_runV (z_fix C0) (c_X6_readFrom l D Y F G T11 _ q2 hq2 (w14, p16, T15) ew14) (cwV 1 hts gX11_land_X6_readFrom rfl rfl rfl (by decide +kernel) ⟨Nat.le_of_ble_eq_true rfl, Nat.le_of_ble_eq_true rfl⟩) ⟨zPc_blind, z_rv C0 hw (k := 70) rfl rfl rfl rfl, z_give C0 hw hS _⟩ rfl rfl hl.1 rfl (lv_room (Nat.le_of_ble_eq_true rfl)) dX11_land_42 ⟨by show (0 + 24) + 644 ≤ 692; omega, by show (0 + 414) + 11109 ≤ 11937; omega⟩
      replace h := zlet3_h hG h
      have hc0 : ((0 + 24) + 644) + 4 * ((173 - 6) - 161) ≤ 692 := by omega
      have hs0 : ((0 + 414) + 11109) + 69 * ((173 - 6) - 161) ≤ 11937 := by omega
      have hl := lv_sub hl [1] rfl
      rename zG => G
      have hl : lv_has ls 4 [(0, .ref (F 20))] := hl
      refine lv_istore_n (lv' := [(3, .int w14), (0, .ref (F 20))]) hx hb dX11_land_45 rfl hl (by decide) rfl (fun ls hl => ?_)
      refine lv_aload_n hx hb dX11_land_46 rfl (lv_at hl 1 rfl) ?_
      refine lv_aload_n hx hb dX11_land_47 rfl (lv_at hl 1 rfl) ?_
      refine z_getU C0 in_X11_land_X11 (C := RX11) (T := TX11) (N := 14) hw (k := 20) (ci := 11) (v := .ref (F 70)) rfl rfl rfl rfl 6 (by decide) rfl 3 rfl (Or.inl rfl) dX11_land_48 ?_
      refine z_getU C0 in_X11_land_X6 (C := RX6) (T := TX6) (N := 10) hw (k := 70) (ci := 6) (v := .int ((zsc T15 70 4))) rfl rfl rfl rfl 4 (by decide) rfl 4 rfl (Or.inl rfl) dX11_land_51 ?_
      refine z_putU C0 in_X11_land_X11 tyX11 tyX11_ok nmX11 (C := RX11) (T := TX11) (N := 14) hw hS (k := 20) (ci := 11) (v := (zsc T15 70 4)) rfl rfl rfl rfl 13 (by decide) 5 rfl rfl rfl rfl (Nat.le_of_ble_eq_true rfl) rfl dX11_land_54 (fun H locs hw hS => ?_)
      refine lv_aload_n hx hb dX11_land_57 rfl (lv_at hl 1 rfl) ?_
      refine z_getU C0 in_X11_land_X11 (C := RX11) (T := TX11) (N := 14) hw (k := 20) (ci := 11) (v := .int ((zsc ((zP T15 20 13 ((zsc T15 70 4)))) 20 13))) rfl rfl rfl rfl 13 (by decide) rfl 5 rfl (Or.inl rfl) dX11_land_58 ?_
      refine lv_iconst (v := (-1)) hx hb dX11_land_61 (by decide) ?_
      refine lv_icmp_eq (tgt := 72) hx hb dX11_land_62 (by decide) (fun c18 => ?_) (fun c18 => ?_)
      · replace h := z_ifp c18 h
        refine lv_aload_n hx hb dX11_land_72 rfl (lv_at hl 1 rfl) ?_
        refine z_getU C0 in_X11_land_X11 (C := RX11) (T := TX11) (N := 14) hw (k := 20) (ci := 11) (v := .ref (F 60)) rfl rfl rfl rfl 3 (by decide) rfl 2 rfl (Or.inl rfl) dX11_land_73 ?_
        refine lv_aload_n hx hb dX11_land_76 rfl (lv_at hl 1 rfl) ?_
        refine z_getU C0 in_X11_land_X11 (C := RX11) (T := TX11) (N := 14) hw (k := 20) (ci := 11) (v := .ref (F 63)) rfl rfl rfl rfl 4 (by decide) rfl 1 rfl (Or.inl rfl) dX11_land_77 ?_
        obtain ⟨b22, h⟩ := z_gd h
        have b22 : 6 ≤ ((173 - 6) - 161) := of_decide_eq_true b22
        obtain ⟨⟨p21, T20⟩, ew19, h⟩ := z_bd h
        refine z_govG (mc := 24) (ms := 414) C0 hw hS (res := (p21, T20)) (rest := []) (arr := (Value.ref (F 60) :: [.ref (F 63)]).toArray) ?_ (fun G1 H locs hG hw hS => ?_)
        · exact va_runV (z_fix C0) (c_X4_takeFrom l D Y F G ((zP T15 20 13 ((zsc T15 70 4)))) _ 0 1 (by decide) (by decide) (p21, T20) ew19) (cwV 1 hts gX11_land_X4_takeFrom rfl rfl rfl (by decide +kernel) ⟨Nat.le_of_ble_eq_true rfl, Nat.le_of_ble_eq_true rfl⟩) ⟨zPc_blind, z_rv C0 hw (k := 60) rfl rfl rfl rfl, z_give C0 hw hS _⟩ rfl rfl hl.1 rfl (lv_room (Nat.le_of_ble_eq_true rfl)) dX11_land_80 ⟨by show ((0 + 24) + 644) + 24 ≤ 692; omega, by show ((0 + 414) + 11109) + 414 ≤ 11937; omega⟩
        replace h := zlet2_h hG h
        have hc0 : (((0 + 24) + 644) + 24) + 4 * (((173 - 6) - 161) - 6) ≤ 692 := by omega
        have hs0 : (((0 + 414) + 11109) + 414) + 69 * (((173 - 6) - 161) - 6) ≤ 11937 := by omega
        have hl := lv_sub hl [0] rfl
        rename zG => G
        have hl : lv_has ls 4 [(3, .int w14)] := hl
        refine lv_iload_n hx hb dX11_land_83 rfl (lv_at hl 0 rfl) ?_
        exact z_retiG C0 hw hS (zle hc0) (zle hs0) (Option.some.inj h) dX11_land_84
      · replace h := z_ifn c18 h
        refine lv_aload_n hx hb dX11_land_65 rfl (lv_at hl 1 rfl) ?_
        refine lv_bipush (v := (-6)) hx hb dX11_land_66 (by decide) ?_
        obtain ⟨w23, ew23, h⟩ := z_bd h
        refine z_goi C0 hw hS (res := w23) (rest := []) (arr := (Value.ref (F 20) :: [.int (-6)]).toArray) ?_ (fun H locs hw hS => ?_)
        · exact va_runV (z_fix C0) (c_X11_refuse l D Y F G ((zP T15 20 13 ((zsc T15 70 4)))) _ (-6) w23 ew23) (cwV 1 hts gX11_land_X11_refuse rfl rfl rfl (by decide +kernel) ⟨Nat.le_of_ble_eq_true rfl, Nat.le_of_ble_eq_true rfl⟩) ⟨zPc_blind, z_rv C0 hw (k := 20) rfl rfl rfl rfl, z_give C0 hw hS _⟩ rfl rfl hl.1 rfl (lv_room (Nat.le_of_ble_eq_true rfl)) dX11_land_68 ⟨zle hc0, zle hs0⟩
        exact z_retiG C0 hw hS (zle hc0) (zle hs0) (Option.some.inj h) dX11_land_71
    · replace h := z_ifp c9 h
      exact t_X11_land_B17 C0 res G S 173 (some q2) h _ _ hc0 hs0 _ _ _ hw hS (lv_sub hl [1, 0] rfl)
def M_X11_behind_B39 (pk : Nat → Nat) (S : zSt) (b : Nat) (x5 : Int32) : Option (Int32 × (Nat → Nat) × zSt) :=
  Option.bind (M_X11_refuse pk S x5) (fun w5 => some (w5.1, pk, w5.2))
set_option maxHeartbeats 4000000 in
set_option maxRecDepth 100000 in
theorem t_X11_behind_B39 {p : Program} {l : Launch} {e : Env} {s : State} {m : MethodId} {args : Array Value} {below : List Frame} {meth : Method} {c : Code} {D : va_G} {Y : Nat → ClassId} {F : Nat → Nat} {A : Nat → Prop} (C0 : zCx p s m args meth c D Y F A RX11 cX11_behind 6 (some .int) wsX11_behind) (res : Int32 × (Nat → Nat) × zSt) : ∀ (G : zG) (S : zSt) (b : Nat) (x5 : Int32), M_X11_behind_B39 (zpk G) S b x5 = some res → ∀ (cells slots : Nat), cells + 4 * b ≤ 24 → slots + 69 * b ≤ 414 → ∀ (H : Heap) (locs : List Loc) (ls : Array Slot), zH D Y F A G S H → va_S A s.heap H locs → lv_has ls 6 [(0, .ref (F 20)), (5, .int x5)] → W p l e { frames := 6, cells := 24, slots := 414, locals := 141 } s m args below meth c H locs cells slots (MQ below (zQiG D Y F A res) args s 24 414 A) (F0 m 39 ls []) := by
  obtain ⟨hx, hb, hml, hr, hown, hts, hK, hA, hlk, hN⟩ := id C0
  intro G S b x5 h cells slots hc0 hs0 H locs ls hw hS hl
  unfold M_X11_behind_B39 at h
  refine lv_aload_n hx hb dX11_behind_39 rfl (lv_at hl 0 rfl) ?_
  refine lv_iload hx hb dX11_behind_40 (lv_at hl 1 rfl) ?_
  obtain ⟨w5, ew5, h⟩ := z_bd h
  refine z_goi C0 hw hS (res := w5) (rest := []) (arr := (Value.ref (F 20) :: [.int x5]).toArray) ?_ (fun H locs hw hS => ?_)
  · exact va_runV (z_fix C0) (c_X11_refuse l D Y F G S _ x5 w5 ew5) (cwV 1 hts gX11_behind_X11_refuse rfl rfl rfl (by decide +kernel) ⟨Nat.le_of_ble_eq_true rfl, Nat.le_of_ble_eq_true rfl⟩) ⟨zPc_blind, z_rv C0 hw (k := 20) rfl rfl rfl rfl, z_give C0 hw hS _⟩ rfl rfl hl.1 rfl (lv_room (Nat.le_of_ble_eq_true rfl)) dX11_behind_42 ⟨zle hc0, zle hs0⟩
  exact z_retiG C0 hw hS (zle hc0) (zle hs0) (Option.some.inj h) dX11_behind_45
def M_X11_behind (pk : Nat → Nat) (S : zSt) (x1 : Int32) (x2 : Int32) (x3 : Int32) : Option (Int32 × (Nat → Nat) × zSt) :=
  Option.bind (M_X11_shelfAt pk S x1) (fun w1 => (zm w1 ((if x3 < 0 then Option.bind (M_X11_refusalOfLife pk S none x2 0) (fun w4 => M_X11_behind_B39 pk S 6 w4) else (if 2 < x3 then Option.bind (M_X11_refusalOfLife pk S none x2 0) (fun w7 => M_X11_behind_B39 pk S 6 w7) else Option.bind (M_X11_refusalOfLife pk S none x2 1) (fun w8 => M_X11_behind_B39 pk S 6 w8)))) (fun q2 => zg (decide (q2 < 8)) ((if x3 < 0 then Option.bind (M_X11_refusalOfLife pk S (some q2) x2 0) (fun w10 => (if w10 = 0 then Option.bind (M_X4_firstWrong pk S 0 q2 x2) (fun w12 => (if w12.1 = (-1) then zg (decide (6 ≤ 6)) (Option.bind (M_X4_takeFrom pk w12.2 1 0) (fun w14 => zlet2 w14 (fun pk T15 => Option.bind (M_X4_liveTold pk T15 1 q2 x2) (fun w18 => (if x3 = 0 then Option.bind (M_X4_strengthTotal pk w18 1) (fun w20 => some (w20, pk, w18)) else (if x3 = 1 then Option.bind (M_X4_deadTotal pk w18 1) (fun w22 => some (w22, pk, w18)) else Option.bind (M_X4_smearTotal pk w18 1) (fun w23 => some (w23, pk, w18)))))))) else Option.bind (M_X11_refuse pk w12.2 (-6)) (fun w24 => some (w24.1, pk, w24.2)))) else M_X11_behind_B39 pk S 6 w10)) else (if 2 < x3 then Option.bind (M_X11_refusalOfLife pk S (some q2) x2 0) (fun w26 => (if w26 = 0 then Option.bind (M_X4_firstWrong pk S 0 q2 x2) (fun w28 => (if w28.1 = (-1) then zg (decide (6 ≤ 6)) (Option.bind (M_X4_takeFrom pk w28.2 1 0) (fun w30 => zlet2 w30 (fun pk T31 => Option.bind (M_X4_liveTold pk T31 1 q2 x2) (fun w34 => (if x3 = 0 then Option.bind (M_X4_strengthTotal pk w34 1) (fun w36 => some (w36, pk, w34)) else (if x3 = 1 then Option.bind (M_X4_deadTotal pk w34 1) (fun w38 => some (w38, pk, w34)) else Option.bind (M_X4_smearTotal pk w34 1) (fun w39 => some (w39, pk, w34)))))))) else Option.bind (M_X11_refuse pk w28.2 (-6)) (fun w40 => some (w40.1, pk, w40.2)))) else M_X11_behind_B39 pk S 6 w26)) else Option.bind (M_X11_refusalOfLife pk S (some q2) x2 1) (fun w41 => (if w41 = 0 then Option.bind (M_X4_firstWrong pk S 0 q2 x2) (fun w43 => (if w43.1 = (-1) then zg (decide (6 ≤ 6)) (Option.bind (M_X4_takeFrom pk w43.2 1 0) (fun w45 => zlet2 w45 (fun pk T46 => Option.bind (M_X4_liveTold pk T46 1 q2 x2) (fun w49 => (if x3 = 0 then Option.bind (M_X4_strengthTotal pk w49 1) (fun w51 => some (w51, pk, w49)) else (if x3 = 1 then Option.bind (M_X4_deadTotal pk w49 1) (fun w53 => some (w53, pk, w49)) else Option.bind (M_X4_smearTotal pk w49 1) (fun w54 => some (w54, pk, w49)))))))) else Option.bind (M_X11_refuse pk w43.2 (-6)) (fun w55 => some (w55.1, pk, w55.2)))) else M_X11_behind_B39 pk S 6 w41))))))))
set_option maxHeartbeats 4000000 in
set_option maxRecDepth 100000 in
theorem c_X11_behind (l : Launch) (D : va_G) (Y : Nat → ClassId) (F : Nat → Nat) (G : zG) (S : zSt) (sz : Nat) (x1 : Int32) (x2 : Int32) (x3 : Int32) (res : Int32 × (Nat → Nat) × zSt) (h : M_X11_behind (zpk G) S x1 x2 x3 = some res) : Met l yX11_behind wsX11_behind { frames := 6, cells := 24, slots := 414, locals := 141 } (zPc D Y F G S sz [.ref (F 20), .int x1, .int x2, .int x3]) (zQiG D Y F (zAo F G sz) res) 24 414 (zAo F G sz) := by
  unfold M_X11_behind at h
  refine zMet (cc := cX11_behind) (maxL := 6) (ret := (some .int)) (own := RX11) (by decide +kernel) rfl rfl (Nat.le_of_ble_eq_true rfl) ?_
  intro p e s m args below meth c C0 hin hw hS ls hl
  have hl : lv_has ls 6 [(0, .ref (F 20)), (1, .int x1), (2, .int x2), (3, .int x3)] := hl
  generalize zAo F G sz = A at C0 hw hS ⊢
  obtain ⟨hx, hb, hml, hr, hown, hts, hK, hA, hlk, hN⟩ := id C0
  have hc0 : 0 + 4 * 6 ≤ 24 := by omega
  have hs0 : 0 + 69 * 6 ≤ 414 := by omega
  refine lv_aload_n hx hb dX11_behind_0 rfl (lv_at hl 0 rfl) ?_
  refine lv_iload_n hx hb dX11_behind_1 rfl (lv_at hl 1 rfl) ?_
  obtain ⟨w1, ew1, h⟩ := z_bd h
  refine z_goq C0 hw hS (r0 := w1.map (zsa F G)) (rest := []) (arr := (Value.ref (F 20) :: [.int x1]).toArray) ?_ (fun H locs hw hS => ?_)
  · exact va_runV (z_fix C0) (c_X11_shelfAt l D Y F G S _ x1 w1 ew1) (cwV 1 hts gX11_behind_X11_shelfAt rfl rfl rfl (by decide +kernel) ⟨Nat.le_of_ble_eq_true rfl, Nat.le_of_ble_eq_true rfl⟩) ⟨zPc_blind, z_rv C0 hw (k := 20) rfl rfl rfl rfl, z_give C0 hw hS _⟩ rfl rfl hl.1 rfl (lv_room (Nat.le_of_ble_eq_true rfl)) dX11_behind_2 ⟨zle hc0, zle hs0⟩
  rcases w1 with _ | q2
  · replace h := zm_n h
    refine z_topv (y := .null) rfl ?_
    refine lv_astoreN (lv' := [(4, .null), (0, .ref (F 20)), (1, .int x1), (2, .int x2), (3, .int x3)]) hx hb dX11_behind_5 hl (by decide) rfl (fun ls hl => ?_)
    refine lv_aloadN hx hb dX11_behind_7 (lv_at hl 0 rfl) ?_
    refine lv_iload_n hx hb dX11_behind_9 rfl (lv_at hl 3 rfl) ?_
    refine lv_iload_n hx hb dX11_behind_10 rfl (lv_at hl 4 rfl) ?_
    refine lv_if_lt (tgt := 23) hx hb dX11_behind_11 (by decide) (fun c3 => ?_) (fun c3 => ?_)
    · replace h := z_ifp c3 h
      refine lv_iconst (v := 0) hx hb dX11_behind_23 (by decide) ?_
      obtain ⟨w4, ew4, h⟩ := z_bd h
      refine z_goi C0 hw hS (res := (w4, S)) (rest := []) (arr := ([.null, .int x2, .int 0] : List Value).toArray) ?_ (fun H locs hw hS => ?_)
      · exact va_runS (z_fix C0) (c_X11_refusalOfLife l D Y F G S _ none (fun _ h => nomatch h) x2 0 w4 ew4) (va_cwS 3 hts gX11_behind_X11_refusalOfLife rfl rfl rfl (by decide +kernel) ⟨Nat.le_of_ble_eq_true rfl, Nat.le_of_ble_eq_true rfl⟩) ⟨zPc_blind, z_give C0 hw hS _⟩ rfl rfl hl.1 rfl (lv_room (Nat.le_of_ble_eq_true rfl)) dX11_behind_24 ⟨zle hc0, zle hs0⟩
      refine lv_istore (lv' := [(5, .int w4), (4, .null), (0, .ref (F 20)), (1, .int x1), (2, .int x2), (3, .int x3)]) hx hb dX11_behind_27 hl (by decide) rfl (fun ls hl => ?_)
      refine lv_aloadN hx hb dX11_behind_29 (lv_at hl 1 rfl) ?_
      refine lv_ifnullN (tgt := 39) hx hb dX11_behind_31 (by decide) ?_
      exact t_X11_behind_B39 C0 res G S 6 w4 h _ _ hc0 hs0 _ _ _ hw hS (lv_sub hl [2, 0] rfl)
    · replace h := z_ifn c3 h
      refine lv_iload_n hx hb dX11_behind_14 rfl (lv_at hl 4 rfl) ?_
      refine lv_iconst (v := 2) hx hb dX11_behind_15 (by decide) ?_
      refine lv_icmp_gt (tgt := 23) hx hb dX11_behind_16 (by decide) (fun c6 => ?_) (fun c6 => ?_)
      · replace h := z_ifp c6 h
        refine lv_iconst (v := 0) hx hb dX11_behind_23 (by decide) ?_
        obtain ⟨w7, ew7, h⟩ := z_bd h
        refine z_goi C0 hw hS (res := (w7, S)) (rest := []) (arr := ([.null, .int x2, .int 0] : List Value).toArray) ?_ (fun H locs hw hS => ?_)
        · exact va_runS (z_fix C0) (c_X11_refusalOfLife l D Y F G S _ none (fun _ h => nomatch h) x2 0 w7 ew7) (va_cwS 3 hts gX11_behind_X11_refusalOfLife rfl rfl rfl (by decide +kernel) ⟨Nat.le_of_ble_eq_true rfl, Nat.le_of_ble_eq_true rfl⟩) ⟨zPc_blind, z_give C0 hw hS _⟩ rfl rfl hl.1 rfl (lv_room (Nat.le_of_ble_eq_true rfl)) dX11_behind_24 ⟨zle hc0, zle hs0⟩
        refine lv_istore (lv' := [(5, .int w7), (4, .null), (0, .ref (F 20)), (1, .int x1), (2, .int x2), (3, .int x3)]) hx hb dX11_behind_27 hl (by decide) rfl (fun ls hl => ?_)
        refine lv_aloadN hx hb dX11_behind_29 (lv_at hl 1 rfl) ?_
        refine lv_ifnullN (tgt := 39) hx hb dX11_behind_31 (by decide) ?_
        exact t_X11_behind_B39 C0 res G S 6 w7 h _ _ hc0 hs0 _ _ _ hw hS (lv_sub hl [2, 0] rfl)
      · replace h := z_ifn c6 h
        refine lv_iconst (v := 1) hx hb dX11_behind_19 (by decide) ?_
        refine lv_goto (tgt := 24) hx hb dX11_behind_20 (by decide) ?_
        obtain ⟨w8, ew8, h⟩ := z_bd h
        refine z_goi C0 hw hS (res := (w8, S)) (rest := []) (arr := ([.null, .int x2, .int 1] : List Value).toArray) ?_ (fun H locs hw hS => ?_)
        · exact va_runS (z_fix C0) (c_X11_refusalOfLife l D Y F G S _ none (fun _ h => nomatch h) x2 1 w8 ew8) (va_cwS 3 hts gX11_behind_X11_refusalOfLife rfl rfl rfl (by decide +kernel) ⟨Nat.le_of_ble_eq_true rfl, Nat.le_of_ble_eq_true rfl⟩) ⟨zPc_blind, z_give C0 hw hS _⟩ rfl rfl hl.1 rfl (lv_room (Nat.le_of_ble_eq_true rfl)) dX11_behind_24 ⟨zle hc0, zle hs0⟩
        refine lv_istore (lv' := [(5, .int w8), (4, .null), (0, .ref (F 20)), (1, .int x1), (2, .int x2), (3, .int x3)]) hx hb dX11_behind_27 hl (by decide) rfl (fun ls hl => ?_)
        refine lv_aloadN hx hb dX11_behind_29 (lv_at hl 1 rfl) ?_
        refine lv_ifnullN (tgt := 39) hx hb dX11_behind_31 (by decide) ?_
        exact t_X11_behind_B39 C0 res G S 6 w8 h _ _ hc0 hs0 _ _ _ hw hS (lv_sub hl [2, 0] rfl)
  · replace h := zm_s h
    obtain ⟨bq2, h⟩ := z_gd h
    have hq2 : q2 < 8 := of_decide_eq_true bq2
    refine z_topv (y := .ref (zad F G (40 + 2 * q2))) rfl ?_
    refine lv_astore (lv' := [(4, .ref (zad F G (40 + 2 * q2))), (0, .ref (F 20)), (1, .int x1), (2, .int x2), (3, .int x3)]) hx hb dX11_behind_5 hl (by decide) rfl (fun ls hl => ?_)
    refine lv_aload hx hb dX11_behind_7 (lv_at hl 0 rfl) ?_
    refine lv_iload_n hx hb dX11_behind_9 rfl (lv_at hl 3 rfl) ?_
    refine lv_iload_n hx hb dX11_behind_10 rfl (lv_at hl 4 rfl) ?_
    refine lv_if_lt (tgt := 23) hx hb dX11_behind_11 (by decide) (fun c9 => ?_) (fun c9 => ?_)
    · replace h := z_ifp c9 h
      refine lv_iconst (v := 0) hx hb dX11_behind_23 (by decide) ?_
      obtain ⟨w10, ew10, h⟩ := z_bd h
      refine z_goi C0 hw hS (res := (w10, S)) (rest := []) (arr := ([.ref (zad F G (40 + 2 * q2)), .int x2, .int 0] : List Value).toArray) ?_ (fun H locs hw hS => ?_)
      · exact va_runS (z_fix C0) (c_X11_refusalOfLife l D Y F G S _ (some q2) (fun _ h => Option.some.inj h ▸ hq2) x2 0 w10 ew10) (va_cwS 3 hts gX11_behind_X11_refusalOfLife rfl rfl rfl (by decide +kernel) ⟨Nat.le_of_ble_eq_true rfl, Nat.le_of_ble_eq_true rfl⟩) ⟨zPc_blind, z_give C0 hw hS _⟩ rfl rfl hl.1 rfl (lv_room (Nat.le_of_ble_eq_true rfl)) dX11_behind_24 ⟨zle hc0, zle hs0⟩
      refine lv_istore (lv' := [(5, .int w10), (4, .ref (zad F G (40 + 2 * q2))), (0, .ref (F 20)), (1, .int x1), (2, .int x2), (3, .int x3)]) hx hb dX11_behind_27 hl (by decide) rfl (fun ls hl => ?_)
      refine lv_aload hx hb dX11_behind_29 (lv_at hl 1 rfl) ?_
      refine lv_ifnull hx hb dX11_behind_31 ?_
      refine lv_iload hx hb dX11_behind_34 (lv_at hl 0 rfl) ?_
      refine lv_if_eq (tgt := 46) hx hb dX11_behind_36 (by decide) (fun c11 => ?_) (fun c11 => ?_)
      · replace h := z_ifp c11 h
        refine lv_aload_n hx hb dX11_behind_46 rfl (lv_at hl 2 rfl) ?_
        refine z_getU C0 in_X11_behind_X11 (C := RX11) (T := TX11) (N := 14) hw (k := 20) (ci := 11) (v := .ref (F 60)) rfl rfl rfl rfl 3 (by decide) rfl 1 rfl (Or.inl rfl) dX11_behind_47 ?_
        refine lv_aload hx hb dX11_behind_50 (lv_at hl 1 rfl) ?_
        refine lv_iload_n hx hb dX11_behind_52 rfl (lv_at hl 4 rfl) ?_
        obtain ⟨w12, ew12, h⟩ := z_bd h
        refine z_goi C0 hw hS (res := w12) (rest := []) (arr := (Value.ref (F 60) :: [.ref (zad F G (40 + 2 * q2)), .int x2]).toArray) ?_ (fun H locs hw hS => ?_)
        · exact va_runV (z_fix C0) (c_X4_firstWrong l D Y F G S _ 0 q2 (by decide) hq2 x2 w12 ew12) (cwV 2 hts gX11_behind_X4_firstWrong rfl rfl rfl (by decide +kernel) ⟨Nat.le_of_ble_eq_true rfl, Nat.le_of_ble_eq_true rfl⟩) ⟨zPc_blind, z_rv C0 hw (k := 60) rfl rfl rfl rfl, z_give C0 hw hS _⟩ rfl rfl hl.1 rfl (lv_room (Nat.le_of_ble_eq_true rfl)) dX11_behind_53 ⟨zle hc0, zle hs0⟩
        refine lv_iconst (v := (-1)) hx hb dX11_behind_56 (by decide) ?_
        refine lv_icmp_eq (tgt := 67) hx hb dX11_behind_57 (by decide) (fun c13 => ?_) (fun c13 => ?_)
        · replace h := z_ifp c13 h
          refine lv_aload_n hx hb dX11_behind_67 rfl (lv_at hl 2 rfl) ?_
          refine z_getU C0 in_X11_behind_X11 (C := RX11) (T := TX11) (N := 14) hw (k := 20) (ci := 11) (v := .ref (F 63)) rfl rfl rfl rfl 4 (by decide) rfl 2 rfl (Or.inl rfl) dX11_behind_68 ?_
          refine lv_aload_n hx hb dX11_behind_71 rfl (lv_at hl 2 rfl) ?_
          refine z_getU C0 in_X11_behind_X11 (C := RX11) (T := TX11) (N := 14) hw (k := 20) (ci := 11) (v := .ref (F 60)) rfl rfl rfl rfl 3 (by decide) rfl 1 rfl (Or.inl rfl) dX11_behind_72 ?_
          obtain ⟨b17, h⟩ := z_gd h
          have b17 : 6 ≤ 6 := of_decide_eq_true b17
          obtain ⟨⟨p16, T15⟩, ew14, h⟩ := z_bd h
          refine z_govG (mc := 24) (ms := 414) C0 hw hS (res := (p16, T15)) (rest := []) (arr := (Value.ref (F 63) :: [.ref (F 60)]).toArray) ?_ (fun G1 H locs hG hw hS => ?_)
          · exact va_runV (z_fix C0) (c_X4_takeFrom l D Y F G w12.2 _ 1 0 (by decide) (by decide) (p16, T15) ew14) (cwV 1 hts gX11_behind_X4_takeFrom rfl rfl rfl (by decide +kernel) ⟨Nat.le_of_ble_eq_true rfl, Nat.le_of_ble_eq_true rfl⟩) ⟨zPc_blind, z_rv C0 hw (k := 63) rfl rfl rfl rfl, z_give C0 hw hS _⟩ rfl rfl hl.1 rfl (lv_room (Nat.le_of_ble_eq_true rfl)) dX11_behind_75 ⟨by show 0 + 24 ≤ 24; omega, by show 0 + 414 ≤ 414; omega⟩
          replace h := zlet2_h hG h
          have hc0 : (0 + 24) + 4 * (6 - 6) ≤ 24 := by omega
          have hs0 : (0 + 414) + 69 * (6 - 6) ≤ 414 := by omega
          have hl := lv_sub hl [1, 2, 4, 5] rfl
          rw [show zad F G (40 + 2 * q2) = zad F G1 (40 + 2 * q2) from zad_lo (by omega)] at hl
          rename zG => G
          have hl : lv_has ls 6 [(4, .ref (zad F G (40 + 2 * q2))), (0, .ref (F 20)), (2, .int x2), (3, .int x3)] := hl
          refine lv_aload_n hx hb dX11_behind_78 rfl (lv_at hl 1 rfl) ?_
          refine z_getU C0 in_X11_behind_X11 (C := RX11) (T := TX11) (N := 14) hw (k := 20) (ci := 11) (v := .ref (F 63)) rfl rfl rfl rfl 4 (by decide) rfl 2 rfl (Or.inl rfl) dX11_behind_79 ?_
          refine lv_aload hx hb dX11_behind_82 (lv_at hl 0 rfl) ?_
          refine lv_iload_n hx hb dX11_behind_84 rfl (lv_at hl 2 rfl) ?_
          obtain ⟨w18, ew18, h⟩ := z_bd h
          refine z_gov C0 hw hS (res := w18) (rest := []) (arr := (Value.ref (F 63) :: [.ref (zad F G (40 + 2 * q2)), .int x2]).toArray) ?_ (fun H locs hw hS => ?_)
          · exact va_runV (z_fix C0) (c_X4_liveTold l D Y F G T15 _ 1 q2 (by decide) hq2 x2 w18 ew18) (cwV 2 hts gX11_behind_X4_liveTold rfl rfl rfl (by decide +kernel) ⟨Nat.le_of_ble_eq_true rfl, Nat.le_of_ble_eq_true rfl⟩) ⟨zPc_blind, z_rv C0 hw (k := 63) rfl rfl rfl rfl, z_give C0 hw hS _⟩ rfl rfl hl.1 rfl (lv_room (Nat.le_of_ble_eq_true rfl)) dX11_behind_85 ⟨zle hc0, zle hs0⟩
          refine lv_iload_n hx hb dX11_behind_88 rfl (lv_at hl 3 rfl) ?_
          by_cases c19 : x3 = 0
          · replace h := z_ifp c19 h
            refine z_top c19 ?_
            refine lv_lookup (off := 27) (tgt := 116) hx hb dX11_behind_89 (by decide) (by decide) (by decide) ?_
            refine lv_aload_n hx hb dX11_behind_116 rfl (lv_at hl 1 rfl) ?_
            refine z_getU C0 in_X11_behind_X11 (C := RX11) (T := TX11) (N := 14) hw (k := 20) (ci := 11) (v := .ref (F 63)) rfl rfl rfl rfl 4 (by decide) rfl 2 rfl (Or.inl rfl) dX11_behind_117 ?_
            obtain ⟨w20, ew20, h⟩ := z_bd h
            refine z_goi C0 hw hS (res := (w20, w18)) (rest := []) (arr := (Value.ref (F 63) :: []).toArray) ?_ (fun H locs hw hS => ?_)
            · exact va_runV (z_fix C0) (c_X4_strengthTotal l D Y F G w18 _ 1 (by decide) w20 ew20) (cwV 0 hts gX11_behind_X4_strengthTotal rfl rfl rfl (by decide +kernel) ⟨Nat.le_of_ble_eq_true rfl, Nat.le_of_ble_eq_true rfl⟩) ⟨zPc_blind, z_rv C0 hw (k := 63) rfl rfl rfl rfl, z_give C0 hw hS _⟩ rfl rfl hl.1 rfl (lv_room (Nat.le_of_ble_eq_true rfl)) dX11_behind_120 ⟨zle hc0, zle hs0⟩
            exact z_retiG C0 hw hS (zle hc0) (zle hs0) (Option.some.inj h) dX11_behind_123
          · replace h := z_ifn c19 h
            by_cases c21 : x3 = 1
            · replace h := z_ifp c21 h
              refine z_top c21 ?_
              refine lv_lookup (off := 35) (tgt := 124) hx hb dX11_behind_89 (by decide) (by decide) (by decide) ?_
              refine lv_aload_n hx hb dX11_behind_124 rfl (lv_at hl 1 rfl) ?_
              refine z_getU C0 in_X11_behind_X11 (C := RX11) (T := TX11) (N := 14) hw (k := 20) (ci := 11) (v := .ref (F 63)) rfl rfl rfl rfl 4 (by decide) rfl 2 rfl (Or.inl rfl) dX11_behind_125 ?_
              obtain ⟨w22, ew22, h⟩ := z_bd h
              refine z_goi C0 hw hS (res := (w22, w18)) (rest := []) (arr := (Value.ref (F 63) :: []).toArray) ?_ (fun H locs hw hS => ?_)
              · exact va_runV (z_fix C0) (c_X4_deadTotal l D Y F G w18 _ 1 (by decide) w22 ew22) (cwV 0 hts gX11_behind_X4_deadTotal rfl rfl rfl (by decide +kernel) ⟨Nat.le_of_ble_eq_true rfl, Nat.le_of_ble_eq_true rfl⟩) ⟨zPc_blind, z_rv C0 hw (k := 63) rfl rfl rfl rfl, z_give C0 hw hS _⟩ rfl rfl hl.1 rfl (lv_room (Nat.le_of_ble_eq_true rfl)) dX11_behind_128 ⟨zle hc0, zle hs0⟩
              exact z_retiG C0 hw hS (zle hc0) (zle hs0) (Option.some.inj h) dX11_behind_131
            · replace h := z_ifn c21 h
              have nc19 : Int32.toInt x3 ≠ 0 := fun q => c19 (Int32.toInt_inj.mp (q.trans (by decide)))
              have nc21 : Int32.toInt x3 ≠ 1 := fun q => c21 (Int32.toInt_inj.mp (q.trans (by decide)))
              refine lv_lookup (off := 43) (tgt := 132) hx hb dX11_behind_89 (by decide) (by simp [Op.lookupswitch.offset, nc19, Ne.symm nc19, nc21, Ne.symm nc21]) (by decide) ?_
              refine lv_aload_n hx hb dX11_behind_132 rfl (lv_at hl 1 rfl) ?_
              refine z_getU C0 in_X11_behind_X11 (C := RX11) (T := TX11) (N := 14) hw (k := 20) (ci := 11) (v := .ref (F 63)) rfl rfl rfl rfl 4 (by decide) rfl 2 rfl (Or.inl rfl) dX11_behind_133 ?_
              obtain ⟨w23, ew23, h⟩ := z_bd h
              refine z_goi C0 hw hS (res := (w23, w18)) (rest := []) (arr := (Value.ref (F 63) :: []).toArray) ?_ (fun H locs hw hS => ?_)
              · exact va_runV (z_fix C0) (c_X4_smearTotal l D Y F G w18 _ 1 (by decide) w23 ew23) (cwV 0 hts gX11_behind_X4_smearTotal rfl rfl rfl (by decide +kernel) ⟨Nat.le_of_ble_eq_true rfl, Nat.le_of_ble_eq_true rfl⟩) ⟨zPc_blind, z_rv C0 hw (k := 63) rfl rfl rfl rfl, z_give C0 hw hS _⟩ rfl rfl hl.1 rfl (lv_room (Nat.le_of_ble_eq_true rfl)) dX11_behind_136 ⟨zle hc0, zle hs0⟩
              exact z_retiG C0 hw hS (zle hc0) (zle hs0) (Option.some.inj h) dX11_behind_139
        · replace h := z_ifn c13 h
          refine lv_aload_n hx hb dX11_behind_60 rfl (lv_at hl 2 rfl) ?_
          refine lv_bipush (v := (-6)) hx hb dX11_behind_61 (by decide) ?_
          obtain ⟨w24, ew24, h⟩ := z_bd h
          refine z_goi C0 hw hS (res := w24) (rest := []) (arr := (Value.ref (F 20) :: [.int (-6)]).toArray) ?_ (fun H locs hw hS => ?_)
          · exact va_runV (z_fix C0) (c_X11_refuse l D Y F G w12.2 _ (-6) w24 ew24) (cwV 1 hts gX11_behind_X11_refuse rfl rfl rfl (by decide +kernel) ⟨Nat.le_of_ble_eq_true rfl, Nat.le_of_ble_eq_true rfl⟩) ⟨zPc_blind, z_rv C0 hw (k := 20) rfl rfl rfl rfl, z_give C0 hw hS _⟩ rfl rfl hl.1 rfl (lv_room (Nat.le_of_ble_eq_true rfl)) dX11_behind_63 ⟨zle hc0, zle hs0⟩
          exact z_retiG C0 hw hS (zle hc0) (zle hs0) (Option.some.inj h) dX11_behind_66
      · replace h := z_ifn c11 h
        exact t_X11_behind_B39 C0 res G S 6 w10 h _ _ hc0 hs0 _ _ _ hw hS (lv_sub hl [2, 0] rfl)
    · replace h := z_ifn c9 h
      refine lv_iload_n hx hb dX11_behind_14 rfl (lv_at hl 4 rfl) ?_
      refine lv_iconst (v := 2) hx hb dX11_behind_15 (by decide) ?_
      refine lv_icmp_gt (tgt := 23) hx hb dX11_behind_16 (by decide) (fun c25 => ?_) (fun c25 => ?_)
      · replace h := z_ifp c25 h
        refine lv_iconst (v := 0) hx hb dX11_behind_23 (by decide) ?_
        obtain ⟨w26, ew26, h⟩ := z_bd h
        refine z_goi C0 hw hS (res := (w26, S)) (rest := []) (arr := ([.ref (zad F G (40 + 2 * q2)), .int x2, .int 0] : List Value).toArray) ?_ (fun H locs hw hS => ?_)
        · exact va_runS (z_fix C0) (c_X11_refusalOfLife l D Y F G S _ (some q2) (fun _ h => Option.some.inj h ▸ hq2) x2 0 w26 ew26) (va_cwS 3 hts gX11_behind_X11_refusalOfLife rfl rfl rfl (by decide +kernel) ⟨Nat.le_of_ble_eq_true rfl, Nat.le_of_ble_eq_true rfl⟩) ⟨zPc_blind, z_give C0 hw hS _⟩ rfl rfl hl.1 rfl (lv_room (Nat.le_of_ble_eq_true rfl)) dX11_behind_24 ⟨zle hc0, zle hs0⟩
        refine lv_istore (lv' := [(5, .int w26), (4, .ref (zad F G (40 + 2 * q2))), (0, .ref (F 20)), (1, .int x1), (2, .int x2), (3, .int x3)]) hx hb dX11_behind_27 hl (by decide) rfl (fun ls hl => ?_)
        refine lv_aload hx hb dX11_behind_29 (lv_at hl 1 rfl) ?_
        refine lv_ifnull hx hb dX11_behind_31 ?_
        refine lv_iload hx hb dX11_behind_34 (lv_at hl 0 rfl) ?_
        refine lv_if_eq (tgt := 46) hx hb dX11_behind_36 (by decide) (fun c27 => ?_) (fun c27 => ?_)
        · replace h := z_ifp c27 h
          refine lv_aload_n hx hb dX11_behind_46 rfl (lv_at hl 2 rfl) ?_
          refine z_getU C0 in_X11_behind_X11 (C := RX11) (T := TX11) (N := 14) hw (k := 20) (ci := 11) (v := .ref (F 60)) rfl rfl rfl rfl 3 (by decide) rfl 1 rfl (Or.inl rfl) dX11_behind_47 ?_
          refine lv_aload hx hb dX11_behind_50 (lv_at hl 1 rfl) ?_
          refine lv_iload_n hx hb dX11_behind_52 rfl (lv_at hl 4 rfl) ?_
          obtain ⟨w28, ew28, h⟩ := z_bd h
          refine z_goi C0 hw hS (res := w28) (rest := []) (arr := (Value.ref (F 60) :: [.ref (zad F G (40 + 2 * q2)), .int x2]).toArray) ?_ (fun H locs hw hS => ?_)
          · exact va_runV (z_fix C0) (c_X4_firstWrong l D Y F G S _ 0 q2 (by decide) hq2 x2 w28 ew28) (cwV 2 hts gX11_behind_X4_firstWrong rfl rfl rfl (by decide +kernel) ⟨Nat.le_of_ble_eq_true rfl, Nat.le_of_ble_eq_true rfl⟩) ⟨zPc_blind, z_rv C0 hw (k := 60) rfl rfl rfl rfl, z_give C0 hw hS _⟩ rfl rfl hl.1 rfl (lv_room (Nat.le_of_ble_eq_true rfl)) dX11_behind_53 ⟨zle hc0, zle hs0⟩
          refine lv_iconst (v := (-1)) hx hb dX11_behind_56 (by decide) ?_
          refine lv_icmp_eq (tgt := 67) hx hb dX11_behind_57 (by decide) (fun c29 => ?_) (fun c29 => ?_)
          · replace h := z_ifp c29 h
            refine lv_aload_n hx hb dX11_behind_67 rfl (lv_at hl 2 rfl) ?_
            refine z_getU C0 in_X11_behind_X11 (C := RX11) (T := TX11) (N := 14) hw (k := 20) (ci := 11) (v := .ref (F 63)) rfl rfl rfl rfl 4 (by decide) rfl 2 rfl (Or.inl rfl) dX11_behind_68 ?_
            refine lv_aload_n hx hb dX11_behind_71 rfl (lv_at hl 2 rfl) ?_
            refine z_getU C0 in_X11_behind_X11 (C := RX11) (T := TX11) (N := 14) hw (k := 20) (ci := 11) (v := .ref (F 60)) rfl rfl rfl rfl 3 (by decide) rfl 1 rfl (Or.inl rfl) dX11_behind_72 ?_
            obtain ⟨b33, h⟩ := z_gd h
            have b33 : 6 ≤ 6 := of_decide_eq_true b33
            obtain ⟨⟨p32, T31⟩, ew30, h⟩ := z_bd h
            refine z_govG (mc := 24) (ms := 414) C0 hw hS (res := (p32, T31)) (rest := []) (arr := (Value.ref (F 63) :: [.ref (F 60)]).toArray) ?_ (fun G1 H locs hG hw hS => ?_)
            · exact va_runV (z_fix C0) (c_X4_takeFrom l D Y F G w28.2 _ 1 0 (by decide) (by decide) (p32, T31) ew30) (cwV 1 hts gX11_behind_X4_takeFrom rfl rfl rfl (by decide +kernel) ⟨Nat.le_of_ble_eq_true rfl, Nat.le_of_ble_eq_true rfl⟩) ⟨zPc_blind, z_rv C0 hw (k := 63) rfl rfl rfl rfl, z_give C0 hw hS _⟩ rfl rfl hl.1 rfl (lv_room (Nat.le_of_ble_eq_true rfl)) dX11_behind_75 ⟨by show 0 + 24 ≤ 24; omega, by show 0 + 414 ≤ 414; omega⟩
            replace h := zlet2_h hG h
            have hc0 : (0 + 24) + 4 * (6 - 6) ≤ 24 := by omega
            have hs0 : (0 + 414) + 69 * (6 - 6) ≤ 414 := by omega
            have hl := lv_sub hl [1, 2, 4, 5] rfl
            rw [show zad F G (40 + 2 * q2) = zad F G1 (40 + 2 * q2) from zad_lo (by omega)] at hl
            rename zG => G
            have hl : lv_has ls 6 [(4, .ref (zad F G (40 + 2 * q2))), (0, .ref (F 20)), (2, .int x2), (3, .int x3)] := hl
            refine lv_aload_n hx hb dX11_behind_78 rfl (lv_at hl 1 rfl) ?_
            refine z_getU C0 in_X11_behind_X11 (C := RX11) (T := TX11) (N := 14) hw (k := 20) (ci := 11) (v := .ref (F 63)) rfl rfl rfl rfl 4 (by decide) rfl 2 rfl (Or.inl rfl) dX11_behind_79 ?_
            refine lv_aload hx hb dX11_behind_82 (lv_at hl 0 rfl) ?_
            refine lv_iload_n hx hb dX11_behind_84 rfl (lv_at hl 2 rfl) ?_
            obtain ⟨w34, ew34, h⟩ := z_bd h
            refine z_gov C0 hw hS (res := w34) (rest := []) (arr := (Value.ref (F 63) :: [.ref (zad F G (40 + 2 * q2)), .int x2]).toArray) ?_ (fun H locs hw hS => ?_)
            · exact va_runV (z_fix C0) (c_X4_liveTold l D Y F G T31 _ 1 q2 (by decide) hq2 x2 w34 ew34) (cwV 2 hts gX11_behind_X4_liveTold rfl rfl rfl (by decide +kernel) ⟨Nat.le_of_ble_eq_true rfl, Nat.le_of_ble_eq_true rfl⟩) ⟨zPc_blind, z_rv C0 hw (k := 63) rfl rfl rfl rfl, z_give C0 hw hS _⟩ rfl rfl hl.1 rfl (lv_room (Nat.le_of_ble_eq_true rfl)) dX11_behind_85 ⟨zle hc0, zle hs0⟩
            refine lv_iload_n hx hb dX11_behind_88 rfl (lv_at hl 3 rfl) ?_
            by_cases c35 : x3 = 0
            · replace h := z_ifp c35 h
              refine z_top c35 ?_
              refine lv_lookup (off := 27) (tgt := 116) hx hb dX11_behind_89 (by decide) (by decide) (by decide) ?_
              refine lv_aload_n hx hb dX11_behind_116 rfl (lv_at hl 1 rfl) ?_
              refine z_getU C0 in_X11_behind_X11 (C := RX11) (T := TX11) (N := 14) hw (k := 20) (ci := 11) (v := .ref (F 63)) rfl rfl rfl rfl 4 (by decide) rfl 2 rfl (Or.inl rfl) dX11_behind_117 ?_
              obtain ⟨w36, ew36, h⟩ := z_bd h
              refine z_goi C0 hw hS (res := (w36, w34)) (rest := []) (arr := (Value.ref (F 63) :: []).toArray) ?_ (fun H locs hw hS => ?_)
              · exact va_runV (z_fix C0) (c_X4_strengthTotal l D Y F G w34 _ 1 (by decide) w36 ew36) (cwV 0 hts gX11_behind_X4_strengthTotal rfl rfl rfl (by decide +kernel) ⟨Nat.le_of_ble_eq_true rfl, Nat.le_of_ble_eq_true rfl⟩) ⟨zPc_blind, z_rv C0 hw (k := 63) rfl rfl rfl rfl, z_give C0 hw hS _⟩ rfl rfl hl.1 rfl (lv_room (Nat.le_of_ble_eq_true rfl)) dX11_behind_120 ⟨zle hc0, zle hs0⟩
              exact z_retiG C0 hw hS (zle hc0) (zle hs0) (Option.some.inj h) dX11_behind_123
            · replace h := z_ifn c35 h
              by_cases c37 : x3 = 1
              · replace h := z_ifp c37 h
                refine z_top c37 ?_
                refine lv_lookup (off := 35) (tgt := 124) hx hb dX11_behind_89 (by decide) (by decide) (by decide) ?_
                refine lv_aload_n hx hb dX11_behind_124 rfl (lv_at hl 1 rfl) ?_
                refine z_getU C0 in_X11_behind_X11 (C := RX11) (T := TX11) (N := 14) hw (k := 20) (ci := 11) (v := .ref (F 63)) rfl rfl rfl rfl 4 (by decide) rfl 2 rfl (Or.inl rfl) dX11_behind_125 ?_
                obtain ⟨w38, ew38, h⟩ := z_bd h
                refine z_goi C0 hw hS (res := (w38, w34)) (rest := []) (arr := (Value.ref (F 63) :: []).toArray) ?_ (fun H locs hw hS => ?_)
                · exact va_runV (z_fix C0) (c_X4_deadTotal l D Y F G w34 _ 1 (by decide) w38 ew38) (cwV 0 hts gX11_behind_X4_deadTotal rfl rfl rfl (by decide +kernel) ⟨Nat.le_of_ble_eq_true rfl, Nat.le_of_ble_eq_true rfl⟩) ⟨zPc_blind, z_rv C0 hw (k := 63) rfl rfl rfl rfl, z_give C0 hw hS _⟩ rfl rfl hl.1 rfl (lv_room (Nat.le_of_ble_eq_true rfl)) dX11_behind_128 ⟨zle hc0, zle hs0⟩
                exact z_retiG C0 hw hS (zle hc0) (zle hs0) (Option.some.inj h) dX11_behind_131
              · replace h := z_ifn c37 h
                have nc35 : Int32.toInt x3 ≠ 0 := fun q => c35 (Int32.toInt_inj.mp (q.trans (by decide)))
                have nc37 : Int32.toInt x3 ≠ 1 := fun q => c37 (Int32.toInt_inj.mp (q.trans (by decide)))
                refine lv_lookup (off := 43) (tgt := 132) hx hb dX11_behind_89 (by decide) (by simp [Op.lookupswitch.offset, nc35, Ne.symm nc35, nc37, Ne.symm nc37]) (by decide) ?_
                refine lv_aload_n hx hb dX11_behind_132 rfl (lv_at hl 1 rfl) ?_
                refine z_getU C0 in_X11_behind_X11 (C := RX11) (T := TX11) (N := 14) hw (k := 20) (ci := 11) (v := .ref (F 63)) rfl rfl rfl rfl 4 (by decide) rfl 2 rfl (Or.inl rfl) dX11_behind_133 ?_
                obtain ⟨w39, ew39, h⟩ := z_bd h
                refine z_goi C0 hw hS (res := (w39, w34)) (rest := []) (arr := (Value.ref (F 63) :: []).toArray) ?_ (fun H locs hw hS => ?_)
                · exact va_runV (z_fix C0) (c_X4_smearTotal l D Y F G w34 _ 1 (by decide) w39 ew39) (cwV 0 hts gX11_behind_X4_smearTotal rfl rfl rfl (by decide +kernel) ⟨Nat.le_of_ble_eq_true rfl, Nat.le_of_ble_eq_true rfl⟩) ⟨zPc_blind, z_rv C0 hw (k := 63) rfl rfl rfl rfl, z_give C0 hw hS _⟩ rfl rfl hl.1 rfl (lv_room (Nat.le_of_ble_eq_true rfl)) dX11_behind_136 ⟨zle hc0, zle hs0⟩
                exact z_retiG C0 hw hS (zle hc0) (zle hs0) (Option.some.inj h) dX11_behind_139
          · replace h := z_ifn c29 h
            refine lv_aload_n hx hb dX11_behind_60 rfl (lv_at hl 2 rfl) ?_
            refine lv_bipush (v := (-6)) hx hb dX11_behind_61 (by decide) ?_
            obtain ⟨w40, ew40, h⟩ := z_bd h
            refine z_goi C0 hw hS (res := w40) (rest := []) (arr := (Value.ref (F 20) :: [.int (-6)]).toArray) ?_ (fun H locs hw hS => ?_)
            · exact va_runV (z_fix C0) (c_X11_refuse l D Y F G w28.2 _ (-6) w40 ew40) (cwV 1 hts gX11_behind_X11_refuse rfl rfl rfl (by decide +kernel) ⟨Nat.le_of_ble_eq_true rfl, Nat.le_of_ble_eq_true rfl⟩) ⟨zPc_blind, z_rv C0 hw (k := 20) rfl rfl rfl rfl, z_give C0 hw hS _⟩ rfl rfl hl.1 rfl (lv_room (Nat.le_of_ble_eq_true rfl)) dX11_behind_63 ⟨zle hc0, zle hs0⟩
            exact z_retiG C0 hw hS (zle hc0) (zle hs0) (Option.some.inj h) dX11_behind_66
        · replace h := z_ifn c27 h
          exact t_X11_behind_B39 C0 res G S 6 w26 h _ _ hc0 hs0 _ _ _ hw hS (lv_sub hl [2, 0] rfl)
      · replace h := z_ifn c25 h
        refine lv_iconst (v := 1) hx hb dX11_behind_19 (by decide) ?_
        refine lv_goto (tgt := 24) hx hb dX11_behind_20 (by decide) ?_
        obtain ⟨w41, ew41, h⟩ := z_bd h
        refine z_goi C0 hw hS (res := (w41, S)) (rest := []) (arr := ([.ref (zad F G (40 + 2 * q2)), .int x2, .int 1] : List Value).toArray) ?_ (fun H locs hw hS => ?_)
        · exact va_runS (z_fix C0) (c_X11_refusalOfLife l D Y F G S _ (some q2) (fun _ h => Option.some.inj h ▸ hq2) x2 1 w41 ew41) (va_cwS 3 hts gX11_behind_X11_refusalOfLife rfl rfl rfl (by decide +kernel) ⟨Nat.le_of_ble_eq_true rfl, Nat.le_of_ble_eq_true rfl⟩) ⟨zPc_blind, z_give C0 hw hS _⟩ rfl rfl hl.1 rfl (lv_room (Nat.le_of_ble_eq_true rfl)) dX11_behind_24 ⟨zle hc0, zle hs0⟩
        refine lv_istore (lv' := [(5, .int w41), (4, .ref (zad F G (40 + 2 * q2))), (0, .ref (F 20)), (1, .int x1), (2, .int x2), (3, .int x3)]) hx hb dX11_behind_27 hl (by decide) rfl (fun ls hl => ?_)
        refine lv_aload hx hb dX11_behind_29 (lv_at hl 1 rfl) ?_
        refine lv_ifnull hx hb dX11_behind_31 ?_
        refine lv_iload hx hb dX11_behind_34 (lv_at hl 0 rfl) ?_
        refine lv_if_eq (tgt := 46) hx hb dX11_behind_36 (by decide) (fun c42 => ?_) (fun c42 => ?_)
        · replace h := z_ifp c42 h
          refine lv_aload_n hx hb dX11_behind_46 rfl (lv_at hl 2 rfl) ?_
          refine z_getU C0 in_X11_behind_X11 (C := RX11) (T := TX11) (N := 14) hw (k := 20) (ci := 11) (v := .ref (F 60)) rfl rfl rfl rfl 3 (by decide) rfl 1 rfl (Or.inl rfl) dX11_behind_47 ?_
          refine lv_aload hx hb dX11_behind_50 (lv_at hl 1 rfl) ?_
          refine lv_iload_n hx hb dX11_behind_52 rfl (lv_at hl 4 rfl) ?_
          obtain ⟨w43, ew43, h⟩ := z_bd h
          refine z_goi C0 hw hS (res := w43) (rest := []) (arr := (Value.ref (F 60) :: [.ref (zad F G (40 + 2 * q2)), .int x2]).toArray) ?_ (fun H locs hw hS => ?_)
          · exact va_runV (z_fix C0) (c_X4_firstWrong l D Y F G S _ 0 q2 (by decide) hq2 x2 w43 ew43) (cwV 2 hts gX11_behind_X4_firstWrong rfl rfl rfl (by decide +kernel) ⟨Nat.le_of_ble_eq_true rfl, Nat.le_of_ble_eq_true rfl⟩) ⟨zPc_blind, z_rv C0 hw (k := 60) rfl rfl rfl rfl, z_give C0 hw hS _⟩ rfl rfl hl.1 rfl (lv_room (Nat.le_of_ble_eq_true rfl)) dX11_behind_53 ⟨zle hc0, zle hs0⟩
          refine lv_iconst (v := (-1)) hx hb dX11_behind_56 (by decide) ?_
          refine lv_icmp_eq (tgt := 67) hx hb dX11_behind_57 (by decide) (fun c44 => ?_) (fun c44 => ?_)
          · replace h := z_ifp c44 h
            refine lv_aload_n hx hb dX11_behind_67 rfl (lv_at hl 2 rfl) ?_
            refine z_getU C0 in_X11_behind_X11 (C := RX11) (T := TX11) (N := 14) hw (k := 20) (ci := 11) (v := .ref (F 63)) rfl rfl rfl rfl 4 (by decide) rfl 2 rfl (Or.inl rfl) dX11_behind_68 ?_
            refine lv_aload_n hx hb dX11_behind_71 rfl (lv_at hl 2 rfl) ?_
            refine z_getU C0 in_X11_behind_X11 (C := RX11) (T := TX11) (N := 14) hw (k := 20) (ci := 11) (v := .ref (F 60)) rfl rfl rfl rfl 3 (by decide) rfl 1 rfl (Or.inl rfl) dX11_behind_72 ?_
            obtain ⟨b48, h⟩ := z_gd h
            have b48 : 6 ≤ 6 := of_decide_eq_true b48
            obtain ⟨⟨p47, T46⟩, ew45, h⟩ := z_bd h
            refine z_govG (mc := 24) (ms := 414) C0 hw hS (res := (p47, T46)) (rest := []) (arr := (Value.ref (F 63) :: [.ref (F 60)]).toArray) ?_ (fun G1 H locs hG hw hS => ?_)
            · exact va_runV (z_fix C0) (c_X4_takeFrom l D Y F G w43.2 _ 1 0 (by decide) (by decide) (p47, T46) ew45) (cwV 1 hts gX11_behind_X4_takeFrom rfl rfl rfl (by decide +kernel) ⟨Nat.le_of_ble_eq_true rfl, Nat.le_of_ble_eq_true rfl⟩) ⟨zPc_blind, z_rv C0 hw (k := 63) rfl rfl rfl rfl, z_give C0 hw hS _⟩ rfl rfl hl.1 rfl (lv_room (Nat.le_of_ble_eq_true rfl)) dX11_behind_75 ⟨by show 0 + 24 ≤ 24; omega, by show 0 + 414 ≤ 414; omega⟩
            replace h := zlet2_h hG h
            have hc0 : (0 + 24) + 4 * (6 - 6) ≤ 24 := by omega
            have hs0 : (0 + 414) + 69 * (6 - 6) ≤ 414 := by omega
            have hl := lv_sub hl [1, 2, 4, 5] rfl
            rw [show zad F G (40 + 2 * q2) = zad F G1 (40 + 2 * q2) from zad_lo (by omega)] at hl
            rename zG => G
            have hl : lv_has ls 6 [(4, .ref (zad F G (40 + 2 * q2))), (0, .ref (F 20)), (2, .int x2), (3, .int x3)] := hl
            refine lv_aload_n hx hb dX11_behind_78 rfl (lv_at hl 1 rfl) ?_
            refine z_getU C0 in_X11_behind_X11 (C := RX11) (T := TX11) (N := 14) hw (k := 20) (ci := 11) (v := .ref (F 63)) rfl rfl rfl rfl 4 (by decide) rfl 2 rfl (Or.inl rfl) dX11_behind_79 ?_
            refine lv_aload hx hb dX11_behind_82 (lv_at hl 0 rfl) ?_
            refine lv_iload_n hx hb dX11_behind_84 rfl (lv_at hl 2 rfl) ?_
            obtain ⟨w49, ew49, h⟩ := z_bd h
            refine z_gov C0 hw hS (res := w49) (rest := []) (arr := (Value.ref (F 63) :: [.ref (zad F G (40 + 2 * q2)), .int x2]).toArray) ?_ (fun H locs hw hS => ?_)
            · exact va_runV (z_fix C0) (c_X4_liveTold l D Y F G T46 _ 1 q2 (by decide) hq2 x2 w49 ew49) (cwV 2 hts gX11_behind_X4_liveTold rfl rfl rfl (by decide +kernel) ⟨Nat.le_of_ble_eq_true rfl, Nat.le_of_ble_eq_true rfl⟩) ⟨zPc_blind, z_rv C0 hw (k := 63) rfl rfl rfl rfl, z_give C0 hw hS _⟩ rfl rfl hl.1 rfl (lv_room (Nat.le_of_ble_eq_true rfl)) dX11_behind_85 ⟨zle hc0, zle hs0⟩
            refine lv_iload_n hx hb dX11_behind_88 rfl (lv_at hl 3 rfl) ?_
            by_cases c50 : x3 = 0
            · replace h := z_ifp c50 h
              refine z_top c50 ?_
              refine lv_lookup (off := 27) (tgt := 116) hx hb dX11_behind_89 (by decide) (by decide) (by decide) ?_
              refine lv_aload_n hx hb dX11_behind_116 rfl (lv_at hl 1 rfl) ?_
              refine z_getU C0 in_X11_behind_X11 (C := RX11) (T := TX11) (N := 14) hw (k := 20) (ci := 11) (v := .ref (F 63)) rfl rfl rfl rfl 4 (by decide) rfl 2 rfl (Or.inl rfl) dX11_behind_117 ?_
              obtain ⟨w51, ew51, h⟩ := z_bd h
              refine z_goi C0 hw hS (res := (w51, w49)) (rest := []) (arr := (Value.ref (F 63) :: []).toArray) ?_ (fun H locs hw hS => ?_)
              · exact va_runV (z_fix C0) (c_X4_strengthTotal l D Y F G w49 _ 1 (by decide) w51 ew51) (cwV 0 hts gX11_behind_X4_strengthTotal rfl rfl rfl (by decide +kernel) ⟨Nat.le_of_ble_eq_true rfl, Nat.le_of_ble_eq_true rfl⟩) ⟨zPc_blind, z_rv C0 hw (k := 63) rfl rfl rfl rfl, z_give C0 hw hS _⟩ rfl rfl hl.1 rfl (lv_room (Nat.le_of_ble_eq_true rfl)) dX11_behind_120 ⟨zle hc0, zle hs0⟩
              exact z_retiG C0 hw hS (zle hc0) (zle hs0) (Option.some.inj h) dX11_behind_123
            · replace h := z_ifn c50 h
              by_cases c52 : x3 = 1
              · replace h := z_ifp c52 h
                refine z_top c52 ?_
                refine lv_lookup (off := 35) (tgt := 124) hx hb dX11_behind_89 (by decide) (by decide) (by decide) ?_
                refine lv_aload_n hx hb dX11_behind_124 rfl (lv_at hl 1 rfl) ?_
                refine z_getU C0 in_X11_behind_X11 (C := RX11) (T := TX11) (N := 14) hw (k := 20) (ci := 11) (v := .ref (F 63)) rfl rfl rfl rfl 4 (by decide) rfl 2 rfl (Or.inl rfl) dX11_behind_125 ?_
                obtain ⟨w53, ew53, h⟩ := z_bd h
                refine z_goi C0 hw hS (res := (w53, w49)) (rest := []) (arr := (Value.ref (F 63) :: []).toArray) ?_ (fun H locs hw hS => ?_)
                · exact va_runV (z_fix C0) (c_X4_deadTotal l D Y F G w49 _ 1 (by decide) w53 ew53) (cwV 0 hts gX11_behind_X4_deadTotal rfl rfl rfl (by decide +kernel) ⟨Nat.le_of_ble_eq_true rfl, Nat.le_of_ble_eq_true rfl⟩) ⟨zPc_blind, z_rv C0 hw (k := 63) rfl rfl rfl rfl, z_give C0 hw hS _⟩ rfl rfl hl.1 rfl (lv_room (Nat.le_of_ble_eq_true rfl)) dX11_behind_128 ⟨zle hc0, zle hs0⟩
                exact z_retiG C0 hw hS (zle hc0) (zle hs0) (Option.some.inj h) dX11_behind_131
              · replace h := z_ifn c52 h
                have nc50 : Int32.toInt x3 ≠ 0 := fun q => c50 (Int32.toInt_inj.mp (q.trans (by decide)))
                have nc52 : Int32.toInt x3 ≠ 1 := fun q => c52 (Int32.toInt_inj.mp (q.trans (by decide)))
                refine lv_lookup (off := 43) (tgt := 132) hx hb dX11_behind_89 (by decide) (by simp [Op.lookupswitch.offset, nc50, Ne.symm nc50, nc52, Ne.symm nc52]) (by decide) ?_
                refine lv_aload_n hx hb dX11_behind_132 rfl (lv_at hl 1 rfl) ?_
                refine z_getU C0 in_X11_behind_X11 (C := RX11) (T := TX11) (N := 14) hw (k := 20) (ci := 11) (v := .ref (F 63)) rfl rfl rfl rfl 4 (by decide) rfl 2 rfl (Or.inl rfl) dX11_behind_133 ?_
                obtain ⟨w54, ew54, h⟩ := z_bd h
                refine z_goi C0 hw hS (res := (w54, w49)) (rest := []) (arr := (Value.ref (F 63) :: []).toArray) ?_ (fun H locs hw hS => ?_)
                · exact va_runV (z_fix C0) (c_X4_smearTotal l D Y F G w49 _ 1 (by decide) w54 ew54) (cwV 0 hts gX11_behind_X4_smearTotal rfl rfl rfl (by decide +kernel) ⟨Nat.le_of_ble_eq_true rfl, Nat.le_of_ble_eq_true rfl⟩) ⟨zPc_blind, z_rv C0 hw (k := 63) rfl rfl rfl rfl, z_give C0 hw hS _⟩ rfl rfl hl.1 rfl (lv_room (Nat.le_of_ble_eq_true rfl)) dX11_behind_136 ⟨zle hc0, zle hs0⟩
                exact z_retiG C0 hw hS (zle hc0) (zle hs0) (Option.some.inj h) dX11_behind_139
          · replace h := z_ifn c44 h
            refine lv_aload_n hx hb dX11_behind_60 rfl (lv_at hl 2 rfl) ?_
            refine lv_bipush (v := (-6)) hx hb dX11_behind_61 (by decide) ?_
            obtain ⟨w55, ew55, h⟩ := z_bd h
            refine z_goi C0 hw hS (res := w55) (rest := []) (arr := (Value.ref (F 20) :: [.int (-6)]).toArray) ?_ (fun H locs hw hS => ?_)
            · exact va_runV (z_fix C0) (c_X11_refuse l D Y F G w43.2 _ (-6) w55 ew55) (cwV 1 hts gX11_behind_X11_refuse rfl rfl rfl (by decide +kernel) ⟨Nat.le_of_ble_eq_true rfl, Nat.le_of_ble_eq_true rfl⟩) ⟨zPc_blind, z_rv C0 hw (k := 20) rfl rfl rfl rfl, z_give C0 hw hS _⟩ rfl rfl hl.1 rfl (lv_room (Nat.le_of_ble_eq_true rfl)) dX11_behind_63 ⟨zle hc0, zle hs0⟩
            exact z_retiG C0 hw hS (zle hc0) (zle hs0) (Option.some.inj h) dX11_behind_66
        · replace h := z_ifn c42 h
          exact t_X11_behind_B39 C0 res G S 6 w41 h _ _ hc0 hs0 _ _ _ hw hS (lv_sub hl [2, 0] rfl)
def M_X11_image (pk : Nat → Nat) (S : zSt) : Option (Int32 × (Nat → Nat) × zSt) :=
  zg (decide (6 ≤ 6)) (Option.bind (M_X4_takeFrom pk S 2 0) (fun w1 => zlet2 w1 (fun pk T2 => some ((zsc ((zP T2 20 12 1)) 66 3), pk, (zP T2 20 12 1)))))
set_option maxHeartbeats 4000000 in
set_option maxRecDepth 100000 in
theorem c_X11_image (l : Launch) (D : va_G) (Y : Nat → ClassId) (F : Nat → Nat) (G : zG) (S : zSt) (sz : Nat) (res : Int32 × (Nat → Nat) × zSt) (h : M_X11_image (zpk G) S = some res) : Met l yX11_image wsX11_image { frames := 6, cells := 24, slots := 414, locals := 128 } (zPc D Y F G S sz [.ref (F 20)]) (zQiG D Y F (zAo F G sz) res) 24 414 (zAo F G sz) := by
  unfold M_X11_image at h
  refine zMet (cc := cX11_image) (maxL := 1) (ret := (some .int)) (own := RX11) (by decide +kernel) rfl rfl (Nat.le_of_ble_eq_true rfl) ?_
  intro p e s m args below meth c C0 hin hw hS ls hl
  have hl : lv_has ls 1 [(0, .ref (F 20))] := hl
  generalize zAo F G sz = A at C0 hw hS ⊢
  obtain ⟨hx, hb, hml, hr, hown, hts, hK, hA, hlk, hN⟩ := id C0
  have hc0 : 0 + 4 * 6 ≤ 24 := by omega
  have hs0 : 0 + 69 * 6 ≤ 414 := by omega
  refine lv_aload_n hx hb dX11_image_0 rfl (lv_at hl 0 rfl) ?_
  refine z_getU C0 in_X11_image_X11 (C := RX11) (T := TX11) (N := 14) hw (k := 20) (ci := 11) (v := .ref (F 66)) rfl rfl rfl rfl 5 (by decide) rfl 1 rfl (Or.inl rfl) dX11_image_1 ?_
  refine lv_aload_n hx hb dX11_image_4 rfl (lv_at hl 0 rfl) ?_
  refine z_getU C0 in_X11_image_X11 (C := RX11) (T := TX11) (N := 14) hw (k := 20) (ci := 11) (v := .ref (F 60)) rfl rfl rfl rfl 3 (by decide) rfl 2 rfl (Or.inl rfl) dX11_image_5 ?_
  obtain ⟨b4, h⟩ := z_gd h
  have b4 : 6 ≤ 6 := of_decide_eq_true b4
  obtain ⟨⟨p3, T2⟩, ew1, h⟩ := z_bd h
  refine z_govG (mc := 24) (ms := 414) C0 hw hS (res := (p3, T2)) (rest := []) (arr := (Value.ref (F 66) :: [.ref (F 60)]).toArray) ?_ (fun G1 H locs hG hw hS => ?_)
  · exact va_runV (z_fix C0) (c_X4_takeFrom l D Y F G S _ 2 0 (by decide) (by decide) (p3, T2) ew1) (cwV 1 hts gX11_image_X4_takeFrom rfl rfl rfl (by decide +kernel) ⟨Nat.le_of_ble_eq_true rfl, Nat.le_of_ble_eq_true rfl⟩) ⟨zPc_blind, z_rv C0 hw (k := 66) rfl rfl rfl rfl, z_give C0 hw hS _⟩ rfl rfl hl.1 rfl (lv_room (Nat.le_of_ble_eq_true rfl)) dX11_image_8 ⟨by show 0 + 24 ≤ 24; omega, by show 0 + 414 ≤ 414; omega⟩
  replace h := zlet2_h hG h
  have hc0 : (0 + 24) + 4 * (6 - 6) ≤ 24 := by omega
  have hs0 : (0 + 414) + 69 * (6 - 6) ≤ 414 := by omega
  have hl := lv_sub hl [0] rfl
  rename zG => G
  have hl : lv_has ls 1 [(0, .ref (F 20))] := hl
  refine lv_aload_n hx hb dX11_image_11 rfl (lv_at hl 0 rfl) ?_
  refine lv_iconst (v := 1) hx hb dX11_image_12 (by decide) ?_
  refine z_put C0 in_X11_image_X11 tyX11 tyX11_ok nmX11 (C := RX11) (T := TX11) (N := 14) hw hS (k := 20) (ci := 11) (v := 1) (ty := .boolean) rfl rfl rfl rfl 12 (by decide) 3 rfl rfl rfl rfl rfl (Nat.le_of_ble_eq_true rfl) rfl dX11_image_13 (fun H locs hw hS => ?_)
  refine lv_aload_n hx hb dX11_image_16 rfl (lv_at hl 0 rfl) ?_
  refine z_getU C0 in_X11_image_X11 (C := RX11) (T := TX11) (N := 14) hw (k := 20) (ci := 11) (v := .ref (F 66)) rfl rfl rfl rfl 5 (by decide) rfl 1 rfl (Or.inl rfl) dX11_image_17 ?_
  refine z_getU C0 in_X11_image_X4 (C := RX4) (T := TX4) (N := 6) hw (k := 66) (ci := 4) (v := .int ((zsc ((zP T2 20 12 1)) 66 3))) rfl rfl rfl rfl 3 (by decide) rfl 4 rfl (Or.inl rfl) dX11_image_20 ?_
  exact z_retiG C0 hw hS (zle hc0) (zle hs0) (Option.some.inj h) dX11_image_23
def M_X11_restore_B27 : Nat → (Nat → Nat) → zSt → Nat → Int32 → Option (Int32 × (Nat → Nat) × zSt)
  | 0, _, _, _, _ => none
  | n + 1, pk, S, b, x1 =>
  (if 8 ≤ x1 then some ((zsc S 60 3), pk, S) else Option.bind (M_X11_shelfAt pk S x1) (fun w7 => (zm w7 (M_X11_restore_B27 n pk S b ((x1 + 1))) (fun q8 => zg (decide (q8 < 8)) (Option.bind (M_X7_hasPerson pk S q8) (fun w9 => (if w9 = 0 then M_X11_restore_B27 n pk S b ((x1 + 1)) else Option.bind (M_X4_personAt pk S 0 ((zsc S (40 + 2 * q8) 1))) (fun w11 => (zm w11 (M_X11_restore_B27 n pk ((zP S ((40 + 2 * q8)) 1 (-1))) b ((x1 + 1))) (fun q12 => zg (zOKb pk q12) (M_X11_restore_B27 n pk S b ((x1 + 1)))))))))))))
set_option maxHeartbeats 4000000 in
set_option maxRecDepth 100000 in
theorem t_X11_restore_B27 {p : Program} {l : Launch} {e : Env} {s : State} {m : MethodId} {args : Array Value} {below : List Frame} {meth : Method} {c : Code} {D : va_G} {Y : Nat → ClassId} {F : Nat → Nat} {A : Nat → Prop} (C0 : zCx p s m args meth c D Y F A RX11 cX11_restore 3 (some .int) wsX11_restore) (res : Int32 × (Nat → Nat) × zSt) : ∀ (n : Nat), ∀ (G : zG) (S : zSt) (b : Nat) (x1 : Int32), M_X11_restore_B27 n (zpk G) S b x1 = some res → ∀ (cells slots : Nat), cells + 4 * b ≤ 24 → slots + 69 * b ≤ 414 → ∀ (H : Heap) (locs : List Loc) (ls : Array Slot), zH D Y F A G S H → va_S A s.heap H locs → lv_has ls 3 [(0, .ref (F 20)), (1, .int x1)] → W p l e { frames := 6, cells := 24, slots := 414, locals := 128 } s m args below meth c H locs cells slots (MQ below (zQiG D Y F A res) args s 24 414 A) (F0 m 27 ls []) := by
  obtain ⟨hx, hb, hml, hr, hown, hts, hK, hA, hlk, hN⟩ := id C0
  intro n
  induction n with
  | zero =>
    intro G S b x1 h
    unfold M_X11_restore_B27 at h
    cases h
  | succ n ih =>
    intro G S b x1 h cells slots hc0 hs0 H locs ls hw hS hl
    rw [M_X11_restore_B27] at h
    refine lv_iload_n hx hb dX11_restore_27 rfl (lv_at hl 1 rfl) ?_
    refine lv_bipush (v := 8) hx hb dX11_restore_28 (by decide) ?_
    refine lv_icmp_ge (tgt := 75) hx hb dX11_restore_30 (by decide) (fun c6 => ?_) (fun c6 => ?_)
    · replace h := z_ifp c6 h
      refine lv_aload_n hx hb dX11_restore_75 rfl (lv_at hl 0 rfl) ?_
      refine z_getU C0 in_X11_restore_X11 (C := RX11) (T := TX11) (N := 14) hw (k := 20) (ci := 11) (v := .ref (F 60)) rfl rfl rfl rfl 3 (by decide) rfl 2 rfl (Or.inl rfl) dX11_restore_76 ?_
      refine z_getU C0 in_X11_restore_X4 (C := RX4) (T := TX4) (N := 6) hw (k := 60) (ci := 4) (v := .int ((zsc S 60 3))) rfl rfl rfl rfl 3 (by decide) rfl 5 rfl (Or.inl rfl) dX11_restore_79 ?_
      exact z_retiG C0 hw hS (zle hc0) (zle hs0) (Option.some.inj h) dX11_restore_82
    · replace h := z_ifn c6 h
      refine lv_aload_n hx hb dX11_restore_33 rfl (lv_at hl 0 rfl) ?_
      refine lv_iload_n hx hb dX11_restore_34 rfl (lv_at hl 1 rfl) ?_
      obtain ⟨w7, ew7, h⟩ := z_bd h
      refine z_goq C0 hw hS (r0 := w7.map (zsa F G)) (rest := []) (arr := (Value.ref (F 20) :: [.int x1]).toArray) ?_ (fun H locs hw hS => ?_)
      · exact va_runV (z_fix C0) (c_X11_shelfAt l D Y F G S _ x1 w7 ew7) (cwV 1 hts gX11_restore_X11_shelfAt rfl rfl rfl (by decide +kernel) ⟨Nat.le_of_ble_eq_true rfl, Nat.le_of_ble_eq_true rfl⟩) ⟨zPc_blind, z_rv C0 hw (k := 20) rfl rfl rfl rfl, z_give C0 hw hS _⟩ rfl rfl hl.1 rfl (lv_room (Nat.le_of_ble_eq_true rfl)) dX11_restore_35 ⟨zle hc0, zle hs0⟩
      rcases w7 with _ | q8
      · replace h := zm_n h
        refine z_topv (y := .null) rfl ?_
        refine lv_astore_nN (lv' := [(2, .null), (0, .ref (F 20)), (1, .int x1)]) hx hb dX11_restore_38 rfl hl (by decide) rfl (fun ls hl => ?_)
        refine lv_aload_nN hx hb dX11_restore_39 rfl (lv_at hl 0 rfl) ?_
        refine lv_ifnullN (tgt := 69) hx hb dX11_restore_40 (by decide) ?_
        refine lv_iinc (v := (x1 + 1)) (lv' := [(1, .int ((x1 + 1))), (2, .null), (0, .ref (F 20))]) hx hb dX11_restore_69 hl (k := 2) rfl rfl (by decide) rfl (fun ls hl => ?_)
        refine lv_goto (tgt := 27) hx hb dX11_restore_72 (by decide) ?_
        exact ih G S b ((x1 + 1)) h _ _ hc0 hs0 _ _ _ hw hS (lv_sub hl [2, 0] rfl)
      · replace h := zm_s h
        obtain ⟨bq8, h⟩ := z_gd h
        have hq8 : q8 < 8 := of_decide_eq_true bq8
        refine z_topv (y := .ref (zad F G (40 + 2 * q8))) rfl ?_
        refine lv_astore_n (lv' := [(2, .ref (zad F G (40 + 2 * q8))), (0, .ref (F 20)), (1, .int x1)]) hx hb dX11_restore_38 rfl hl (by decide) rfl (fun ls hl => ?_)
        refine lv_aload_n hx hb dX11_restore_39 rfl (lv_at hl 0 rfl) ?_
        refine lv_ifnull hx hb dX11_restore_40 ?_
        refine lv_aload_n hx hb dX11_restore_43 rfl (lv_at hl 0 rfl) ?_
        obtain ⟨w9, ew9, h⟩ := z_bd h
        refine z_goi C0 hw hS (res := (w9, S)) (rest := []) (arr := (Value.ref (zad F G (40 + 2 * q8)) :: []).toArray) ?_ (fun H locs hw hS => ?_)
        · exact va_runV (z_fix C0) (c_X7_hasPerson l D Y F G S _ q8 hq8 w9 ew9) (cwV 0 hts gX11_restore_X7_hasPerson rfl rfl rfl (by decide +kernel) ⟨Nat.le_of_ble_eq_true rfl, Nat.le_of_ble_eq_true rfl⟩) ⟨zPc_blind, z_rv C0 hw (k := (40 + 2 * q8)) (zsh_E hq8) rfl (zsh_B hq8) rfl, z_give C0 hw hS _⟩ rfl rfl hl.1 rfl (lv_room (Nat.le_of_ble_eq_true rfl)) dX11_restore_44 ⟨zle hc0, zle hs0⟩
        refine lv_if_eq (tgt := 69) hx hb dX11_restore_47 (by decide) (fun c10 => ?_) (fun c10 => ?_)
        · replace h := z_ifp c10 h
          refine lv_iinc (v := (x1 + 1)) (lv' := [(1, .int ((x1 + 1))), (2, .ref (zad F G (40 + 2 * q8))), (0, .ref (F 20))]) hx hb dX11_restore_69 hl (k := 2) rfl rfl (by decide) rfl (fun ls hl => ?_)
          refine lv_goto (tgt := 27) hx hb dX11_restore_72 (by decide) ?_
          exact ih G S b ((x1 + 1)) h _ _ hc0 hs0 _ _ _ hw hS (lv_sub hl [2, 0] rfl)
        · replace h := z_ifn c10 h
          refine lv_aload_n hx hb dX11_restore_50 rfl (lv_at hl 1 rfl) ?_
          refine z_getU C0 in_X11_restore_X11 (C := RX11) (T := TX11) (N := 14) hw (k := 20) (ci := 11) (v := .ref (F 60)) rfl rfl rfl rfl 3 (by decide) rfl 2 rfl (Or.inl rfl) dX11_restore_51 ?_
          refine lv_aload_n hx hb dX11_restore_54 rfl (lv_at hl 0 rfl) ?_
          refine z_getU C0 in_X11_restore_X7 (C := RX7) (T := TX7) (N := 3) hw (k := (40 + 2 * q8)) (ci := 7) (v := .int ((zsc S (40 + 2 * q8) 1))) (zsh_E hq8) rfl (zsh_B hq8) rfl 1 (by decide) rfl 4 rfl (Or.inl rfl) dX11_restore_55 ?_
          obtain ⟨w11, ew11, h⟩ := z_bd h
          refine z_goq C0 hw hS (r0 := w11.map (zpa F G)) (rest := []) (arr := (Value.ref (F 60) :: [.int ((zsc S (40 + 2 * q8) 1))]).toArray) ?_ (fun H locs hw hS => ?_)
          · exact va_runV (z_fix C0) (c_X4_personAt l D Y F G S _ 0 (by decide) ((zsc S (40 + 2 * q8) 1)) w11 ew11) (cwV 1 hts gX11_restore_X4_personAt rfl rfl rfl (by decide +kernel) ⟨Nat.le_of_ble_eq_true rfl, Nat.le_of_ble_eq_true rfl⟩) ⟨zPc_blind, z_rv C0 hw (k := 60) rfl rfl rfl rfl, z_give C0 hw hS _⟩ rfl rfl hl.1 rfl (lv_room (Nat.le_of_ble_eq_true rfl)) dX11_restore_58 ⟨zle hc0, zle hs0⟩
          rcases w11 with _ | q12
          · replace h := zm_n h
            refine z_topv (y := .null) rfl ?_
            refine lv_ifnonnullN hx hb dX11_restore_61 ?_
            refine lv_aload_n hx hb dX11_restore_64 rfl (lv_at hl 0 rfl) ?_
            refine lv_iconst (v := (-1)) hx hb dX11_restore_65 (by decide) ?_
            refine z_putU C0 in_X11_restore_X7 tyX7 tyX7_ok nmX7 (C := RX7) (T := TX7) (N := 3) hw hS (k := (40 + 2 * q8)) (ci := 7) (v := (-1)) (zsh_E hq8) rfl (zsh_B hq8) rfl 1 (by decide) 4 rfl rfl rfl rfl (Nat.le_of_ble_eq_true rfl) (zsh_P hq8 (by decide)) dX11_restore_66 (fun H locs hw hS => ?_)
            refine lv_iinc (v := (x1 + 1)) (lv' := [(1, .int ((x1 + 1))), (2, .ref (zad F G (40 + 2 * q8))), (0, .ref (F 20))]) hx hb dX11_restore_69 hl (k := 2) rfl rfl (by decide) rfl (fun ls hl => ?_)
            refine lv_goto (tgt := 27) hx hb dX11_restore_72 (by decide) ?_
            exact ih G ((zP S ((40 + 2 * q8)) 1 (-1))) b ((x1 + 1)) h _ _ hc0 hs0 _ _ _ hw hS (lv_sub hl [2, 0] rfl)
          · replace h := zm_s h
            obtain ⟨bq12, h⟩ := z_gd h
            have hq12 := bq12
            refine z_topv (y := .ref (zad F G (100 + 4 * q12))) rfl ?_
            refine lv_ifnonnull (tgt := 69) hx hb dX11_restore_61 (by decide) ?_
            refine lv_iinc (v := (x1 + 1)) (lv' := [(1, .int ((x1 + 1))), (2, .ref (zad F G (40 + 2 * q8))), (0, .ref (F 20))]) hx hb dX11_restore_69 hl (k := 2) rfl rfl (by decide) rfl (fun ls hl => ?_)
            refine lv_goto (tgt := 27) hx hb dX11_restore_72 (by decide) ?_
            exact ih G S b ((x1 + 1)) h _ _ hc0 hs0 _ _ _ hw hS (lv_sub hl [2, 0] rfl)
def M_X11_restore (pk : Nat → Nat) (S : zSt) : Option (Int32 × (Nat → Nat) × zSt) :=
  (if (zsc S 20 12) = 0 then Option.bind (M_X11_refuse pk S (-6)) (fun w13 => some (w13.1, pk, w13.2)) else zg (decide (6 ≤ 6)) (Option.bind (M_X4_takeFrom pk S 0 2) (fun w2 => zlet2 w2 (fun pk T3 => M_X11_restore_B27 zF pk T3 ((6 - 6)) 0))))
set_option maxHeartbeats 4000000 in
set_option maxRecDepth 100000 in
theorem c_X11_restore (l : Launch) (D : va_G) (Y : Nat → ClassId) (F : Nat → Nat) (G : zG) (S : zSt) (sz : Nat) (res : Int32 × (Nat → Nat) × zSt) (h : M_X11_restore (zpk G) S = some res) : Met l yX11_restore wsX11_restore { frames := 6, cells := 24, slots := 414, locals := 128 } (zPc D Y F G S sz [.ref (F 20)]) (zQiG D Y F (zAo F G sz) res) 24 414 (zAo F G sz) := by
  unfold M_X11_restore at h
  refine zMet (cc := cX11_restore) (maxL := 3) (ret := (some .int)) (own := RX11) (by decide +kernel) rfl rfl (Nat.le_of_ble_eq_true rfl) ?_
  intro p e s m args below meth c C0 hin hw hS ls hl
  have hl : lv_has ls 3 [(0, .ref (F 20))] := hl
  generalize zAo F G sz = A at C0 hw hS ⊢
  obtain ⟨hx, hb, hml, hr, hown, hts, hK, hA, hlk, hN⟩ := id C0
  have hc0 : 0 + 4 * 6 ≤ 24 := by omega
  have hs0 : 0 + 69 * 6 ≤ 414 := by omega
  refine lv_aload_n hx hb dX11_restore_0 rfl (lv_at hl 0 rfl) ?_
  refine z_getU C0 in_X11_restore_X11 (C := RX11) (T := TX11) (N := 14) hw (k := 20) (ci := 11) (v := .int ((zsc S 20 12))) rfl rfl rfl rfl 12 (by decide) rfl 1 rfl (Or.inl rfl) dX11_restore_1 ?_
  refine lv_if_ne (tgt := 14) hx hb dX11_restore_4 (by decide) (fun c1 => ?_) (fun c1 => ?_)
  · replace h := z_ifn c1 h
    refine lv_aload_n hx hb dX11_restore_14 rfl (lv_at hl 0 rfl) ?_
    refine z_getU C0 in_X11_restore_X11 (C := RX11) (T := TX11) (N := 14) hw (k := 20) (ci := 11) (v := .ref (F 60)) rfl rfl rfl rfl 3 (by decide) rfl 2 rfl (Or.inl rfl) dX11_restore_15 ?_
    refine lv_aload_n hx hb dX11_restore_18 rfl (lv_at hl 0 rfl) ?_
    refine z_getU C0 in_X11_restore_X11 (C := RX11) (T := TX11) (N := 14) hw (k := 20) (ci := 11) (v := .ref (F 66)) rfl rfl rfl rfl 5 (by decide) rfl 3 rfl (Or.inl rfl) dX11_restore_19 ?_
    obtain ⟨b5, h⟩ := z_gd h
    have b5 : 6 ≤ 6 := of_decide_eq_true b5
    obtain ⟨⟨p4, T3⟩, ew2, h⟩ := z_bd h
    refine z_govG (mc := 24) (ms := 414) C0 hw hS (res := (p4, T3)) (rest := []) (arr := (Value.ref (F 60) :: [.ref (F 66)]).toArray) ?_ (fun G1 H locs hG hw hS => ?_)
    · exact va_runV (z_fix C0) (c_X4_takeFrom l D Y F G S _ 0 2 (by decide) (by decide) (p4, T3) ew2) (cwV 1 hts gX11_restore_X4_takeFrom rfl rfl rfl (by decide +kernel) ⟨Nat.le_of_ble_eq_true rfl, Nat.le_of_ble_eq_true rfl⟩) ⟨zPc_blind, z_rv C0 hw (k := 60) rfl rfl rfl rfl, z_give C0 hw hS _⟩ rfl rfl hl.1 rfl (lv_room (Nat.le_of_ble_eq_true rfl)) dX11_restore_22 ⟨by show 0 + 24 ≤ 24; omega, by show 0 + 414 ≤ 414; omega⟩
    replace h := zlet2_h hG h
    have hc0 : (0 + 24) + 4 * (6 - 6) ≤ 24 := by omega
    have hs0 : (0 + 414) + 69 * (6 - 6) ≤ 414 := by omega
    have hl := lv_sub hl [0] rfl
    rename zG => G
    have hl : lv_has ls 3 [(0, .ref (F 20))] := hl
    refine lv_iconst (v := 0) hx hb dX11_restore_25 (by decide) ?_
    refine lv_istore_n (lv' := [(1, .int 0), (0, .ref (F 20))]) hx hb dX11_restore_26 rfl hl (by decide) rfl (fun ls hl => ?_)
    exact t_X11_restore_B27 C0 res zF G T3 ((6 - 6)) 0 h _ _ hc0 hs0 _ _ _ hw hS (lv_sub hl [1, 0] rfl)
  · replace h := z_ifp c1 h
    refine lv_aload_n hx hb dX11_restore_7 rfl (lv_at hl 0 rfl) ?_
    refine lv_bipush (v := (-6)) hx hb dX11_restore_8 (by decide) ?_
    obtain ⟨w13, ew13, h⟩ := z_bd h
    refine z_goi C0 hw hS (res := w13) (rest := []) (arr := (Value.ref (F 20) :: [.int (-6)]).toArray) ?_ (fun H locs hw hS => ?_)
    · exact va_runV (z_fix C0) (c_X11_refuse l D Y F G S _ (-6) w13 ew13) (cwV 1 hts gX11_restore_X11_refuse rfl rfl rfl (by decide +kernel) ⟨Nat.le_of_ble_eq_true rfl, Nat.le_of_ble_eq_true rfl⟩) ⟨zPc_blind, z_rv C0 hw (k := 20) rfl rfl rfl rfl, z_give C0 hw hS _⟩ rfl rfl hl.1 rfl (lv_room (Nat.le_of_ble_eq_true rfl)) dX11_restore_10 ⟨zle hc0, zle hs0⟩
    exact z_retiG C0 hw hS (zle hc0) (zle hs0) (Option.some.inj h) dX11_restore_13
