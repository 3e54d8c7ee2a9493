set_option maxHeartbeats 4000000 in
set_option maxRecDepth 100000 in
theorem lw_loop {p : Program} {l : Launch} {e : Env} {s : State} {m : MethodId} {below : List Frame} {meth : Method} {c : Code} {D : va_G} {Y : Nat → ClassId} {F : Nat → Nat} {A : Nat → Prop} {b L : Nat} {xs : Nat → Int32} (C0 : zCx p s m #[Value.ref b] meth c D Y F A RL cL_law 4 ret wsL_law) (hX : va_X b L xs s s.heap) (hbl : b < s.heap.size) (hbA : ¬ A b)  (hL : L ≤ 3072) (hr : meth.sig.returnType = ret) (hlk : meth.locks = false) (hsA : ∀ q, A q → s.heap.size ≤ q) : ∀ (n j : Nat) (G : zG) (S : zSt) (d : zD) (H : Heap) (locs : List Loc) (ls : Array Slot), L < 6 * j + 6 * n → 6 * j ≤ L → Inv (zpk G) S d → zH D Y F A G S H → va_S A s.heap H locs → lv_has ls 4 [(0, .ref b), (1, .ref (F 20)), (2, .ref (F 0)), (3, .int (nI (6 * j)))] → W p l e room_1 s m #[Value.ref b] below meth c H locs (63 + 692 * j) (4619 + 11937 * j) (lw_Z below #[Value.ref b] s) (F0 m 18 ls []) := by
  obtain ⟨hx, hb, hml, hrt, hown, hts, hK, hA, -, hN⟩ := id C0
  intro n
  induction n with
  | zero => intro j G S d H locs ls h1 h2; omega
  | succ n ih =>
    intro j G S d H locs ls h1 h2 I hw hS hl
    refine lv_iload_n hx hb dL_law_18 rfl (lv_at hl 3 rfl) ?_
    refine lv_aload_n hx hb dL_law_19 rfl (lv_at hl 0 rfl) ?_
    refine va_slen hx hb hX hbl hbA hS dL_law_20 ?_
    refine lv_bipush (v := 6) hx hb dL_law_21 (by decide) ?_
    refine lv_isub hx hb dL_law_23 ?_
    refine lv_icmp_gt (tgt := 1659) hx hb dL_law_24 (by decide) (fun q => ?_) (fun q => ?_)
    · refine lv_iconst (v := 1) hx hb dL_law_1659 (by decide) ?_
      refine va_forget (fun q hq => hsA _ (hS.2.2 q hq)) ?_
      refine W.widen (k := 600000) (n := 7302250) (by omega) (by omega) ?_
      exact lw_ret hx hb hr hlk dL_law_1660
    · have hi : 6 * j + 6 ≤ L := by
        have := mt (lw_gt hL (show 6 * j ≤ 4000 by omega)).mpr q
        omega
      have rep : ∀ (j' : Nat) (G1 : zG) (S1 : zSt) (d1 : zD) (H1 : Heap) (locs1 : List Loc) (ls : Array Slot), Inv (zpk G1) S1 d1 → zH D Y F A G1 S1 H1 → va_S A s.heap H1 locs1 → lv_has ls 4 [(0, .ref b), (1, .ref (F 20)), (2, .ref (F 0)), (3, .int (nI (6 * j)))] → j' = j → W p l e room_1 s m #[Value.ref b] below meth c H1 locs1 (63 + 692 * j + 692) (4619 + 11937 * j + 11937) (lw_Z below #[Value.ref b] s) (F0 m 1653 ls []) := by
        intro j' G1 S1 d1 H1 locs1 ls I1 hw1 hS1 hl _
        refine lv_iinc (v := nI (6 * (j + 1))) (lv' := [(3, .int (nI (6 * (j + 1)))), (0, .ref b), (1, .ref (F 20)), (2, .ref (F 0))]) hx hb dL_law_1653 hl (k := 3) rfl (by rw [show Int32.ofInt (6 : Int) = nI 6 from by decide, nI_add, show 6 * j + 6 = 6 * (j + 1) by omega]) (by decide) rfl (fun ls hl => ?_)
        refine lv_goto (tgt := 18) hx hb dL_law_1656 (by decide) ?_
        have := ih (j + 1) G1 S1 d1 H1 locs1 ls (by omega) (by omega) I1 hw1 hS1 (lv_sub hl [1, 2, 3, 0] rfl)
        rw [show 63 + 692 * (j + 1) = 63 + 692 * j + 692 by omega, show 4619 + 11937 * (j + 1) = 4619 + 11937 * j + 11937 by omega] at this
        exact this
      refine lv_aload_n hx hb dL_law_27 rfl (lv_at hl 0 rfl) ?_
      refine lv_iload_n hx hb dL_law_28 rfl (lv_at hl 3 rfl) ?_
      refine va_sld hx hb hX hbl hbA hS (show vp_in (nI (6 * j)) L from vp_in_nI (by omega) (by omega)) dL_law_29 ?_
      refine lv_bipush (v := 63) hx hb dL_law_30 (by decide) ?_
      refine lv_iand hx hb dL_law_32 ?_
      obtain ⟨k, hk, ek⟩ := lw_and63 (xs (Int32.toNatClampNeg (nI (6 * j))))
      rw [ek]
      have kk := fun (G1 : zG) (S1 : zSt) (d1 : zD) (H1 : Heap) (locs1 : List Loc) (I1 : Inv (zpk G1) S1 d1) (hw1 : zH D Y F A G1 S1 H1) (hS1 : va_S A s.heap H1 locs1) => rep j G1 S1 d1 H1 locs1 ls I1 hw1 hS1 hl rfl
      rcases Nat.lt_or_ge k 42 with h | h
      · match k, h with
        | 0, _ => exact lv_tableIn (off := 183) (tgt := 216) hx hb dL_law_33 (by decide) (by decide) rfl (by decide) (lwa_0 C0 hX hbl hbA hi hL (by omega) (by omega) I hw hS hl kk)
        | 1, _ => exact lv_tableIn (off := 226) (tgt := 259) hx hb dL_law_33 (by decide) (by decide) rfl (by decide) (lwa_1 C0 hX hbl hbA hi hL (by omega) (by omega) I hw hS hl kk)
        | 2, _ => exact lv_tableIn (off := 299) (tgt := 332) hx hb dL_law_33 (by decide) (by decide) rfl (by decide) (lwa_2 C0 hX hbl hbA hi hL (by omega) (by omega) I hw hS hl kk)
        | 3, _ => exact lv_tableIn (off := 362) (tgt := 395) hx hb dL_law_33 (by decide) (by decide) rfl (by decide) (lwa_3 C0 hX hbl hbA hi hL (by omega) (by omega) I hw hS hl kk)
        | 4, _ => exact lv_tableIn (off := 396) (tgt := 429) hx hb dL_law_33 (by decide) (by decide) rfl (by decide) (lwa_4 C0 hX hbl hbA hi hL (by omega) (by omega) I hw hS hl kk)
        | 5, _ => exact lv_tableIn (off := 429) (tgt := 462) hx hb dL_law_33 (by decide) (by decide) rfl (by decide) (lwa_5 C0 hX hbl hbA hi hL (by omega) (by omega) I hw hS hl kk)
        | 6, _ => exact lv_tableIn (off := 452) (tgt := 485) hx hb dL_law_33 (by decide) (by decide) rfl (by decide) (lwa_6 C0 hX hbl hbA hi hL (by omega) (by omega) I hw hS hl kk)
        | 7, _ => exact lv_tableIn (off := 485) (tgt := 518) hx hb dL_law_33 (by decide) (by decide) rfl (by decide) (lwa_7 C0 hX hbl hbA hi hL (by omega) (by omega) I hw hS hl kk)
        | 8, _ => exact lv_tableIn (off := 528) (tgt := 561) hx hb dL_law_33 (by decide) (by decide) rfl (by decide) (lwa_8 C0 hX hbl hbA hi hL (by omega) (by omega) I hw hS hl kk)
        | 9, _ => exact lv_tableIn (off := 551) (tgt := 584) hx hb dL_law_33 (by decide) (by decide) rfl (by decide) (lwa_9 C0 hX hbl hbA hi hL (by omega) (by omega) I hw hS hl kk)
        | 10, _ => exact lv_tableIn (off := 584) (tgt := 617) hx hb dL_law_33 (by decide) (by decide) rfl (by decide) (lwa_10 C0 hX hbl hbA hi hL (by omega) (by omega) I hw hS hl kk)
        | 11, _ => exact lv_tableIn (off := 627) (tgt := 660) hx hb dL_law_33 (by decide) (by decide) rfl (by decide) (lwa_11 C0 hX hbl hbA hi hL (by omega) (by omega) I hw hS hl kk)
        | 12, _ => exact lv_tableIn (off := 670) (tgt := 703) hx hb dL_law_33 (by decide) (by decide) rfl (by decide) (lwa_12 C0 hX hbl hbA hi hL (by omega) (by omega) I hw hS hl kk)
        | 13, _ => exact lv_tableIn (off := 703) (tgt := 736) hx hb dL_law_33 (by decide) (by decide) rfl (by decide) (lwa_13 C0 hX hbl hbA hi hL (by omega) (by omega) I hw hS hl kk)
        | 14, _ => exact lv_tableIn (off := 736) (tgt := 769) hx hb dL_law_33 (by decide) (by decide) rfl (by decide) (lwa_14 C0 hX hbl hbA hi hL (by omega) (by omega) I hw hS hl kk)
        | 15, _ => exact lv_tableIn (off := 759) (tgt := 792) hx hb dL_law_33 (by decide) (by decide) rfl (by decide) (lwa_15 C0 hX hbl hbA hi hL (by omega) (by omega) I hw hS hl kk)
        | 16, _ => exact lv_tableIn (off := 772) (tgt := 805) hx hb dL_law_33 (by decide) (by decide) rfl (by decide) (lwa_16 C0 hX hbl hbA hi hL (by omega) (by omega) I hw hS hl kk)
        | 17, _ => exact lv_tableIn (off := 805) (tgt := 838) hx hb dL_law_33 (by decide) (by decide) rfl (by decide) (lwa_17 C0 hX hbl hbA hi hL (by omega) (by omega) I hw hS hl kk)
        | 18, _ => exact lv_tableIn (off := 828) (tgt := 861) hx hb dL_law_33 (by decide) (by decide) rfl (by decide) (lwa_18 C0 hX hbl hbA hi hL (by omega) (by omega) I hw hS hl kk)
        | 19, _ => exact lv_tableIn (off := 881) (tgt := 914) hx hb dL_law_33 (by decide) (by decide) rfl (by decide) (lwa_19 C0 hX hbl hbA hi hL (by omega) (by omega) I hw hS hl kk)
        | 20, _ => exact lv_tableIn (off := 924) (tgt := 957) hx hb dL_law_33 (by decide) (by decide) rfl (by decide) (lwa_20 C0 hX hbl hbA hi hL (by omega) (by omega) I hw hS hl kk)
        | 21, _ => exact lv_tableIn (off := 977) (tgt := 1010) hx hb dL_law_33 (by decide) (by decide) rfl (by decide) (lwa_21 C0 hX hbl hbA hi hL (by omega) (by omega) I hw hS hl kk)
        | 22, _ => exact lv_tableIn (off := 1020) (tgt := 1053) hx hb dL_law_33 (by decide) (by decide) rfl (by decide) (lwa_22 C0 hX hbl hbA hi hL (by omega) (by omega) I hw hS hl kk)
        | 23, _ => exact lv_tableIn (off := 1053) (tgt := 1086) hx hb dL_law_33 (by decide) (by decide) rfl (by decide) (lwa_23 C0 hX hbl hbA hi hL (by omega) (by omega) I hw hS hl kk)
        | 24, _ => exact lv_tableIn (off := 1076) (tgt := 1109) hx hb dL_law_33 (by decide) (by decide) rfl (by decide) (lwa_24 C0 hX hbl hbA hi hL (by omega) (by omega) I hw hS hl kk)
        | 25, _ => exact lv_tableIn (off := 1109) (tgt := 1142) hx hb dL_law_33 (by decide) (by decide) rfl (by decide) (lwa_25 C0 hX hbl hbA hi hL (by omega) (by omega) I hw hS hl kk)
        | 26, _ => exact lv_tableIn (off := 1152) (tgt := 1185) hx hb dL_law_33 (by decide) (by decide) rfl (by decide) (lwa_26 C0 hX hbl hbA hi hL (by omega) (by omega) I hw hS hl kk)
        | 27, _ => exact lv_tableIn (off := 1185) (tgt := 1218) hx hb dL_law_33 (by decide) (by decide) rfl (by decide) (lwa_27 C0 hX hbl hbA hi hL (by omega) (by omega) I hw hS hl kk)
        | 28, _ => exact lv_tableIn (off := 1208) (tgt := 1241) hx hb dL_law_33 (by decide) (by decide) rfl (by decide) (lwa_28 C0 hX hbl hbA hi hL (by omega) (by omega) I hw hS hl kk)
        | 29, _ => exact lv_tableIn (off := 1241) (tgt := 1274) hx hb dL_law_33 (by decide) (by decide) rfl (by decide) (lwa_29 C0 hX hbl hbA hi hL (by omega) (by omega) I hw hS hl kk)
        | 30, _ => exact lv_tableIn (off := 1274) (tgt := 1307) hx hb dL_law_33 (by decide) (by decide) rfl (by decide) (lwa_30 C0 hX hbl hbA hi hL (by omega) (by omega) I hw hS hl kk)
        | 31, _ => exact lv_tableIn (off := 1317) (tgt := 1350) hx hb dL_law_33 (by decide) (by decide) rfl (by decide) (lwa_31 C0 hX hbl hbA hi hL (by omega) (by omega) I hw hS hl kk)
        | 32, _ => exact lv_tableIn (off := 1350) (tgt := 1383) hx hb dL_law_33 (by decide) (by decide) rfl (by decide) (lwa_32 C0 hX hbl hbA hi hL (by omega) (by omega) I hw hS hl kk)
        | 33, _ => exact lv_tableIn (off := 1393) (tgt := 1426) hx hb dL_law_33 (by decide) (by decide) rfl (by decide) (lwa_33 C0 hX hbl hbA hi hL (by omega) (by omega) I hw hS hl kk)
        | 34, _ => exact lv_tableIn (off := 1436) (tgt := 1469) hx hb dL_law_33 (by decide) (by decide) rfl (by decide) (lwa_34 C0 hX hbl hbA hi hL (by omega) (by omega) I hw hS hl kk)
        | 35, _ => exact lv_tableIn (off := 1459) (tgt := 1492) hx hb dL_law_33 (by decide) (by decide) rfl (by decide) (lwa_35 C0 hX hbl hbA hi hL (by omega) (by omega) I hw hS hl kk)
        | 36, _ => exact lv_tableIn (off := 1482) (tgt := 1515) hx hb dL_law_33 (by decide) (by decide) rfl (by decide) (lwa_36 C0 hX hbl hbA hi hL (by omega) (by omega) I hw hS hl kk)
        | 37, _ => exact lv_tableIn (off := 1505) (tgt := 1538) hx hb dL_law_33 (by decide) (by decide) rfl (by decide) (lwa_37 C0 hX hbl hbA hi hL (by omega) (by omega) I hw hS hl kk)
        | 38, _ => exact lv_tableIn (off := 1548) (tgt := 1581) hx hb dL_law_33 (by decide) (by decide) rfl (by decide) (lwa_38 C0 hX hbl hbA hi hL (by omega) (by omega) I hw hS hl kk)
        | 39, _ => exact lv_tableIn (off := 1571) (tgt := 1604) hx hb dL_law_33 (by decide) (by decide) rfl (by decide) (lwa_39 C0 hX hbl hbA hi hL (by omega) (by omega) I hw hS hl kk)
        | 40, _ => exact lv_tableIn (off := 1584) (tgt := 1617) hx hb dL_law_33 (by decide) (by decide) rfl (by decide) (lwa_40 C0 hX hbl hbA hi hL (by omega) (by omega) I hw hS hl kk)
        | 41, _ => exact lv_tableIn (off := 1597) (tgt := 1630) hx hb dL_law_33 (by decide) (by decide) rfl (by decide) (lwa_41 C0 hX hbl hbA hi hL (by omega) (by omega) I hw hS hl kk)
        | n + 42, h => exact absurd h (by omega)
      · refine lv_tableOut (tgt := 1653) hx hb dL_law_33 (Or.inr (by rw [n_toInt (by omega)]; omega)) (by decide) ?_
        refine W.widen (k := 63 + 692 * j + 692) (n := 4619 + 11937 * j + 11937) (by omega) (by omega) ?_
        exact kk G S d H locs I hw hS
