theorem fsX11 : ∀ j, j < 14 → defaultValue (tyX11 j) = vp_V [.null, .null, .null, .null, .null, .null, .null, .null, .null, .null, .null, .null, .int 0, .int 0] j := by
  intro j hj
  match j, hj with
  | 0, _ => rfl
  | 1, _ => rfl
  | 2, _ => rfl
  | 3, _ => rfl
  | 4, _ => rfl
  | 5, _ => rfl
  | 6, _ => rfl
  | 7, _ => rfl
  | 8, _ => rfl
  | 9, _ => rfl
  | 10, _ => rfl
  | 11, _ => rfl
  | 12, _ => rfl
  | 13, _ => rfl
  | k + 14, hj => exact absurd hj (by omega)
theorem fsX12 : ∀ j, j < 27 → defaultValue (tyX12 j) = vp_V [.null, .null, .null, .int 0, .null, .null, .null, .null, .null, .null, .null, .int 0, .int 0, .int 0, .int 0, .int 0, .null, .int 0, .null, .null, .int 0, .null, .null, .null, .null, .null, .int 0] j := by
  intro j hj
  match j, hj with
  | 0, _ => rfl
  | 1, _ => rfl
  | 2, _ => rfl
  | 3, _ => rfl
  | 4, _ => rfl
  | 5, _ => rfl
  | 6, _ => rfl
  | 7, _ => rfl
  | 8, _ => rfl
  | 9, _ => rfl
  | 10, _ => rfl
  | 11, _ => rfl
  | 12, _ => rfl
  | 13, _ => rfl
  | 14, _ => rfl
  | 15, _ => rfl
  | 16, _ => rfl
  | 17, _ => rfl
  | 18, _ => rfl
  | 19, _ => rfl
  | 20, _ => rfl
  | 21, _ => rfl
  | 22, _ => rfl
  | 23, _ => rfl
  | 24, _ => rfl
  | 25, _ => rfl
  | 26, _ => rfl
  | k + 27, hj => exact absurd hj (by omega)
set_option maxHeartbeats 4000000 in
set_option maxRecDepth 100000 in
/-- THE LAW, from its entry -/
theorem whole_start {p : Program} {e : Env} {s : State} {m : MethodId} {below : List Frame} {meth : Method} {c : Code} (l : Launch) (hflags : l.flags = flags0) {b L : Nat} {xs : Nat → Int32} (hL : L ≤ 3072) (C0 : lw_At p s m meth c b L xs) : W p l e room_1 s m #[Value.ref b] below meth c s.heap [] 0 0 (lw_Z below #[Value.ref b] s) (entryFrame m ([Value.ref b] : List Value).toArray 4) := by
  obtain ⟨hx, hb, hr, hml, hown, hts, hX, hbl, hlk, hgv⟩ := id C0
  obtain ⟨A, hAe⟩ : ∃ A : Nat → Prop, A = fun q => s.heap.size ≤ q := ⟨_, rfl⟩
  have hA : ∀ q, s.heap.size ≤ q → A q := fun q h => by rw [hAe]; exact h
  have hsA : ∀ q, A q → s.heap.size ≤ q := fun q h => by rw [hAe] at h; exact h
  have hA' : ∀ a : Nat, a < s.heap.size → ¬ A a := fun a h q => Nat.not_le.mpr h (hsA a q)
  have hbA : ¬ A b := hA' b hbl
  clear hAe
  obtain ⟨D, Y, hK⟩ := lw_K hts
  obtain ⟨tx, ty, hS6, hev⟩ := lw_S (A := A) hgv hA'
  have hin : ∀ w ∈ wsL_law, w.before #[Value.ref b] s = true := fun w h => hts w (wsL_law_in w h)
  have CX : xCx p s m #[Value.ref b] meth c D Y xF A RL cL_law 4 ret wsL_law := ⟨hx, hb, hml, hr, hown, hin, hK, hA, hlk, lw_E hts⟩
  have hl := lv_entry ([.ref b]) (n := 4) (Nat.le_of_ble_eq_true rfl)
  rw [lg_entry_eq]
  generalize (lg_sl ([.ref b]) ++ List.replicate (4 - (lg_sl ([.ref b])).length) Slot.unset).toArray = ls at hl ⊢
  have hl : lv_has ls 4 [(0, .ref b)] := hl
  have hP : va_P D vwCl ([] ++ []) s.heap := fun k q h => by simp at h
  have hD : va_D A ([] ++ []) := ⟨fun i j p q h => by simp at h, fun k q h => by simp at h⟩
  have hS : va_S A s.heap s.heap [] := va_S.rf
  refine x_new (ci := 11) CX hP hD hS (C := RX11) (T := TX11) (N := 14) inlX11 tyX11 tyX11_ok 0 0 0 (hin (.classLink RL 7 RX11) (List.mem_of_getElem? (i := 0) (by decide +kernel))) (hin (.instantiable RX11 14) (List.mem_of_getElem? (i := 1) (by decide +kernel))) (hin (.initialized RX11) (List.mem_of_getElem? (i := 2) (by decide +kernel))) rfl [.null, .null, .null, .null, .null, .null, .null, .null, .null, .null, .null, .null, .int 0, .int 0] fsX11 (Nat.le_of_ble_eq_true rfl) (Nat.le_of_ble_eq_true rfl) dL_law_0 (fun a H hP hD hS => ?_)
  have hP : va_P D vwCl ([] ++ [(a, .inr (11, [.null, .null, .null, .null, .null, .null, .null, .null, .null, .null, .null, .null, .int 0, .int 0]))]) H := hP
  have hD : va_D A ([] ++ [(a, .inr (11, [.null, .null, .null, .null, .null, .null, .null, .null, .null, .null, .null, .null, .int 0, .int 0]))]) := hD
  refine lv_dup hx hb dL_law_3 rfl ?_
  refine x_callI CX hP hD hS xOk_F (fun h => h) (As := []) (rest := [.ref a]) (c_X11_init l D Y [] _ a) (cwI 0 hin gL_law_X11_init rfl rfl rfl (hin (.initialized RX11) (List.mem_of_getElem? (i := 2) (by decide +kernel))) (hin (.methodLink RL 9 yX11_init) (List.mem_of_getElem? (i := 7) (by decide +kernel))) (hin (.instanceMethod yX11_init) (List.mem_of_getElem? (i := 8) (by decide +kernel))) rfl (by decide +kernel) ⟨Nat.le_of_ble_eq_true rfl, Nat.le_of_ble_eq_true rfl⟩) rfl hl.1 rfl (Nat.le_of_ble_eq_true rfl) dL_law_4 ⟨Nat.le_of_ble_eq_true rfl, Nat.le_of_ble_eq_true rfl⟩ (fun u H locs hP hD hS => ?_)
  refine lv_astore_n (lv' := [(1, .ref a), (0, .ref b)]) hx hb dL_law_7 rfl hl (by decide) rfl (fun ls hl => ?_)
  have hP : va_P D vwCl ([] ++ wX11 Y a u) H := hP
  have hD : va_D A ([] ++ wX11 Y a u) := hD
  refine x_new (ci := 12) CX hP hD hS (C := RX12) (T := TX12) (N := 27) inlX12 tyX12 tyX12_ok 0 0 0 (hin (.classLink RL 10 RX12) (List.mem_of_getElem? (i := 3) (by decide +kernel))) (hin (.instantiable RX12 27) (List.mem_of_getElem? (i := 4) (by decide +kernel))) (hin (.initialized RX12) (List.mem_of_getElem? (i := 5) (by decide +kernel))) rfl [.null, .null, .null, .int 0, .null, .null, .null, .null, .null, .null, .null, .int 0, .int 0, .int 0, .int 0, .int 0, .null, .int 0, .null, .null, .int 0, .null, .null, .null, .null, .null, .int 0] fsX12 (Nat.le_of_ble_eq_true rfl) (Nat.le_of_ble_eq_true rfl) dL_law_8 (fun a2 H hP hD hS => ?_)
  have hP : va_P D vwCl (wX11 Y a u ++ [(a2, .inr (12, [.null, .null, .null, .int 0, .null, .null, .null, .null, .null, .null, .null, .int 0, .int 0, .int 0, .int 0, .int 0, .null, .int 0, .null, .null, .int 0, .null, .null, .null, .null, .null, .int 0]))]) H := hP
  have hD : va_D A (wX11 Y a u ++ [(a2, .inr (12, [.null, .null, .null, .int 0, .null, .null, .null, .null, .null, .null, .null, .int 0, .int 0, .int 0, .int 0, .int 0, .null, .int 0, .null, .null, .int 0, .null, .null, .null, .null, .null, .int 0]))]) := hD
  refine lv_dup hx hb dL_law_11 rfl ?_
  refine x_callI CX hP hD hS xOk_t (fun _ => trivial) (As := []) (rest := [.ref a2]) (c_X12_init l D Y (fun _ => True) xOk_t (wX11 Y a u) _ a2) (cwI 0 hin gL_law_X12_init rfl rfl rfl (hin (.initialized RX12) (List.mem_of_getElem? (i := 5) (by decide +kernel))) (hin (.methodLink RL 12 yX12_init) (List.mem_of_getElem? (i := 78) (by decide +kernel))) (hin (.instanceMethod yX12_init) (List.mem_of_getElem? (i := 79) (by decide +kernel))) rfl (by decide +kernel) ⟨Nat.le_of_ble_eq_true rfl, Nat.le_of_ble_eq_true rfl⟩) rfl hl.1 rfl (Nat.le_of_ble_eq_true rfl) dL_law_12 ⟨Nat.le_of_ble_eq_true rfl, Nat.le_of_ble_eq_true rfl⟩ (fun v H locs hP hD hS => ?_)
  refine lv_astore_n (lv' := [(2, .ref a2), (1, .ref a), (0, .ref b)]) hx hb dL_law_15 rfl hl (by decide) rfl (fun ls hl => ?_)
  refine lv_iconst (v := 0) hx hb dL_law_16 (by decide) ?_
  refine lv_istore_n (lv' := [(3, .int 0), (2, .ref a2), (1, .ref a), (0, .ref b)]) hx hb dL_law_17 rfl hl (by decide) rfl (fun ls hl => ?_)
  have hw := z_start tx ty hP hD
  have e200 : ∀ i, i < 6 → zF0 a u a2 v tx ty (200 + i) = tx i := fun i hi => by
    show (if 200 + i < 200 then _ else if 200 + i < 220 then tx (200 + i - 200) else _) = tx i
    rw [if_neg (by omega), if_pos (by omega), Nat.add_sub_cancel_left]
  have e220 : ∀ i, i < 6 → zF0 a u a2 v tx ty (220 + i) = ty i := fun i hi => by
    show (if 220 + i < 200 then _ else if 220 + i < 220 then _ else ty (220 + i - 220)) = ty i
    rw [if_neg (by omega), if_neg (by omega), Nat.add_sub_cancel_left]
  have e20 : zF0 a u a2 v tx ty 20 = a := rfl
  have e0 : zF0 a u a2 v tx ty 0 = a2 := rfl
  generalize zF0 a u a2 v tx ty = F at hw e200 e220 e20 e0
  have C1 : zCx p s m #[Value.ref b] meth c D Y F A RL cL_law 4 ret wsL_law := ⟨hx, hb, hml, hr, hown, hin, hK, hA, hlk, lw_N hts hgv hA' hS6 hev e200 e220⟩
  refine W.widen (k := 63 + 692 * 0) (n := 4619 + 11937 * 0) (by omega) (by omega) ?_
  refine lw_loop C1 hX hbl hbA hL hr hlk hsA (L + 1) 0 zG0 zS0 dZ _ _ _ (by omega) (by omega) inv_0 hw hS ?_
  have hl := lv_sub (l' := [(0, .ref b), (1, .ref a), (2, .ref a2), (3, .int 0)]) hl [3, 2, 1, 0] rfl
  rw [e20, e0, show nI (6 * 0) = 0 from rfl]
  exact hl
