section IT5
variable {P : Nat → Prop} {pk : Nat → Nat} {S S' T T' : zSt} {i k k1 k2 f r L v g n p q : Nat} {a b a' b' a2 b2 : Int32} {tx : Nat → Int32} {d : zD}
theorem ItO.eq {o1 o1' : Option zSt} {o2 o2' : Option (Int32 × zSt)} (h : ItO pk S T k L o1' o2') (e1 : o1 = o1') (e2 : o2 = o2') : ItO pk S T k L o1 o2 := by
  rw [e1, e2]; exact h
theorem w_step {t j : Nat} (ht : t < 6) (hj : j < wl t) (o : Ok S k) (hC : CT tx L S) (hk : k ≤ L) (e : sg tx L k = wb t j) (n : Nat) : M_X6_readWord_B2 pk t (n + 1) S (nI j) = M_X6_readWord_B2 pk t n (zP S 70 3 (nI (k + 1))) (nI (j + 1)) := by
  have h7 := wl_7 t ht
  have hL := hC.2.1
  have e1 : M_X6_readLetter pk S (wb t j) = some (zP S 70 3 (nI (k + 1))) := by
    unfold M_X6_readLetter
    refine (if_pos o.2).trans ?_
    rw [o.1, l_sg hC (by omega), ob_some]
    refine (if_pos e).trans ?_
    rw [show nI k + 1 = nI (k + 1) from nI_add k 1]
  rw [M_X6_readWord_B2, wl_len S ht, ob_some, if_neg (nI_ge (by omega) (by omega)), wb_ch S ht hj, ob_some, e1, ob_some, show nI j + 1 = nI (j + 1) from nI_add j 1]
theorem w_miss {t j : Nat} (ht : t < 6) (hj : j < wl t) (o : Ok S k) (hC : CT tx L S) (hk : k ≤ L) (e : sg tx L k ≠ wb t j) (n : Nat) (hn : wl t < n) : M_X6_readWord_B2 pk t (n + 1) S (nI j) = some (zP S 70 4 (nI k)) := by
  have h7 := wl_7 t ht
  have hL := hC.2.1
  have e1 : M_X6_readLetter pk S (wb t j) = some (zP S 70 4 (nI k)) := by
    unfold M_X6_readLetter
    refine (if_pos o.2).trans ?_
    rw [o.1, l_sg hC (by omega), ob_some]
    exact if_neg e
  have bd : Bad (zP S 70 4 (nI k)) k := ⟨by rw [p_y, if_pos rfl], by omega⟩
  rw [M_X6_readWord_B2, wl_len S ht, ob_some, if_neg (nI_ge (by omega) (by omega)), wb_ch S ht hj, ob_some, e1, ob_some, show nI j + 1 = nI (j + 1) from nI_add j 1]
  exact wd_bad bd ht (wl t - (j + 1)) (j + 1) n (by omega) (by omega)
theorem wb_p0 : wb 0 0 = nI 112 := rfl
theorem wb_p1 : wb 1 0 = nI 112 := rfl
theorem wb_e : wb 0 1 = nI 101 := rfl
theorem wb_r : wb 5 0 = nI 114 := rfl
theorem zF_5 : ∃ n, zF = n + 20 := ⟨4076, rfl⟩
theorem zz01 (v : Nat) (h : v < 2) (T : zSt) : zg (decide ((nI v &&& nI 1) = nI v)) (some (nI v, T)) = some (nI v, T) := by
  match v, h with
  | 0, _ => rfl
  | 1, _ => rfl
theorem pr_wrap {o : Option (Int32 × zSt)} {x : Option (Int32 × zSt)} (e : o = x) (hx : ∃ v T, v < 2 ∧ x = some (nI v, T)) : Option.bind o (fun w22 => zg (decide ((w22.1 &&& 1) = w22.1)) (some (w22.1, w22.2))) = x := by
  obtain ⟨v, T, hv, rfl⟩ := hx
  rw [e, ob_some]
  exact zz01 v hv T
theorem ItO.ans {o1 : Option zSt} {o2 : Option (Int32 × zSt)} (h : ItO pk S T k L o1 o2) : ∃ v T, v < 2 ∧ o2 = some (nI v, T) := by
  rcases h with ⟨f, S1, T1, e1, w, b, e2, -⟩ | ⟨k2, d', pk', S1, S2, T1, -, -, -, -, -, -, -, -, -, -, -, -, e, -⟩
  · exact ⟨0, T1, by decide, e2⟩
  · exact ⟨1, T1, by decide, e⟩
/-- what the reference did before does not matter -/
theorem ItO.from {T0 : zSt} {o1 : Option zSt} {o2 : Option (Int32 × zSt)} (h : ItO pk S T0 k L o1 o2) (g : TG T T0) : ItO pk S T k L o1 o2 := by
  rcases h with ⟨f, S1, T1, e1, w, b, e2, z, fr, h0⟩ | ⟨k2, d', pk', S1, S2, T1, x1, x2, x3, x4, x5, x6, x7, x8, x9, x10, x11, x12, x13, x14, x15, x16, x17⟩
  · exact Or.inl ⟨f, S1, T1, e1, w, b, e2, z, g.1.trans fr, fun j hj => (h0 j hj).trans (g.2 j hj)⟩
  · exact Or.inr ⟨k2, d', pk', S1, S2, T1, x1, x2, x3, x4, x5, x6, x7, x8, x9, x10, x11, x12, x13, x14, (g.1.mono (fun k e => by unfold zRd; omega)).trans x15, fun j a b c => (x16 j a b c).trans (g.2 j c), fun n h1 h2 => x17 n h1 ((g.2 3 (by decide)).trans h2)⟩
theorem p_pressed (hl : LL 1 pk S d) (hr : RR T d) (K : KK d) (P0 : PK pk S) (hC : CT tx L S) (hT : TT r tx L T) (o : Ok S k) (h14 : zsc T 0 14 = nI k) (hk : k ≤ L) (hs : sg tx L k = nI 112) : ItO pk S T k L (Option.bind (M_X6_letterAt pk S (nI (k + 1))) (fun w7 => (if w7 = 114 then Option.bind (M_X6_readPress pk S) (fun w10 => some w10) else Option.bind (M_X6_readPerson pk S) (fun w9 => some w9)))) (M_X12_pressed T) := by
  have hn6 := K.1
  have hL := hC.2.1
  have kl : k < L := sg_lt (by rw [hs, ne_eq, m_ne (by decide) (by decide) (by decide)]; exact id)
  have g0 : TG T (zP T 0 14 (nI (k + 1))) := TG.zp
  have hT0 := g0.tt hT
  have z0 : zsc (zP T 0 14 (nI (k + 1))) 0 14 = nI (k + 1) := by rw [p_y, if_pos rfl]
  have es := r_sg hT0 z0 (by omega)
  have e1 := l_sg (pk := pk) hC (k := k + 1) (by omega)
  have ep : M_X12_pressed T = (if sg tx L (k + 1) = 101 then (if 6 ≤ (zsc ((zP ((zP T 0 14 (nI (k + 1)))) 0 14 (nI k))) 0 3) then M_X12_pressed_B46 ((zP ((zP T 0 14 (nI (k + 1)))) 0 14 (nI k))) 0 else M_X12_pressed_B46 ((zP ((zP T 0 14 (nI (k + 1)))) 0 14 (nI k))) 1) else Option.bind (M_X12_word (zP T 0 14 (nI (k + 1))) 5) (fun w3 => (if w3.1 = nI 0 then some (nI 0, w3.2) else Option.bind (M_X12_number w3.2 (nI 0) (nI 0) (((zsc w3.2 0 3) - nI 1))) (fun w5 => (if w5.1 = nI 0 then some (nI 0, w5.2) else zg (zin (nI 0) 3) (zg (zin ((zar w5.2 11 (Int32.toNatClampNeg (nI 0)))) 6) ((if nI 6 ≤ (zar w5.2 7 (Int32.toNatClampNeg ((zar w5.2 11 (Int32.toNatClampNeg (nI 0)))))) then M_X12_pressed_B168 w5.2 (nI 0) (((zsc w3.2 0 14) + nI 1)) else M_X12_pressed_B168 w5.2 (nI 1) (((zsc w3.2 0 14) + nI 1)))))))))) := by
    unfold M_X12_pressed
    rw [h14, show nI k + 1 = nI (k + 1) from nI_add k 1, es, ob_some]
    rfl
  rw [ep, e1, ob_some, ob_eta1, ob_eta1]
  obtain ⟨n, hn⟩ := zF_5
  by_cases c1 : sg tx L (k + 1) = nI 114
  · have c2 : ¬ sg tx L (k + 1) = nI 101 := by rw [c1]; decide
    refine ItO.eq ?_ (if_pos c1) (if_neg c2)
    have w0 : WF S (zP S 70 6 (nI 1)) := WF.zp (by decide)
    have o0 := o.zp (v := nI 1) (g := 6) (by decide)
    refine p_press hl hr K P0 hC hT hk g0 hT0 ?_
    have st := w_step (pk := pk) (t := 1) (j := 0) (by decide) (by decide) o0 (w0.ct hC) hk (hs.trans wb_p1.symm) (n + 19)
    have o1 : Ok (zP (zP S 70 6 (nI 1)) 70 3 (nI (k + 1))) (k + 1) := ⟨by rw [p_y, if_pos rfl], by rw [p_y, if_neg (by decide)]; exact o0.2⟩
    obtain ⟨S2, T2, y1, y2, y3, y4⟩ := p_word (pk := pk) (t := 1) (t' := 5) (by decide) (by decide) 4 1 0 (n + 19) zF (zP (zP S 70 6 (nI 1)) 70 3 (nI (k + 1))) (zP T 0 14 (nI (k + 1))) (k + 1) rfl rfl (by decide) (by omega) (by decide) ((CF.p (Or.inl rfl)).ct (w0.ct hC)) hT0 o1 z0 (by omega)
    refine ⟨S2, T2, ?_, (CF.p (Or.inl rfl)).trans y2, y3, ?_⟩
    · unfold M_X6_readWord
      rw [hn]
      exact st.trans y1
    · exact y4
  · refine ItO.eq ?_ (if_neg c1) rfl
    by_cases c2 : sg tx L (k + 1) = nI 101
    · refine ItO.eq ?_ rfl (if_pos c2)
      have g1 : TG T (zP (zP T 0 14 (nI (k + 1))) 0 14 (nI k)) := TG.zp.trans TG.zp
      exact (p_person hl (g1.rr hr) K P0 hC (g1.tt hT) o (by rw [p_y, if_pos rfl]) hk).from g1
    · refine ItO.eq ?_ rfl (if_neg c2)
      have w0 : WF S (zP S 70 6 (nI 0)) := WF.zp (by decide)
      have o0 := o.zp (v := nI 0) (g := 6) (by decide)
      have st := w_step (pk := pk) (t := 0) (j := 0) (by decide) (by decide) o0 (w0.ct hC) hk (hs.trans wb_p0.symm) (n + 19)
      have o1 : Ok (zP (zP S 70 6 (nI 0)) 70 3 (nI (k + 1))) (k + 1) := ⟨by rw [p_y, if_pos rfl], by rw [p_y, if_neg (by decide)]; exact o0.2⟩
      have w1 : WF S (zP (zP S 70 6 (nI 0)) 70 3 (nI (k + 1))) := w0.trans (WF.zp (by decide))
      have ms := w_miss (pk := pk) (t := 0) (j := 1) (by decide) (by decide) o1 (w1.ct hC) (by omega) (fun e => c2 (e.trans wb_e)) (n + 18) (show 6 < n + 18 by omega)
      have ew : M_X6_readWord pk (zP S 70 6 (nI 0)) 0 = some (zP (zP (zP S 70 6 (nI 0)) 70 3 (nI (k + 1))) 70 4 (nI (k + 1))) := by
        unfold M_X6_readWord
        rw [hn]
        exact st.trans ms
      have bd : Bad (zP (zP (zP S 70 6 (nI 0)) 70 3 (nI (k + 1))) 70 4 (nI (k + 1))) (k + 1) := ⟨by rw [p_y, if_pos rfl], by omega⟩
      have w2 : WF S (zP (zP (zP S 70 6 (nI 0)) 70 3 (nI (k + 1))) 70 4 (nI (k + 1))) := w1.trans (WF.zp (by decide))
      refine Or.inl (g0.bo (person_wb hl hn6 ew w2 bd) (w2.trans pBad_w) (pBad_b bd) ?_ z0)
      have wd : M_X12_word (zP T 0 14 (nI (k + 1))) 5 = some (nI 0, zP T 0 14 (nI (k + 1))) := by
        unfold M_X12_word
        rw [hn]
        show M_X12_word_B2 5 ((n + 19) + 1) _ (nI 0) = _
        have is0 : M_X12_is (zP T 0 14 (nI (k + 1))) (wb 5 0) = some (nI 0, zP T 0 14 (nI (k + 1))) := by
          unfold M_X12_is
          rw [es, ob_some]
          exact if_neg (fun e => c1 (e.trans wb_r))
        rw [M_X12_word_B2, wl_len _ (by decide), ob_some, if_neg (nI_ge (by decide) (by decide)), wb_ch _ (by decide) (by decide), ob_some, is0, ob_some]
        exact if_pos rfl
      rw [wd, ob_some]
      exact if_pos rfl
theorem p_item (hl : LL 1 pk S d) (hr : RR T d) (K : KK d) (P0 : PK pk S) (hC : CT tx L S) (hT : TT r tx L T) (o : Ok S k) (h14 : zsc T 0 14 = nI k) (hk : k ≤ L) : ItO pk S T k L (M_X6_readItem pk S) (M_X12_item T) := by
  have hL := hC.2.1
  unfold M_X6_readItem M_X12_item
  rw [o.1, l_sg hC (by omega), r_sg hT h14 (by omega), ob_some, ob_some]
  by_cases c1 : sg tx L k = nI 100
  · exact (p_dies hl hr K P0 hC hT o h14 hk).eq ((if_pos c1).trans (ob_eta1 _)) (if_pos c1)
  · refine ItO.eq ?_ (if_neg c1) (if_neg c1)
    by_cases c2 : sg tx L k = nI 108
    · exact (p_least hl hr K P0 hC hT o h14 hk).eq ((if_pos c2).trans (ob_eta1 _)) (if_pos c2)
    · refine ItO.eq ?_ (if_neg c2) (if_neg c2)
      by_cases c3 : sg tx L k = nI 112
      · have h := p_pressed hl hr K P0 hC hT o h14 hk c3
        exact h.eq ((if_pos c3).trans (by rw [show nI k + 1 = nI (k + 1) from nI_add k 1])) ((if_pos c3).trans (pr_wrap rfl h.ans))
      · refine ItO.eq ?_ (if_neg c3) (if_neg c3)
        by_cases c4 : sg tx L k = nI 114
        · exact (p_rub hl hr K P0 hC hT o h14 hk).eq ((if_pos c4).trans (ob_eta1 _)) (if_pos c4)
        · refine ItO.eq ?_ (if_neg c4) (if_neg c4)
          rw [fa_ok o.2]
          exact Or.inl ((TF.rf (i := 0)).tg.bo (S1 := zP S 70 4 (nI k)) rfl (WF.zp (by decide)) ⟨by rw [p_y, if_pos rfl], by omega⟩ rfl h14)
end IT5
