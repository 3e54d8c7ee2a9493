section LAN
variable {P : Nat → Prop} {pk pk' : Nat → Nat} {S S' T T' : zSt} {i k k1 k2 f r s L m v g n p q c : Nat} {a b a' b' a2 b2 : Int32} {tx : Nat → Int32} {d : zD}
theorem h_bad {kd t : Nat} (ht : t < 6) (hl : LL 1 pk S d) (hn : dn d ≤ 6) (h : Bad S f) (F : Int32 × zSt → Int32 → Option zSt) : Option.bind (M_X6_readWord pk (zP S 70 6 (nI kd)) t) (fun w1 => Option.bind (M_X6_readNumber pk w1 (nI 0) (zsc w1 63 3 - nI 1)) (fun w2 => Option.bind (M_X6_outOf pk (zP w2.2 70 7 w2.1) (zsc (zP w2.2 70 7 w2.1) 70 7)) (fun w3 => F w2 w3))) = F (-nI 1, zP S 70 6 (nI kd)) (nI 6) := by
  have b0 := h.zp (v := nI kd) (g := 6) (by decide)
  have w0 : WF S (zP S 70 6 (nI kd)) := WF.zp (by decide)
  have w1 : WF S (zP (zP S 70 6 (nI kd)) 70 7 (-nI 1)) := w0.trans (WF.zp (by decide))
  rw [w_bad ht b0, ob_some, nb_bad b0, ob_some]
  dsimp only
  rw [p_y, if_pos rfl, l_outN (w1.ll hn hl), ob_some]
theorem i_bad (hl : LL 1 pk S d) (hn : dn d ≤ 6) (h : Bad S f) : ∃ S', M_X6_readItem pk S = some S' ∧ WF S S' ∧ Bad S' f := by
  obtain ⟨v, ev⟩ := l_sgT (pk := pk) S (zsc S 70 3)
  unfold M_X6_readItem
  rw [ev, ob_some]
  have w6 : ∀ x, WF S (zP S 70 6 x) := fun x => WF.zp (by decide)
  have w7 : ∀ x y, WF S (zP (zP S 70 6 x) 70 7 y) := fun x y => (w6 x).trans (WF.zp (by decide))
  have b6 : ∀ x, Bad (zP S 70 6 x) f := fun x => h.zp (by decide)
  have b7 : ∀ x y, Bad (zP (zP S 70 6 x) 70 7 y) f := fun x y => (b6 x).zp (by decide)
  by_cases c1 : v = nI 100
  · refine ⟨zP (zP S 70 6 (nI 3)) 70 7 (-nI 1), (if_pos c1).trans ((ob_eta1 _).trans ?_), w7 _ _, b7 _ _⟩
    refine (h_bad (kd := 3) (t := 3) (by decide) hl hn h (fun (w2 : Int32 × zSt) (w3 : Int32) => (if w3 < nI 6 then some ((zP w2.2 70 7 w2.1)) else Option.bind (M_X6_faultAt pk ((zP w2.2 70 7 w2.1)) ((zsc ((zP w2.2 70 7 w2.1)) 70 5))) (fun w5 => some w5)))).trans ?_
    refine (if_neg (by decide)).trans ?_
    rw [fa_bad (b7 _ _)]
    rfl
  · have n1 : ∀ x y : Option zSt, (if v = 100 then x else y) = y := fun x y => if_neg c1
    rw [n1]
    by_cases c2 : v = nI 108
    · refine ⟨zP (zP S 70 6 (nI 4)) 70 7 (-nI 1), (if_pos c2).trans ((ob_eta1 _).trans ?_), w7 _ _, b7 _ _⟩
      unfold M_X6_readLeast
      rw [show (4 : Int32) = nI 4 from rfl, w_bad (by decide) (b6 _), ob_some, nb_bad (b6 _), ob_some]
    · have n2 : ∀ x y : Option zSt, (if v = 108 then x else y) = y := fun x y => if_neg c2
      rw [n2]
      by_cases c3 : v = nI 112
      · obtain ⟨u, eu⟩ := l_sgT (pk := pk) S (zsc S 70 3 + 1)
        rw [show ∀ x y : Option zSt, (if v = 112 then x else y) = x from fun x y => if_pos c3, eu, ob_some, ob_eta1, ob_eta1]
        by_cases c5 : u = nI 114
        · refine ⟨zP (zP (zP (zP S 70 6 (nI 1)) 70 7 (-nI 1)) 70 8 (-nI 1)) 70 9 (-nI 1), (if_pos c5).trans ?_, ((w7 _ _).trans (WF.zp (by decide))).trans (WF.zp (by decide)), ((b7 _ _).zp (by decide)).zp (by decide)⟩
          refine (h_bad (kd := 1) (t := 1) (by decide) hl hn h (fun (w2 : Int32 × zSt) (w3 : Int32) => (if w3 < nI 6 then M_X6_readPress_B50 pk ((zP w2.2 70 7 w2.1)) else Option.bind (M_X6_faultAt pk ((zP w2.2 70 7 w2.1)) ((zsc ((zP w2.2 70 7 w2.1)) 70 5))) (fun w7 => M_X6_readPress_B50 pk w7)))).trans ?_
          refine (if_neg (by decide)).trans ?_
          rw [fa_bad (b7 _ _), ob_some]
          exact two_bad (b7 _ _) _ _ _ _
        · exact ⟨pBad (zP S 70 6 (nI 0)), (if_neg c5).trans (person_wb hl hn (w_bad (by decide) (b6 _)) (w6 _) (b6 _)), (w6 _).trans pBad_w, pBad_b (b6 _)⟩
      · have n3 : ∀ x y : Option zSt, (if v = 112 then x else y) = y := fun x y => if_neg c3
        rw [n3]
        by_cases c4 : v = nI 114
        · refine ⟨zP (zP (zP (zP S 70 6 (nI 2)) 70 7 (-nI 1)) 70 8 (-nI 1)) 70 9 (-nI 1), (if_pos c4).trans ((ob_eta1 _).trans ?_), ((w7 _ _).trans (WF.zp (by decide))).trans (WF.zp (by decide)), ((b7 _ _).zp (by decide)).zp (by decide)⟩
          refine (h_bad (kd := 2) (t := 2) (by decide) hl hn h (fun (w2 : Int32 × zSt) (w3 : Int32) => Option.bind (M_X6_readNumber pk ((zP w2.2 70 7 w2.1)) w3 (nI 5)) (fun w4 => Option.bind (M_X6_readNumber pk ((zP w4.2 70 8 w4.1)) (nI 0) (nI 7)) (fun w5 => some ((zP w5.2 70 9 w5.1)))))).trans ?_
          exact two_bad (b7 _ _) _ _ _ _
        · exact ⟨S, (if_neg c4).trans (by rw [fa_bad h]; rfl), WF.rf, h⟩
/-! all items -/
def zL7 (k : Nat) : Prop := k = 70 ∨ zL1 1 k
def ldFin (T : zSt) : Option (Int32 × zSt) := Option.bind (M_X12_again ((zP T 0 15 ((zsc T 0 14)))) 15) (fun w5 => Option.bind (M_X12_no w5 (-6)) (fun w6 => some (w6.1, w6.2)))
def LdO (pk : Nat → Nat) (S T : zSt) (o1 : Option (Int32 × (Nat → Nat) × zSt)) (o2 : Option (Int32 × zSt)) : Prop := ∃ c pk' S' T', o1 = some (nI c, pk', S') ∧ PK pk' S' ∧ zFr zL7 S S' ∧ (∀ q, q / 6 ≠ 1 → pk' q = pk q) ∧ zFr zRd T T' ∧ (∀ g, g ≠ 3 → g ≠ 11 → g ≠ 14 → zsc T' 0 g = zsc T 0 g) ∧ ((∃ d', zsc S' 70 4 = -nI 1 ∧ LL 1 pk' S' d' ∧ KK d' ∧ RR T' d' ∧ o2 = some (nI c, zP T' 0 15 (-nI 1)) ∧ ∀ n, n ≤ 6 → zsc T 0 3 = nI n → n ≤ dn d') ∨ (∃ f, Bad S' f ∧ zsc T' 0 14 = nI f ∧ o2 = ldFin T'))
theorem ld_st (n : Nat) (T : zSt) (x1 x3 : Int32) : M_X12_land_B39 (n + 1) T x1 x3 (nI 0) = ldFin T := nr rfl
theorem ld_it (n : Nat) (T : zSt) (x1 x3 : Int32) : M_X12_land_B39 (n + 1) T x1 x3 (nI 1) = Option.bind (M_X12_item T) (fun w7 => (if w7.1 = nI 0 then M_X12_land_B58 (fun S_ x1_ x3_ x4_ => M_X12_land_B39 n S_ x1_ x3_ x4_) w7.2 x1 x3 w7.1 else M_X12_land_B58 (fun S_ x1_ x3_ x4_ => M_X12_land_B39 n S_ x1_ x3_ x4_) w7.2 x1 ((x3 + nI 1)) w7.1)) := nr rfl
theorem zRd.tt (h : zFr zRd T T') (h13 : zsc T' 0 13 = zsc T 0 13) (hc : TT r tx L T) : TT r tx L T' := ⟨h13.trans hc.1, hc.2.1, by rw [h.ar (by unfold zRd; omega)]; exact hc.2.2.1, hc.2.2.2.1, by rw [h.lo (by unfold zRd; omega)]; exact hc.2.2.2.2⟩
theorem p_loop (s1 : Nat) : ∀ (m k n n' c : Nat) (pk : Nat → Nat) (S T : zSt) (d : zD), L < k + m → m + 2 < n → m + 2 < n' → LL 1 pk S d → RR T d → KK d → PK pk S → CT tx L S → TT r tx L T → Ok S k → zsc T 0 14 = nI k → k ≤ L → c ≤ k → LdO pk S T (M_X6_readFrom_B55 s1 n pk S (161 - c) (nI c) (nI c)) (M_X12_land_B39 n' T (nI r) (nI c) (nI 1)) := by
  intro m
  induction m with
  | zero => intro k n n' c pk S T d h; intros; omega
  | succ m ih =>
    intro k n n' c pk S T d hm hn hn' hl hr K P0 hC hT o h14 hk hc
    obtain ⟨n, rfl⟩ : ∃ r, n = r + 2 := ⟨n - 2, by omega⟩
    obtain ⟨n', rfl⟩ : ∃ r, n' = r + 2 := ⟨n' - 2, by omega⟩
    have hL := hC.2.1
    have hn6 := K.1
    have c160 : ¬ nI 160 < nI c := nI_nlt (by omega) (by omega)
    rcases p_item hl hr K P0 hC hT o h14 hk with ⟨f, S1, T1, e1, w, b, e2, z, fr, h0⟩ | ⟨k2, d', pk', S1, S2, T1, e1, w, o1, k12, k2L, e3, l2, r2, K2, P2, f2, kq, e2, z, fr, h0, nm⟩
    · refine ⟨c, pk, S1, T1, ?_, w.pkk P0, w.1.mono (fun k e => Or.inl e), fun _ _ => rfl, fr.mono (fun k e => by unfold zRd; omega), fun g _ _ q => h0 g q, Or.inr ⟨f, b, z, ?_⟩⟩
      · rw [M_X6_readFrom_B55]
        refine (if_neg c160).trans ?_
        rw [e1, ob_some]
        exact if_neg b.ne
      · rw [ld_it, e2, ob_some]
        exact (if_pos rfl).trans (ld_st n' T1 (nI r) (nI c))
    · have hC2 : CT tx L S2 := by
        obtain ⟨x1, x2, x3⟩ := w.ct hC
        exact ⟨by rw [f2.sc (by unfold zL1 zZ; omega)]; exact x1, x2, fun j hj => by rw [f2.ar (by unfold zL1 zZ; omega)]; exact x3 j hj⟩
      have o2 : Ok S2 k2 := ⟨by rw [f2.sc (by unfold zL1 zZ; omega)]; exact o1.1, by rw [f2.sc (by unfold zL1 zZ; omega)]; exact o1.2⟩
      have hT1 : TT r tx L T1 := zRd.tt fr (h0 13 (by decide) (by decide) (by decide)) hT
      have F2 : zFr zL7 S S2 := (w.1.mono (fun k e => Or.inl e)).trans (f2.mono (fun k e => Or.inr e))
      have cls : M_X6_readFrom_B55 s1 (n + 2) pk S (161 - c) (nI c) (nI c) = (if (zsc S2 70 3) < (zsc S2 70 2) then Option.bind (M_X6_readLetter pk' S2 59) (fun w10 => M_X6_readFrom_B55 s1 (n + 1) pk' w10 (161 - (c + 1)) (nI (c + 1)) (nI (c + 1))) else some (nI (c + 1), pk', S2)) := by
        rw [M_X6_readFrom_B55]
        refine (if_neg c160).trans ?_
        rw [e1, ob_some]
        refine (if_pos o1.2).trans ?_
        rw [decide_eq_true (show 1 ≤ 161 - c by omega), zg_true, e3, ob_some, show 161 - c - 1 = 161 - (c + 1) by omega, show nI c + 1 = nI (c + 1) from nI_add c 1]
        rfl
      have ref : M_X12_land_B39 (n' + 2) T (nI r) (nI c) (nI 1) = (if (zsc T1 0 14) = (zar T1 2 r) then some (nI (c + 1), (zP T1 0 15 (-1))) else Option.bind (M_X12_is T1 59) (fun w11 => M_X12_land_B39 (n' + 1) w11.2 (nI r) (nI (c + 1)) w11.1)) := by
        rw [ld_it, e2, ob_some]
        refine (if_neg (show ¬ nI 1 = nI 0 by decide)).trans ?_
        unfold M_X12_land_B58 M_X12_land_B83
        refine (if_neg (show ¬ nI 1 = nI 0 by decide)).trans ?_
        rw [zg_in hT.2.1 (by decide), c_cl (by have := hT.2.1; omega), show nI c + nI 1 = nI (c + 1) from nI_add c 1]
        rfl
      rw [cls, ref, o2.1, hC2.1, z, hT1.2.2.1]
      by_cases e : k2 = L
      · subst e
        rw [if_neg Int32.lt_irrefl, if_pos rfl]
        exact ⟨c + 1, pk', S2, T1, rfl, P2, F2, kq, fr, h0, Or.inl ⟨d', o2.2, l2, K2, r2, rfl, nm⟩⟩
      · rw [if_pos (nI_lt (by omega) (by omega)), if_neg (fun q => e ((nI_eq (by omega) (by omega)).mp q))]
        obtain ⟨S3, T3, e4, c3, f3, q⟩ := p_sign (pk := pk') hC2 hT1 o2 z k2L (c := nI 59) (by decide)
        have w3 := c3.w
        have F3 : zFr zL7 S S3 := F2.trans (w3.1.mono (fun k e => Or.inl e))
        have G3 : zFr zRd T T3 := fr.trans (f3.1.mono (fun k e => by unfold zRd; omega))
        have H3 : ∀ g, g ≠ 3 → g ≠ 11 → g ≠ 14 → zsc T3 0 g = zsc T 0 g := fun g a b x => (f3.2.1 g x).trans (h0 g a b x)
        rw [show (59 : Int32) = nI 59 from rfl, e4, ob_some]
        rcases q with ⟨o3, kl, z3, e5⟩ | ⟨b3, z3, e5⟩
        · rw [e5, ob_some]
          obtain ⟨c', pk3, S4, T4, x1, x2, x3, x4, x5, x6, x7⟩ := ih (k2 + 1) (n + 1) (n' + 1) (c + 1) pk' S3 T3 d' (by omega) (by omega) (by omega) (w3.ll K2.1 l2) (f3.tg.rr r2) K2 (w3.pkk P2) (w3.ct hC2) (f3.tt hT1) o3 z3 (by omega) (by omega)
          exact ⟨c', pk3, S4, T4, x1, x2, F3.trans x3, fun q hq => (x4 q hq).trans (kq q hq), G3.trans x5, fun g a b x => (x6 g a b x).trans (H3 g a b x), by
            rcases x7 with ⟨dd, u1, u2, u3, u4, u5, u6⟩ | y
            · exact Or.inl ⟨dd, u1, u2, u3, u4, u5, fun n h1 h2 => Nat.le_trans (nm n h1 h2) (u6 _ K2.1 ((f3.2.1 3 (by decide)).trans r2.1))⟩
            · exact Or.inr y⟩
        · rw [e5, ob_some]
          obtain ⟨S4, e6, w4, b4⟩ := i_bad (w3.ll K2.1 l2) K2.1 b3
          refine ⟨c + 1, pk', S4, T3, ?_, w4.pkk (w3.pkk P2), F3.trans (w4.1.mono (fun k e => Or.inl e)), kq, G3, H3, Or.inr ⟨k2, b4, z3, ld_st n' T3 _ _⟩⟩
          rw [M_X6_readFrom_B55]
          refine (if_neg (show ¬ nI 160 < nI (c + 1) from nI_nlt (by omega) (by omega))).trans ?_
          rw [e6, ob_some]
          exact if_neg b4.ne
end LAN
