/-! ROWS over the state: a field, a row's place, a call, an end -/
section ZR
variable {p : Program} {l : Launch} {e : Env} {R : Room} {s : State} {m : MethodId} {args : Array Value} {below : List Frame} {meth : Method} {c : Code} {H : Heap} {locs : List Loc} {cells slots : Nat} {Q : State → Prop}
variable {cc : ByteArray} {nL : Nat} {ret : Option FieldType} {own : String} {ws : List Cond} {pc : Nat} {ls : Array Slot} {rest : List Value} {D : va_G} {Y : Nat → ClassId} {F : Nat → Nat} {A : Nat → Prop} {G : zG} {S : zSt}
theorem z_get (C0 : zCx p s m args meth c D Y F A own cc nL ret ws) {C : String} {T : u_T} {N : Nat} (hin : ∀ w ∈ u_ws C T N, w ∈ ws) (hw : zH D Y F A G S H) {k ci : Nat} {fs : List Value} (hE : zE G k = true) {a : Nat} (ha : zad F G k = a) (hB : zB Y F G S k = .inr (ci, fs)) (hc : vwCl[ci]? = some (C, T, N)) (f : Nat) (hf : f < N) {v : Value} (hv : fs[f]? = some v) (i : Nat) {index : Nat} (hlink : ws[i]? = some (Cond.fieldLink own index (T f).1 (T f).2.1 (T f).2.2.1)) (hdg : decode cc pc = .ok (.getfield index, 3))
    (kk : W p l e R s m args below meth c H locs cells slots Q (F0 m (pc + 3) ls (v :: rest))) : W p l e R s m args below meth c H locs cells slots Q (F0 m pc ls (.ref a :: rest)) := by
  obtain ⟨hx, hb, hml, hr, hown, hts, hK, hA, hlk, hN⟩ := C0
  subst ha
  have hP := hw.one hE
  rw [hB] at hP
  exact va_get hx hb hts hin hown hK hP 0 rfl hc f hf (hts _ (List.mem_of_getElem? hlink)) (fun _ h => h) hv hdg kk
theorem z_put (C0 : zCx p s m args meth c D Y F A own cc nL ret ws) {C : String} {T : u_T} {N : Nat} (hin : ∀ w ∈ u_ws C T N, w ∈ ws) (tyv : Nat → FieldType) (hty : ∀ k, k < N → parseFieldDescriptor (T k).2.2.1 = some (tyv k)) (hnm : ∀ a, a < N → ∀ b, b < N → a ≠ b → (T a).2.1 ≠ (T b).2.1) (hw : zH D Y F A G S H) (hS : va_S A s.heap H locs) {k ci : Nat} {fs : List Value} (hE : zE G k = true) {a : Nat} (ha : zad F G k = a) (hB : zB Y F G S k = .inr (ci, fs)) (hc : vwCl[ci]? = some (C, T, N)) (f : Nat) (hf : f < N) (i : Nat) {index : Nat} (hlink : ws[i]? = some (Cond.fieldLink own index (T f).1 (T f).2.1 (T f).2.2.1)) (hfin : (T f).2.2.2 = false) {ty : FieldType} {v : Int32} (hd : parseFieldDescriptor (T f).2.2.1 = some ty) (hn : narrow ty (.int v) = .int v) (hfit : fits ty (.int v) = true) (hl : f < fs.length) (hB' : zB Y F G (zP S k f v) k = .inr (ci, fs.set f (.int v))) (hdg : decode cc pc = .ok (.putfield index, 3))
    (kk : ∀ (H1 : Heap) (locs1 : List Loc), zH D Y F A G (zP S k f v) H1 → va_S A s.heap H1 locs1 → W p l e R s m args below meth c H1 locs1 cells slots Q (F0 m (pc + 3) ls rest)) : W p l e R s m args below meth c H locs cells slots Q (F0 m pc ls (.int v :: .ref a :: rest)) := by
  obtain ⟨hx, hb, hml, hr, hown, hts, hK, hA, hlk, hN⟩ := C0
  subst ha
  obtain ⟨q, hq, hi⟩ := zAt (Y := Y) (F := F) (S := S) hE
  rw [hB] at hq
  refine va_put hx hb hts hin tyv hty hnm hown hK hw.1 hw.2 hS q hq hc f hf (hts _ (List.mem_of_getElem? hlink)) (fun _ h => h) hfin hd hn hfit hl hdg (fun H1 locs1 h1 h2 h3 => kk H1 locs1 ?_ h3)
  rw [zW_set (S' := zP S k f v) hi zB_P hB'] at h1 h2
  exact ⟨h1, h2⟩
theorem z_iald (C0 : zCx p s m args meth c D Y F A own cc nL ret ws) (hw : zH D Y F A G S H) (k : Nat) (hE : zE G k = true) {a : Nat} (ha : zad F G k = a) {n : Nat} (hR : zRi k n) {i : Int32} (hin : vp_in i n) (hdg : decode cc pc = .ok (.iaload, 1))
    (kk : W p l e R s m args below meth c H locs cells slots Q (F0 m (pc + 1) ls (.int (zar S k i.toNatClampNeg) :: rest))) : W p l e R s m args below meth c H locs cells slots Q (F0 m pc ls (.int i :: .ref a :: rest)) := by
  obtain ⟨hx, hb, hml, hr, hown, hts, hK, hA, hlk, hN⟩ := C0
  subst ha
  have hP := hw.one hE
  rw [show zB Y F G S k = .inl (Y 0, n, .inl (zar S k)) from hR _ _ _ _ _ _] at hP
  exact va_iald hx hb hK hP 0 0 rfl rfl hin hdg kk
theorem z_lald (C0 : zCx p s m args meth c D Y F A own cc nL ret ws) (hw : zH D Y F A G S H) (k : Nat) (hE : zE G k = true) {a : Nat} (ha : zad F G k = a) {n : Nat} (hR : zRl k n) {i : Int32} (hin : vp_in i n) (hdg : decode cc pc = .ok (.laload, 1))
    (kk : W p l e R s m args below meth c H locs cells slots Q (F0 m (pc + 1) ls (.long (zlo S k i.toNatClampNeg) :: rest))) : W p l e R s m args below meth c H locs cells slots Q (F0 m pc ls (.int i :: .ref a :: rest)) := by
  obtain ⟨hx, hb, hml, hr, hown, hts, hK, hA, hlk, hN⟩ := C0
  subst ha
  have hP := hw.one hE
  rw [show zB Y F G S k = .inl (Y 1, n, .inr (.inl (zlo S k))) from hR _ _ _ _ _ _] at hP
  exact va_lald hx hb hK hP 0 1 rfl rfl hin hdg kk
theorem z_iast (C0 : zCx p s m args meth c D Y F A own cc nL ret ws) (hw : zH D Y F A G S H) (hS : va_S A s.heap H locs) (k : Nat) (hE : zE G k = true) {a : Nat} (ha : zad F G k = a) {n : Nat} (hR : zRi k n) {i v : Int32} (hin : vp_in i n) (hdg : decode cc pc = .ok (.iastore, 1))
    (kk : ∀ (H1 : Heap) (locs1 : List Loc), zH D Y F A G (zA S k (upd (zar S k) i.toNatClampNeg v)) H1 → va_S A s.heap H1 locs1 → W p l e R s m args below meth c H1 locs1 cells slots Q (F0 m (pc + 1) ls rest)) : W p l e R s m args below meth c H locs cells slots Q (F0 m pc ls (.int v :: .int i :: .ref a :: rest)) := by
  obtain ⟨hx, hb, hml, hr, hown, hts, hK, hA, hlk, hN⟩ := C0
  subst ha
  obtain ⟨q, hq, hi⟩ := zAt (Y := Y) (F := F) (S := S) hE
  rw [show zB Y F G S k = .inl (Y 0, n, .inl (zar S k)) from hR _ _ _ _ _ _] at hq
  refine va_iast hx hb hK hw.1 hw.2 hS q 0 hq rfl hin hdg (fun H1 locs1 h1 h2 h3 => kk H1 locs1 ?_ h3)
  rw [zW_set (S' := zA S k (upd (zar S k) i.toNatClampNeg v)) hi zB_A ((hR _ _ _ _ _ _).trans (by rw [zA_ar']))] at h1 h2
  exact ⟨h1, h2⟩
theorem z_last (C0 : zCx p s m args meth c D Y F A own cc nL ret ws) (hw : zH D Y F A G S H) (hS : va_S A s.heap H locs) (k : Nat) (hE : zE G k = true) {a : Nat} (ha : zad F G k = a) {n : Nat} (hR : zRl k n) {i : Int32} {v : Int64} (hin : vp_in i n) (hdg : decode cc pc = .ok (.lastore, 1))
    (kk : ∀ (H1 : Heap) (locs1 : List Loc), zH D Y F A G (zL S k (vp_updL (zlo S k) i.toNatClampNeg v)) H1 → va_S A s.heap H1 locs1 → W p l e R s m args below meth c H1 locs1 cells slots Q (F0 m (pc + 1) ls rest)) : W p l e R s m args below meth c H locs cells slots Q (F0 m pc ls (.long v :: .int i :: .ref a :: rest)) := by
  obtain ⟨hx, hb, hml, hr, hown, hts, hK, hA, hlk, hN⟩ := C0
  subst ha
  obtain ⟨q, hq, hi⟩ := zAt (Y := Y) (F := F) (S := S) hE
  rw [show zB Y F G S k = .inl (Y 1, n, .inr (.inl (zlo S k))) from hR _ _ _ _ _ _] at hq
  refine va_last hx hb hK hw.1 hw.2 hS q 1 hq rfl hin hdg (fun H1 locs1 h1 h2 h3 => kk H1 locs1 ?_ h3)
  rw [zW_set (S' := zL S k (vp_updL (zlo S k) i.toNatClampNeg v)) hi zB_L ((hR _ _ _ _ _ _).trans (by rw [zL_lo']))] at h1 h2
  exact ⟨h1, h2⟩
theorem z_alen (C0 : zCx p s m args meth c D Y F A own cc nL ret ws) (hw : zH D Y F A G S H) (k : Nat) (hE : zE G k = true) {a : Nat} (ha : zad F G k = a) {n : Nat} (hR : zRi k n) {v : Int32} (hv : Int32.ofNat n = v) (hdg : decode cc pc = .ok (.arraylength, 1))
    (kk : W p l e R s m args below meth c H locs cells slots Q (F0 m (pc + 1) ls (.int v :: rest))) : W p l e R s m args below meth c H locs cells slots Q (F0 m pc ls (.ref a :: rest)) := by
  obtain ⟨hx, hb, hml, hr, hown, hts, hK, hA, hlk, hN⟩ := C0
  subst ha
  have hP := hw.one hE
  rw [show zB Y F G S k = .inl (Y 0, n, .inl (zar S k)) from hR _ _ _ _ _ _] at hP
  exact va_alen hx hb hK hP 0 0 rfl rfl hv hdg kk
theorem z_reti (C0 : zCx p s m args meth c D Y F A own cc nL (some .int) ws) (hw : zH D Y F A G S H) (hS : va_S A s.heap H locs) {v : Int32} {res : Int32 × zSt} (hres : (v, S) = res) (hdg : decode cc pc = .ok (.ireturn, 1)) : W p l e R s m args below meth c H locs cells slots (MQ below (zQi D Y F A G res) args s cells slots A) (F0 m pc ls [.int v]) := by
  obtain ⟨hx, hb, hml, hr, hown, hts, hK, hA, hlk, hN⟩ := C0
  exact W.iret hx hb hr (fun t ht hW => ⟨⟨v, S, rfl, hres, by unfold zU; rw [ht]; exact ⟨hw, va_K.moved hW.alike hK⟩⟩, hS.F ht⟩) hS.2.2 hdg (hlocks := hlk)
theorem z_retz {ty : FieldType} (C0 : zCx p s m args meth c D Y F A own cc nL (some ty) ws) (hw : zH D Y F A G S H) (hS : va_S A s.heap H locs) {v : Int32} {res : Int32 × zSt} (hn : narrow ty (.int v) = .int v) (hres : (v, S) = res) (hdg : decode cc pc = .ok (.ireturn, 1)) : W p l e R s m args below meth c H locs cells slots (MQ below (zQi D Y F A G res) args s cells slots A) (F0 m pc ls [.int v]) := by
  obtain ⟨hx, hb, hml, hr, hown, hts, hK, hA, hlk, hN⟩ := C0
  exact W.zret hx hb hr hn (fun t ht hW => ⟨⟨v, S, rfl, hres, by unfold zU; rw [ht]; exact ⟨hw, va_K.moved hW.alike hK⟩⟩, hS.F ht⟩) hS.2.2 hdg (hlocks := hlk)
theorem z_retl (C0 : zCx p s m args meth c D Y F A own cc nL (some .long) ws) (hw : zH D Y F A G S H) (hS : va_S A s.heap H locs) {v : Int64} {res : Int64 × zSt} (hres : (v, S) = res) (hdg : decode cc pc = .ok (.lreturn, 1)) : W p l e R s m args below meth c H locs cells slots (MQ below (zQl D Y F A G res) args s cells slots A) (F0 m pc ls [.long v]) := by
  obtain ⟨hx, hb, hml, hr, hown, hts, hK, hA, hlk, hN⟩ := C0
  exact W.lret hx hb hr (fun t ht hW => ⟨⟨v, S, rfl, hres, by unfold zU; rw [ht]; exact ⟨hw, va_K.moved hW.alike hK⟩⟩, hS.F ht⟩) hS.2.2 hdg (hlocks := hlk)
theorem z_retv (C0 : zCx p s m args meth c D Y F A own cc nL none ws) (hw : zH D Y F A G S H) (hS : va_S A s.heap H locs) {res : zSt} (hres : S = res) (hdg : decode cc pc = .ok (.return_, 1)) : W p l e R s m args below meth c H locs cells slots (MQ below (zQv D Y F A G res) args s cells slots A) (F0 m pc ls []) := by
  obtain ⟨hx, hb, hml, hr, hown, hts, hK, hA, hlk, hN⟩ := C0
  exact W.vret hx hb hr (fun t ht hW => ⟨⟨S, rfl, hres, by unfold zU; rw [ht]; exact ⟨hw, va_K.moved hW.alike hK⟩⟩, hS.F ht⟩) hS.2.2 hdg (hlocks := hlk)
/-- a computed number under another name -/
theorem z_top {x y : Int32} (h : x = y) (kk : W p l e R s m args below meth c H locs cells slots Q (F0 m pc ls (.int y :: rest))) : W p l e R s m args below meth c H locs cells slots Q (F0 m pc ls (.int x :: rest)) := h ▸ kk
section ZC
variable {y : MethodName} {ws2 : List Cond} {rm : Room} {mc ms n index maxL : Nat} {bytes : ByteArray} {ret2 : Option FieldType} {As st : List Value} {A' : Nat → Prop}
theorem z_callVi (C0 : zCx p s m args meth c D Y F A own cc nL ret ws) (hw : zH D Y F A G S H) (hS : va_S A s.heap H locs) {C : String} {T : u_T} {N k ci : Nat} {fs : List Value} (hE : zE G k = true) {a : Nat} (ha : zad F G k = a) (hB : zB Y F G S k = .inr (ci, fs)) (hc : vwCl[ci]? = some (C, T, N)) {res : Int32 × zSt}
    (hM : Met l y ws2 rm (zPc D Y F G S H.size (.ref a :: As)) (zQi D Y F (zAo F G H.size) G res) mc ms (zAo F G H.size)) (cw : CallW R s args own C index y bytes maxL ret2 ws2 rm mc ms n) (hn : As.length = n) (hsz : ls.size = nL) (hst : st = As.reverse ++ .ref a :: rest) (hrest : (rest.map fun v => v.category).sum ≤ 8) (hdg : decode cc pc = .ok (.invokevirtual index, 3)) (hf : cells + mc ≤ R.cells ∧ slots + ms ≤ R.slots)
    (kk : ∀ (H1 : Heap) (locs1 : List Loc), zH D Y F A G res.2 H1 → va_S A s.heap H1 locs1 → W p l e R s m args below meth c H1 locs1 (cells + mc) (slots + ms) Q (F0 m (pc + 3) ls (.int res.1 :: rest))) : W p l e R s m args below meth c H locs cells slots Q (F0 m pc ls st) := by
  obtain ⟨hx, hb, hml, hr, hown, hts, hK, hA, hlk, hN⟩ := C0
  subst ha
  have hsub := zAo_sub hw hS hA
  have hP := hw.one hE
  rw [hB] at hP
  subst hst
  refine va_calli (va_runV ⟨hx, hb, hml, hown, hts⟩ hM cw ⟨zPc_blind, va_recv hK hP hc (q0 := 0) rfl, fun U hU hW => ⟨rfl, by rw [hU], by rw [hU]; exact hw.weaken (fun _ _ => trivial), va_K.moved hW.alike hK, zN_call hN hS hsub hW hU⟩⟩ rfl hn hsz rfl (lv_room hrest) hdg hf) hS (fun q _ h => hsub q h) hsub (fun r u t H1 locs1 ht hvm hp hU _ _ hS1 => ?_)
  subst hp
  subst ht
  exact kk _ locs1 (hU.1.weaken hsub) hS1
theorem z_callVl (C0 : zCx p s m args meth c D Y F A own cc nL ret ws) (hw : zH D Y F A G S H) (hS : va_S A s.heap H locs) {C : String} {T : u_T} {N k ci : Nat} {fs : List Value} (hE : zE G k = true) {a : Nat} (ha : zad F G k = a) (hB : zB Y F G S k = .inr (ci, fs)) (hc : vwCl[ci]? = some (C, T, N)) {res : Int64 × zSt}
    (hM : Met l y ws2 rm (zPc D Y F G S H.size (.ref a :: As)) (zQl D Y F (zAo F G H.size) G res) mc ms (zAo F G H.size)) (cw : CallW R s args own C index y bytes maxL ret2 ws2 rm mc ms n) (hn : As.length = n) (hsz : ls.size = nL) (hst : st = As.reverse ++ .ref a :: rest) (hrest : (rest.map fun v => v.category).sum ≤ 8) (hdg : decode cc pc = .ok (.invokevirtual index, 3)) (hf : cells + mc ≤ R.cells ∧ slots + ms ≤ R.slots)
    (kk : ∀ (H1 : Heap) (locs1 : List Loc), zH D Y F A G res.2 H1 → va_S A s.heap H1 locs1 → W p l e R s m args below meth c H1 locs1 (cells + mc) (slots + ms) Q (F0 m (pc + 3) ls (.long res.1 :: rest))) : W p l e R s m args below meth c H locs cells slots Q (F0 m pc ls st) := by
  obtain ⟨hx, hb, hml, hr, hown, hts, hK, hA, hlk, hN⟩ := C0
  subst ha
  have hsub := zAo_sub hw hS hA
  have hP := hw.one hE
  rw [hB] at hP
  subst hst
  refine va_calll (va_runV ⟨hx, hb, hml, hown, hts⟩ hM cw ⟨zPc_blind, va_recv hK hP hc (q0 := 0) rfl, fun U hU hW => ⟨rfl, by rw [hU], by rw [hU]; exact hw.weaken (fun _ _ => trivial), va_K.moved hW.alike hK, zN_call hN hS hsub hW hU⟩⟩ rfl hn hsz rfl (lv_room hrest) hdg hf) hS (fun q _ h => hsub q h) hsub (fun r u t H1 locs1 ht hvm hp hU _ _ hS1 => ?_)
  subst hp
  subst ht
  exact kk _ locs1 (hU.1.weaken hsub) hS1
theorem z_callVv (C0 : zCx p s m args meth c D Y F A own cc nL ret ws) (hw : zH D Y F A G S H) (hS : va_S A s.heap H locs) {C : String} {T : u_T} {N k ci : Nat} {fs : List Value} (hE : zE G k = true) {a : Nat} (ha : zad F G k = a) (hB : zB Y F G S k = .inr (ci, fs)) (hc : vwCl[ci]? = some (C, T, N)) {res : zSt}
    (hM : Met l y ws2 rm (zPc D Y F G S H.size (.ref a :: As)) (zQv D Y F (zAo F G H.size) G res) mc ms (zAo F G H.size)) (cw : CallW R s args own C index y bytes maxL ret2 ws2 rm mc ms n) (hn : As.length = n) (hsz : ls.size = nL) (hst : st = As.reverse ++ .ref a :: rest) (hrest : (rest.map fun v => v.category).sum ≤ 8) (hdg : decode cc pc = .ok (.invokevirtual index, 3)) (hf : cells + mc ≤ R.cells ∧ slots + ms ≤ R.slots)
    (kk : ∀ (H1 : Heap) (locs1 : List Loc), zH D Y F A G res H1 → va_S A s.heap H1 locs1 → W p l e R s m args below meth c H1 locs1 (cells + mc) (slots + ms) Q (F0 m (pc + 3) ls rest)) : W p l e R s m args below meth c H locs cells slots Q (F0 m pc ls st) := by
  obtain ⟨hx, hb, hml, hr, hown, hts, hK, hA, hlk, hN⟩ := C0
  subst ha
  have hsub := zAo_sub hw hS hA
  have hP := hw.one hE
  rw [hB] at hP
  subst hst
  refine va_callv (va_runV ⟨hx, hb, hml, hown, hts⟩ hM cw ⟨zPc_blind, va_recv hK hP hc (q0 := 0) rfl, fun U hU hW => ⟨rfl, by rw [hU], by rw [hU]; exact hw.weaken (fun _ _ => trivial), va_K.moved hW.alike hK, zN_call hN hS hsub hW hU⟩⟩ rfl hn hsz rfl (lv_room hrest) hdg hf) hS (fun q _ h => hsub q h) hsub (fun u t H1 locs1 ht hvm hp hU _ _ hS1 => ?_)
  subst hp
  subst ht
  exact kk _ locs1 (hU.1.weaken hsub) hS1
theorem z_callSi (C0 : zCx p s m args meth c D Y F A own cc nL ret ws) (hw : zH D Y F A G S H) (hS : va_S A s.heap H locs) {res : Int32 × zSt}
    (hM : Met l y ws2 rm (zPc D Y F G S H.size As) (zQi D Y F (zAo F G H.size) G res) mc ms (zAo F G H.size)) (cw : CallB R s args own index y bytes maxL ret2 ws2 rm mc ms n ∧ (Cond.static y).before args s = true) (hn : As.length = n) (hsz : ls.size = nL) (hst : st = As.reverse ++ rest) (hrest : (rest.map fun v => v.category).sum ≤ 8) (hdg : decode cc pc = .ok (.invokestatic index, 3)) (hf : cells + mc ≤ R.cells ∧ slots + ms ≤ R.slots)
    (kk : ∀ (H1 : Heap) (locs1 : List Loc), zH D Y F A G res.2 H1 → va_S A s.heap H1 locs1 → W p l e R s m args below meth c H1 locs1 (cells + mc) (slots + ms) Q (F0 m (pc + 3) ls (.int res.1 :: rest))) : W p l e R s m args below meth c H locs cells slots Q (F0 m pc ls st) := by
  obtain ⟨hx, hb, hml, hr, hown, hts, hK, hA, hlk, hN⟩ := C0
  have hsub := zAo_sub hw hS hA
  subst hst
  refine va_calli (va_runS ⟨hx, hb, hml, hown, hts⟩ hM cw ⟨zPc_blind, fun U hU hW => ⟨rfl, by rw [hU], by rw [hU]; exact hw.weaken (fun _ _ => trivial), va_K.moved hW.alike hK, zN_call hN hS hsub hW hU⟩⟩ rfl hn hsz rfl (lv_room hrest) hdg hf) hS (fun q _ h => hsub q h) hsub (fun r u t H1 locs1 ht hvm hp hU _ _ hS1 => ?_)
  subst hp
  subst ht
  exact kk _ locs1 (hU.1.weaken hsub) hS1
end ZC
end ZR
