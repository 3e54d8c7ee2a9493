/-! WORLDS THAT GROW: some world W0, and behind it the cells X of which we know more -/
theorem x_at {W0 X : va_W} {j : Nat} {q : Nat × va_E} (h : X[j]? = some q) : (W0 ++ X)[W0.length + j]? = some q := by
  rw [List.getElem?_append_right (Nat.le_add_right _ _), Nat.add_sub_cancel_left]
  exact h
theorem x_set {W0 X : va_W} {j : Nat} {q : Nat × va_E} : (W0 ++ X).set (W0.length + j) q = W0 ++ X.set j q := by
  rw [List.set_append_right _ _ (Nat.le_add_right _ _), Nat.add_sub_cancel_left]
/-- what a constructor may take as given beside the world; it holds on in a callee -/
def xE (U : State) : Prop := va_AO "CarbonCopies$Person" U ∧ va_AO "CarbonCopies$Shelf" U ∧ ∀ q ∈ zNest, va_Nw (.methodLinkNest q.1 q.2.1 q.2.2.1 q.2.2.2) U
def xOk (E : State → Prop) : Prop := ∀ s U : State, s.WarmedH U.vm → E s → E U
theorem xOk_t : xOk (fun _ => True) := fun _ _ _ _ => trivial
theorem xOk_E : xOk xE := fun s U hW h => ⟨va_AO.moved hW.alike h.1, va_AO.moved hW.alike h.2.1, fun q hq => va_Nw.warmM hW (h.2.2 q hq)⟩
def xCx (p : Program) (s : State) (m : MethodId) (args : Array Value) (meth : Method) (c : Code) (D : va_G) (Y : Nat → ClassId) (E : State → Prop) (A : Nat → Prop) (own : String) (cc : ByteArray) (nL : Nat) (ret : Option FieldType) (ws : List Cond) : Prop :=
  p.tables.exec = Jvm.exec ∧ c.code = cc ∧ c.maxLocals = nL ∧ meth.sig.returnType = ret ∧ s.vm.findClass own = some m.cls ∧ (∀ w ∈ ws, w.before args s = true) ∧ va_K D vwCl (zT Y) s ∧ (∀ q, s.heap.size ≤ q → A q) ∧ meth.locks = false ∧ E s
def xPc (D : va_G) (Y : Nat → ClassId) (E : State → Prop) (X : va_W) (sz : Nat) (av : List Value) : Array Value → State → Prop := va_Pc av (fun U => U.heap.size = sz ∧ va_P D vwCl X U.heap ∧ va_D (fun _ => True) X ∧ va_K D vwCl (zT Y) U ∧ E U)
def xU (D : va_G) (Y : Nat → ClassId) (A : Nat → Prop) (X : va_W) (t : State) : Prop := va_P D vwCl X t.heap ∧ va_D A X ∧ va_K D vwCl (zT Y) t
/-- nothing is answered; the new cells' addresses are u 0, u 1, .. -/
def xQv (D : va_G) (Y : Nat → ClassId) (A : Nat → Prop) (X : (Nat → Nat) → va_W) : Array Value → State → Outcome → State → Prop := va_Qv (fun _ => True) (fun u t => xU D Y A (X u) t) A
theorem xPc_blind {D : va_G} {Y : Nat → ClassId} {E : State → Prop} (hE : xOk E) {X : va_W} {sz : Nat} {av : List Value} : FrameBlind (xPc D Y E X sz av) := fun a U g mk q => by
  obtain ⟨q0, q1, q2, q3, q4, q5⟩ := q
  exact ⟨q0, q1, q2, q3, va_K.moved (u := U) (U := U.calling g mk a) (Vm.Alike.refl U.vm) q4, hE U (U.calling g mk a) (State.WarmedH.refl U) q5⟩
theorem xMet {l : Launch} {y : MethodName} {ws ws' : List Cond} {rm : Room} {D : va_G} {Y : Nat → ClassId} {E : State → Prop} {X : va_W} {sz : Nat} {av : List Value} {Qc : Array Value → State → Outcome → State → Prop} {mc ms : Nat} {cc : ByteArray} {maxL : Nat} {ret : Option FieldType} {own : String}
    (hy : plainName y.cls = true) (ho : y.cls = own) (hw : ws = Cond.code y cc maxL ret :: ws') (hlen : (lg_sl av).length ≤ maxL)
    (body : ∀ p e s m args below meth c, xCx p s m args meth c D Y E (va_A X sz) own cc maxL ret ws → (y.name = "<init>" → meth.name = "<init>") → va_P D vwCl X s.heap → va_D (va_A X sz) X → va_S (va_A X sz) s.heap s.heap [] → ∀ ls, lv_has ls maxL (lv_args 0 av) → W p l e rm s m args below meth c s.heap [] 0 0 (MQ below Qc args s mc ms (va_A X sz)) (F0 m 0 ls [])) : Met l y ws rm (xPc D Y E X sz av) Qc mc ms (va_A X sz) := by
  refine Met.ofW hy hw ?_
  intro p e s m args below meth c s₁ B hml hv
  obtain ⟨rfl, hsz, hP, hD, hK, hE⟩ := hv
  have hts := atoms_spec (ws := ws) B.pre
  have hown : s.vm.findClass own = some m.cls := by rw [← ho]; exact findClass_of_methodNamed B.named
  have hl := lv_entry av (n := maxL) hlen
  rw [lg_entry_eq]
  have hin : y.name = "<init>" → meth.name = "<init>" := fun h => (name_of_methodNamed B.named B.method).1.trans h
  exact body p e s m _ below meth c ⟨B.exec, B.bytes, hml, B.returns, hown, hts, hK, fun q hq => Or.inr (by rw [← hsz]; exact hq), B.notSynchronized, hE⟩ hin hP hD.self va_S.rf _ hl
section XR
variable {p : Program} {l : Launch} {e : Env} {R : Room} {s : State} {m : MethodId} {args : Array Value} {below : List Frame} {meth : Method} {c : Code} {H : Heap} {locs : List Loc} {cells slots : Nat} {Q : State → Prop}
variable {cc : ByteArray} {nL : Nat} {ret : Option FieldType} {own : String} {ws : List Cond} {pc : Nat} {ls : Array Slot} {rest : List Value} {D : va_G} {Y : Nat → ClassId} {E : State → Prop} {A : Nat → Prop} {W0 X : va_W}
theorem xY {k : Nat} {ty : FieldType} {cA cB : ClassId} (hK : va_K D vwCl (zT Y ++ [(cB, ty)]) s) (h : (zT Y)[k]? = some (cA, ty)) (ht : ∀ C, ty ≠ .object C) : cB = cA := by
  have h1 := (hK.2 (zT Y).length _ (by rw [List.getElem?_append_right (Nat.le_refl _), Nat.sub_self]; rfl)).2
  have hk : k < (zT Y).length := (List.getElem?_eq_some_iff.mp h).1
  have h2 := (hK.2 k _ (by rw [List.getElem?_append_left hk]; exact h)).2
  cases ty with
  | object C => exact absurd rfl (ht C)
  | _ => exact Option.some.inj (h1.symm.trans h2)
theorem xYo {k : Nat} {C : String} {cA cB : ClassId} (hK : va_K D vwCl (zT Y ++ [(cB, .object C)]) s) (h : (zT Y)[k]? = some (cA, .object C)) : cB = cA := by
  obtain ⟨_, _, _, _, _, h1⟩ := (hK.2 (zT Y).length _ (by rw [List.getElem?_append_right (Nat.le_refl _), Nat.sub_self]; rfl)).2
  have hk : k < (zT Y).length := (List.getElem?_eq_some_iff.mp h).1
  obtain ⟨_, _, _, _, _, h2⟩ := (hK.2 k _ (by rw [List.getElem?_append_left hk]; exact h)).2
  exact Option.some.inj (h1.symm.trans h2)
theorem x_objInit (C0 : xCx p s m args meth c D Y E A own cc nL ret ws) (i1 i2 i3 : Nat) {index : Nat} (h1 : ws[i1]? = some (Cond.methodLink own index objectInit)) (h2 : ws[i2]? = some (Cond.instanceMethod objectInit)) (h3 : ws[i3]? = some (Cond.code objectInit ⟨#[0xb1]⟩ 1 none)) (hsz : ls.size = nL) {a : Nat} (hdg : decode cc pc = .ok (.invokespecial index, 3)) (hf : 1 ≤ R.frames) (hl : 2 * (F0 m pc ls (.ref a :: rest)).monitorRoom + (rest.map fun v => v.category).sum + 12 ≤ R.locals)
    (kk : W p l e R s m args below meth c H locs cells slots Q (F0 m (pc + 3) ls rest)) : W p l e R s m args below meth c H locs cells slots Q (F0 m pc ls (.ref a :: rest)) := by
  obtain ⟨hx, hb, hml, hr, hown, hts, hK, hA, hlk, hE⟩ := C0
  exact W.objInit hx hb hown (hts _ (List.mem_of_getElem? h1)) (hts _ (List.mem_of_getElem? h2)) (hts _ (List.mem_of_getElem? h3)) rfl (by rw [hml]; exact hsz) rfl hdg hf hl kk
theorem x_newai (C0 : xCx p s m args meth c D Y E A own cc nL ret ws) (hP : va_P D vwCl (W0 ++ X) H) (hD : va_D A (W0 ++ X)) (hS : va_S A s.heap H locs) (i : Nat) (hi : ws[i]? = some (Cond.arrayClass .int)) {n : Int32} (N : Nat) (hn : ¬ n < 0) (hN : n.toNatClampNeg = N) (hby : N * componentBytes .int ≤ 536870912) (hc : cells + 1 ≤ R.cells) (hs : slots + N ≤ R.slots) (hdg : decode cc pc = .ok (.newarray .int, 2))
    (kk : ∀ (q : Nat) (H1 : Heap), va_P D vwCl (W0 ++ (X ++ [(q, .inl (Y 0, N, .inl (fun _ => 0)))])) H1 → va_D A (W0 ++ (X ++ [(q, .inl (Y 0, N, .inl (fun _ => 0)))])) → va_S A s.heap H1 locs → W p l e R s m args below meth c H1 locs (cells + 1) (slots + N) Q (F0 m (pc + 2) ls (.ref q :: rest))) : W p l e R s m args below meth c H locs cells slots Q (F0 m pc ls (.int n :: rest)) := by
  obtain ⟨hx, hb, hml, hr, hown, hts, hK, hA, hlk, hE⟩ := C0
  refine va_newa (atype := .int) (ty := .int) (a0 := (N, .inl (fun _ => 0))) hx hb (hts _ (List.mem_of_getElem? hi)) rfl hK hP hD hS hA (fun _ => rfl) hn hN hby hc hs hdg (fun q cA H1 k1 k2 k3 k4 => ?_)
  have e := xY (k := 0) k1 rfl (fun _ h => by cases h)
  subst e
  rw [List.append_assoc] at k2 k3
  exact kk q H1 k2 k3 k4
theorem x_newal (C0 : xCx p s m args meth c D Y E A own cc nL ret ws) (hP : va_P D vwCl (W0 ++ X) H) (hD : va_D A (W0 ++ X)) (hS : va_S A s.heap H locs) (i : Nat) (hi : ws[i]? = some (Cond.arrayClass .long)) {n : Int32} (N : Nat) (hn : ¬ n < 0) (hN : n.toNatClampNeg = N) (hby : N * componentBytes .long ≤ 536870912) (hc : cells + 1 ≤ R.cells) (hs : slots + N ≤ R.slots) (hdg : decode cc pc = .ok (.newarray .long, 2))
    (kk : ∀ (q : Nat) (H1 : Heap), va_P D vwCl (W0 ++ (X ++ [(q, .inl (Y 1, N, .inr (.inl (fun _ => 0))))])) H1 → va_D A (W0 ++ (X ++ [(q, .inl (Y 1, N, .inr (.inl (fun _ => 0))))])) → va_S A s.heap H1 locs → W p l e R s m args below meth c H1 locs (cells + 1) (slots + N) Q (F0 m (pc + 2) ls (.ref q :: rest))) : W p l e R s m args below meth c H locs cells slots Q (F0 m pc ls (.int n :: rest)) := by
  obtain ⟨hx, hb, hml, hr, hown, hts, hK, hA, hlk, hE⟩ := C0
  refine va_newa (atype := .long) (ty := .long) (a0 := (N, .inr (.inl (fun _ => 0)))) hx hb (hts _ (List.mem_of_getElem? hi)) rfl hK hP hD hS hA (fun _ => rfl) hn hN hby hc hs hdg (fun q cA H1 k1 k2 k3 k4 => ?_)
  have e := xY (k := 1) k1 rfl (fun _ h => by cases h)
  subst e
  rw [List.append_assoc] at k2 k3
  exact kk q H1 k2 k3 k4
theorem x_newq (C0 : xCx p s m args meth c D Y E A own cc nL ret ws) (hP : va_P D vwCl (W0 ++ X) H) (hD : va_D A (W0 ++ X)) (hS : va_S A s.heap H locs) (t0 i : Nat) {index : Nat} {C : String} {cA : ClassId} (ht : (zT Y)[t0]? = some (cA, .object C)) (hi : (Cond.classLink own index C).before args s = true) (hover : va_AO C s) {n : Int32} (N : Nat) (hn : ¬ n < 0) (hN : n.toNatClampNeg = N) (hby : N * 4 ≤ 536870912) (hc : cells + 1 ≤ R.cells) (hs : slots + N ≤ R.slots) (hdg : decode cc pc = .ok (.anewarray index, 3))
    (kk : ∀ (q : Nat) (H1 : Heap), va_P D vwCl (W0 ++ (X ++ [(q, .inl (cA, N, .inr (.inr (.inr (.inr (fun _ => none))))))])) H1 → va_D A (W0 ++ (X ++ [(q, .inl (cA, N, .inr (.inr (.inr (.inr (fun _ => none))))))])) → va_S A s.heap H1 locs → W p l e R s m args below meth c H1 locs (cells + 1) (slots + N) Q (F0 m (pc + 3) ls (.ref q :: rest))) : W p l e R s m args below meth c H locs cells slots Q (F0 m pc ls (.int n :: rest)) := by
  obtain ⟨hx, hb, hml, hr, hown, hts, hK, hA, hlk, hE⟩ := C0
  refine va_newq hx hb hown hi hover hK hP hD hS hA hn hN hby hc hs hdg (fun q cB H1 k1 k2 k3 k4 => ?_)
  have e := xYo k1 ht
  subst e
  rw [List.append_assoc] at k2 k3
  exact kk q H1 k2 k3 k4
theorem x_new (C0 : xCx p s m args meth c D Y E A own cc nL ret ws) (hP : va_P D vwCl (W0 ++ X) H) (hD : va_D A (W0 ++ X)) (hS : va_S A s.heap H locs) {C : String} {T : u_T} {N ci index : Nat} (hin : ∀ w ∈ u_ws C T N, w ∈ ws) (ty : Nat → FieldType) (hty : ∀ k, k < N → parseFieldDescriptor (T k).2.2.1 = some (ty k)) (i1 i2 i3 : Nat) (h1 : (Cond.classLink own index C).before args s = true) (h2 : (Cond.instantiable C N).before args s = true) (h3 : (Cond.initialized C).before args s = true) (hc : vwCl[ci]? = some (C, T, N)) (fs : List Value) (hfs : ∀ j, j < N → defaultValue (ty j) = vp_V fs j) (hcl : cells + 1 ≤ R.cells) (hsl : slots + N ≤ R.slots) (hdg : decode cc pc = .ok (.new index, 3))
    (kk : ∀ (q : Nat) (H1 : Heap), va_P D vwCl (W0 ++ (X ++ [(q, .inr (ci, fs))])) H1 → va_D A (W0 ++ (X ++ [(q, .inr (ci, fs))])) → va_S A s.heap H1 locs → W p l e R s m args below meth c H1 locs (cells + 1) (slots + N) Q (F0 m (pc + 3) ls (.ref q :: rest))) : W p l e R s m args below meth c H locs cells slots Q (F0 m pc ls rest) := by
  obtain ⟨hx, hb, hml, hr, hown, hts, hK, hA, hlk, hE⟩ := C0
  refine va_new hx hb hts hin ty hty hown h1 h2 h3 hK hP hD hS hA hc hfs hcl hsl hdg (fun q H1 k2 k3 k4 => ?_)
  rw [List.append_assoc] at k2 k3
  exact kk q H1 k2 k3 k4
theorem x_get (C0 : xCx p s m args meth c D Y E A own cc nL ret ws) (hP : va_P D vwCl (W0 ++ X) H) {C : String} {T : u_T} {N ci : Nat} (hin : ∀ w ∈ u_ws C T N, w ∈ ws) (j : Nat) {a : Nat} {fs : List Value} (hj : X[j]? = some (a, .inr (ci, fs))) (hc : vwCl[ci]? = some (C, T, N)) (f : Nat) (hf : f < N) {v : Value} (hv : fs[f]? = some v) (i : Nat) {index : Nat} (hlink : ws[i]? = some (Cond.fieldLink own index (T f).1 (T f).2.1 (T f).2.2.1)) (hdg : decode cc pc = .ok (.getfield index, 3))
    (kk : W p l e R s m args below meth c H locs cells slots Q (F0 m (pc + 3) ls (v :: rest))) : W p l e R s m args below meth c H locs cells slots Q (F0 m pc ls (.ref a :: rest)) := by
  obtain ⟨hx, hb, hml, hr, hown, hts, hK, hA, hlk, hE⟩ := C0
  exact va_get hx hb hts hin hown hK hP _ (x_at hj) hc f hf (hts _ (List.mem_of_getElem? hlink)) (fun _ h => h) hv hdg kk
theorem x_put (C0 : xCx p s m args meth c D Y E A own cc nL ret ws) (hinit : meth.name = "<init>") (hP : va_P D vwCl (W0 ++ X) H) (hD : va_D A (W0 ++ X)) (hS : va_S A s.heap H locs) {C : String} {T : u_T} {N ci : Nat} (hin : ∀ w ∈ u_ws C T N, w ∈ ws) (ty : Nat → FieldType) (hty : ∀ k, k < N → parseFieldDescriptor (T k).2.2.1 = some (ty k)) (hnm : ∀ a, a < N → ∀ b, b < N → a ≠ b → (T a).2.1 ≠ (T b).2.1) (j : Nat) {a : Nat} {fs : List Value} (hj : X[j]? = some (a, .inr (ci, fs))) (hc : vwCl[ci]? = some (C, T, N)) (f : Nat) (hf : f < N) (i : Nat) {index : Nat} (hlink : ws[i]? = some (Cond.fieldLink own index (T f).1 (T f).2.1 (T f).2.2.1)) (hdecl : (T f).1 = own) {v : Value} {tv : FieldType} (hd : parseFieldDescriptor (T f).2.2.1 = some tv) (hn : narrow tv v = v) (hfit : fits tv v = true) (hl : f < fs.length) {X' : va_W} (hX : X.set j (a, .inr (ci, fs.set f v)) = X') (hdg : decode cc pc = .ok (.putfield index, 3))
    (kk : ∀ (H1 : Heap) (locs1 : List Loc), va_P D vwCl (W0 ++ X') H1 → va_D A (W0 ++ X') → va_S A s.heap H1 locs1 → W p l e R s m args below meth c H1 locs1 cells slots Q (F0 m (pc + 3) ls rest)) : W p l e R s m args below meth c H locs cells slots Q (F0 m pc ls (v :: .ref a :: rest)) := by
  obtain ⟨hx, hb, hml, hr, hown, hts, hK, hA, hlk, hE⟩ := C0
  subst hX
  cases hfin : (T f).2.2.2 with
  | true =>
    refine va_putF hx hb hts hin ty hty hnm hown hK hP hD hS _ (x_at hj) hc f hf (hts _ (List.mem_of_getElem? hlink)) (fun _ h => h) hfin hinit hdecl hd hn hfit hl hdg (fun H1 locs1 h1 h2 h3 => ?_)
    rw [x_set] at h1 h2
    exact kk H1 locs1 h1 h2 h3
  | false =>
    refine va_put hx hb hts hin ty hty hnm hown hK hP hD hS _ (x_at hj) hc f hf (hts _ (List.mem_of_getElem? hlink)) (fun _ h => h) hfin hd hn hfit hl hdg (fun H1 locs1 h1 h2 h3 => ?_)
    rw [x_set] at h1 h2
    exact kk H1 locs1 h1 h2 h3
theorem x_retv (C0 : xCx p s m args meth c D Y E A own cc nL none ws) {X2 : (Nat → Nat) → va_W} (u : Nat → Nat) {XX : va_W} (hu : X2 u = XX) (hP : va_P D vwCl XX H) (hD : va_D A XX) (hS : va_S A s.heap H locs) (hdg : decode cc pc = .ok (.return_, 1)) : W p l e R s m args below meth c H locs cells slots (MQ below (xQv D Y A X2) args s cells slots A) (F0 m pc ls []) := by
  obtain ⟨hx, hb, hml, hr, hown, hts, hK, hA, hlk, hE⟩ := C0
  subst hu
  exact W.vret hx hb hr (fun t ht hW => ⟨⟨u, rfl, trivial, by show xU D Y A (X2 u) t; unfold xU; rw [ht]; exact ⟨hP, hD, va_K.moved hW.alike hK⟩⟩, hS.F ht⟩) hS.2.2 hdg (hlocks := hlk)
/-- a constructor's call: on the last cell of the world -/
theorem x_callI (C0 : xCx p s m args meth c D Y E A own cc nL ret ws) (hP : va_P D vwCl (W0 ++ X) H) (hD : va_D A (W0 ++ X)) (hS : va_S A s.heap H locs) {y : MethodName} {ws2 : List Cond} {rm : Room} {mc ms n index maxL : Nat} {bytes : ByteArray} {As st : List Value} {b : Nat} {E2 : State → Prop} (hE2 : xOk E2) (hEE : E s → E2 s) {X2 : (Nat → Nat) → va_W}
    (hM : Met l y ws2 rm (xPc D Y E2 (W0 ++ X) H.size (.ref b :: As)) (xQv D Y (va_A (W0 ++ X) H.size) X2) mc ms (va_A (W0 ++ X) H.size)) (cw : CallB R s args own index y bytes maxL none ws2 rm mc ms n ∧ y.name = "<init>" ∧ (Cond.instanceMethod y).before args s = true) (hn : As.length = n) (hsz : ls.size = nL) (hst : st = As.reverse ++ .ref b :: rest) (hrest : (rest.map fun v => v.category).sum ≤ 8) (hdg : decode cc pc = .ok (.invokespecial index, 3)) (hf : cells + mc ≤ R.cells ∧ slots + ms ≤ R.slots)
    (kk : ∀ (u : Nat → Nat) (H1 : Heap) (locs1 : List Loc), va_P D vwCl (X2 u) H1 → va_D A (X2 u) → va_S A s.heap H1 locs1 → W p l e R s m args below meth c H1 locs1 (cells + mc) (slots + ms) Q (F0 m (pc + 3) ls rest)) : W p l e R s m args below meth c H locs cells slots Q (F0 m pc ls st) := by
  obtain ⟨hx, hb, hml, hr, hown, hts, hK, hA, hlk, hE⟩ := C0
  have hsub : ∀ q, va_A (W0 ++ X) H.size q → A q := by
    intro q hq
    rcases hq with ⟨k, e1, hk⟩ | hq
    · exact hD.2 k _ hk
    · exact hA q (Nat.le_trans hS.1 hq)
  subst hst
  refine va_callv (va_runI ⟨hx, hb, hml, hown, hts⟩ hM cw ⟨xPc_blind hE2, fun U hU hW => ⟨rfl, by rw [hU], by rw [hU]; exact hP, hD.weaken (fun _ _ _ _ => trivial), va_K.moved hW.alike hK, hE2 s U hW (hEE hE)⟩⟩ rfl hn hsz rfl (lv_room hrest) hdg hf) hS (fun q _ h => hsub q h) hsub (fun u t H1 locs1 ht hvm hp hU _ _ hS1 => ?_)
  subst ht
  exact kk u _ locs1 hU.1 (hU.2.1.weaken (fun _ _ _ h => hsub _ h)) hS1
theorem x_iast (C0 : xCx p s m args meth c D Y E A own cc nL ret ws) (hP : va_P D vwCl (W0 ++ X) H) (hD : va_D A (W0 ++ X)) (hS : va_S A s.heap H locs) (j : Nat) {a n : Nat} {f : Nat → Int32} (hj : X[j]? = some (a, .inl (Y 0, n, .inl f))) {i v : Int32} (hin : vp_in i n) {X' : va_W} (hX : X.set j (a, .inl (Y 0, n, .inl (upd f i.toNatClampNeg v))) = X') (hdg : decode cc pc = .ok (.iastore, 1))
    (kk : ∀ (H1 : Heap) (locs1 : List Loc), va_P D vwCl (W0 ++ X') H1 → va_D A (W0 ++ X') → va_S A s.heap H1 locs1 → W p l e R s m args below meth c H1 locs1 cells slots Q (F0 m (pc + 1) ls rest)) : W p l e R s m args below meth c H locs cells slots Q (F0 m pc ls (.int v :: .int i :: .ref a :: rest)) := by
  obtain ⟨hx, hb, hml, hr, hown, hts, hK, hA, hlk, hE⟩ := C0
  subst hX
  refine va_iast hx hb hK hP hD hS _ 0 (x_at hj) rfl hin hdg (fun H1 locs1 h1 h2 h3 => ?_)
  rw [x_set] at h1 h2
  exact kk H1 locs1 h1 h2 h3
/-- a reference to the j2-th cell, an object, into the j-th, an array of such -/
theorem x_aast (C0 : xCx p s m args meth c D Y E A own cc nL ret ws) (hP : va_P D vwCl (W0 ++ X) H) (hD : va_D A (W0 ++ X)) (hS : va_S A s.heap H locs) (t0 j j2 : Nat) {cA : ClassId} {r : vw_C} {a b n ci : Nat} {vs : List Value} {f : Nat → Option Nat} (hj : X[j]? = some (a, .inl (cA, n, .inr (.inr (.inr (.inr f)))))) (ht : (zT Y)[t0]? = some (cA, .object r.1)) (hj2 : X[j2]? = some (b, .inr (ci, vs))) (hc : vwCl[ci]? = some r) {i : Int32} (hin : vp_in i n) {X' : va_W} (hX : X.set j (a, .inl (cA, n, .inr (.inr (.inr (.inr (va_up f i.toNatClampNeg (some b))))))) = X') (hdg : decode cc pc = .ok (.aastore, 1))
    (kk : ∀ (H1 : Heap) (locs1 : List Loc), va_P D vwCl (W0 ++ X') H1 → va_D A (W0 ++ X') → va_S A s.heap H1 locs1 → W p l e R s m args below meth c H1 locs1 cells slots Q (F0 m (pc + 1) ls rest)) : W p l e R s m args below meth c H locs cells slots Q (F0 m pc ls (.ref b :: .int i :: .ref a :: rest)) := by
  obtain ⟨hx, hb, hml, hr, hown, hts, hK, hA, hlk, hE⟩ := C0
  subst hX
  refine va_astq hx hb hK hP hD hS _ t0 _ ci (x_at hj) ht (x_at hj2) hc hin hdg (fun H1 locs1 h1 h2 h3 => ?_)
  rw [x_set] at h1 h2
  exact kk H1 locs1 h1 h2 h3
/-- a constructor's call, the object the last cell; the world is cut just ahead of it -/
theorem x_callJ (C0 : xCx p s m args meth c D Y E A own cc nL ret ws) {o : Nat × va_E} (hP : va_P D vwCl (W0 ++ (X ++ [o])) H) (hD : va_D A (W0 ++ (X ++ [o]))) (hS : va_S A s.heap H locs) {y : MethodName} {ws2 : List Cond} {rm : Room} {mc ms n index maxL : Nat} {bytes : ByteArray} {As st : List Value} {b : Nat} {E2 : State → Prop} (hE2 : xOk E2) (hEE : E s → E2 s) {X2 : (Nat → Nat) → va_W}
    (hM : Met l y ws2 rm (xPc D Y E2 ((W0 ++ X) ++ [o]) H.size (.ref b :: As)) (xQv D Y (va_A ((W0 ++ X) ++ [o]) H.size) (fun u => (W0 ++ X) ++ X2 u)) mc ms (va_A ((W0 ++ X) ++ [o]) H.size)) (cw : CallB R s args own index y bytes maxL none ws2 rm mc ms n ∧ y.name = "<init>" ∧ (Cond.instanceMethod y).before args s = true) (hn : As.length = n) (hsz : ls.size = nL) (hst : st = As.reverse ++ .ref b :: rest) (hrest : (rest.map fun v => v.category).sum ≤ 8) (hdg : decode cc pc = .ok (.invokespecial index, 3)) (hf : cells + mc ≤ R.cells ∧ slots + ms ≤ R.slots)
    (kk : ∀ (u : Nat → Nat) (H1 : Heap) (locs1 : List Loc), va_P D vwCl (W0 ++ (X ++ X2 u)) H1 → va_D A (W0 ++ (X ++ X2 u)) → va_S A s.heap H1 locs1 → W p l e R s m args below meth c H1 locs1 (cells + mc) (slots + ms) Q (F0 m (pc + 3) ls rest)) : W p l e R s m args below meth c H locs cells slots Q (F0 m pc ls st) := by
  rw [← List.append_assoc] at hP hD
  refine x_callI C0 hP hD hS hE2 hEE hM cw hn hsz hst hrest hdg hf (fun u H1 locs1 h1 h2 h3 => ?_)
  rw [List.append_assoc] at h1 h2
  exact kk u H1 locs1 h1 h2 h3
/-- the same, of a nest mate's private constructor -/
theorem x_callK (C0 : xCx p s m args meth c D Y E A own cc nL ret ws) {o : Nat × va_E} (hP : va_P D vwCl (W0 ++ (X ++ [o])) H) (hD : va_D A (W0 ++ (X ++ [o]))) (hS : va_S A s.heap H locs) {y : MethodName} {host : String} {ws2 : List Cond} {rm : Room} {mc ms n index maxL : Nat} {bytes : ByteArray} {As st : List Value} {b : Nat} {E2 : State → Prop} (hE2 : xOk E2) (hEE : E s → E2 s) {X2 : (Nat → Nat) → va_W}
    (hM : Met l y ws2 rm (xPc D Y E2 ((W0 ++ X) ++ [o]) H.size (.ref b :: As)) (xQv D Y (va_A ((W0 ++ X) ++ [o]) H.size) (fun u => (W0 ++ X) ++ X2 u)) mc ms (va_A ((W0 ++ X) ++ [o]) H.size)) (cw : va_CN R s args own index y host bytes maxL none ws2 rm mc ms n ∧ y.name = "<init>" ∧ (Cond.instanceMethod y).before args s = true) (hn : As.length = n) (hsz : ls.size = nL) (hst : st = As.reverse ++ .ref b :: rest) (hrest : (rest.map fun v => v.category).sum ≤ 8) (hdg : decode cc pc = .ok (.invokespecial index, 3)) (hf : cells + mc ≤ R.cells ∧ slots + ms ≤ R.slots)
    (kk : ∀ (u : Nat → Nat) (H1 : Heap) (locs1 : List Loc), va_P D vwCl (W0 ++ (X ++ X2 u)) H1 → va_D A (W0 ++ (X ++ X2 u)) → va_S A s.heap H1 locs1 → W p l e R s m args below meth c H1 locs1 (cells + mc) (slots + ms) Q (F0 m (pc + 3) ls rest)) : W p l e R s m args below meth c H locs cells slots Q (F0 m pc ls st) := by
  rw [← List.append_assoc] at hP hD
  obtain ⟨hx, hb, hml, hr, hown, hts, hK, hA, hlk, hE⟩ := C0
  have hsub : ∀ q, va_A ((W0 ++ X) ++ [o]) H.size q → A q := by
    intro q hq
    rcases hq with ⟨k, e1, hk⟩ | hq
    · exact hD.2 k _ hk
    · exact hA q (Nat.le_trans hS.1 hq)
  subst hst
  refine va_callv (va_runIN ⟨hx, hb, hml, hown, hts⟩ hM cw ⟨xPc_blind hE2, fun U hU hW => ⟨rfl, by rw [hU], by rw [hU]; exact hP, hD.weaken (fun _ _ _ _ => trivial), va_K.moved hW.alike hK, hE2 s U hW (hEE hE)⟩⟩ rfl hn hsz rfl (lv_room hrest) hdg hf) hS (fun q _ h => hsub q h) hsub (fun u t H1 locs1 ht hvm hp hU _ _ hS1 => ?_)
  subst ht
  have h1 : va_P D vwCl (W0 ++ X ++ X2 u) _ := hU.1
  have h2 : va_D A (W0 ++ X ++ X2 u) := hU.2.1.weaken (B := A) (fun _ _ _ h => hsub _ h)
  rw [List.append_assoc] at h1 h2
  exact kk u _ locs1 h1 h2 hS1
end XR
