/-! calls that make nothing; calls that change nothing -/
section ZR2
variable {p : Program} {l : Launch} {e : Env} {R : Room} {s : State} {m : MethodId} {args : Array Value} {below : List Frame} {meth : Method} {c : Code} {H : Heap} {locs : List Loc} {cells slots : Nat} {Q : State → Prop}
variable {cc : ByteArray} {nL : Nat} {ret : Option FieldType} {own : String} {ws : List Cond} {pc : Nat} {ls : Array Slot} {rest : List Value} {D : va_G} {Y : Nat → ClassId} {F : Nat → Nat} {A : Nat → Prop} {G : zG} {S : zSt}
variable {y : MethodName} {ws2 : List Cond} {rm : Room} {n index maxL : Nat} {bytes : ByteArray} {ret2 : Option FieldType} {As st : List Value} {A' : Nat → Prop}
theorem z_callVi0 (C0 : zCx p s m args meth c D Y F A own cc nL ret ws) (hw : zH D Y F A G S H) (hS : va_S A s.heap H locs) {C : String} {T : u_T} {N k ci : Nat} {fs : List Value} (hE : zE G k = true) {a : Nat} (ha : zad F G k = a) (hB : zB Y F G S k = .inr (ci, fs)) (hc : vwCl[ci]? = some (C, T, N)) {res : Int32 × zSt}
    (hM : Met l y ws2 rm (zPc D Y F G S H.size (.ref a :: As)) (zQi D Y F (zAo F G H.size) G res) 0 0 (zAo F G H.size)) (cw : CallW R s args own C index y bytes maxL ret2 ws2 rm 0 0 n) (hn : As.length = n) (hsz : ls.size = nL) (hst : st = As.reverse ++ .ref a :: rest) (hrest : (rest.map fun v => v.category).sum ≤ 8) (hdg : decode cc pc = .ok (.invokevirtual index, 3)) (hf : cells ≤ R.cells ∧ slots ≤ R.slots)
    (kk : ∀ (H1 : Heap) (locs1 : List Loc), zH D Y F A G res.2 H1 → va_S A s.heap H1 locs1 → W p l e R s m args below meth c H1 locs1 cells slots Q (F0 m (pc + 3) ls (.int res.1 :: rest))) : W p l e R s m args below meth c H locs cells slots Q (F0 m pc ls st) := z_callVi C0 hw hS hE ha hB hc hM cw hn hsz hst hrest hdg hf kk
theorem z_callVip (C0 : zCx p s m args meth c D Y F A own cc nL ret ws) (hw : zH D Y F A G S H) (hS : va_S A s.heap H locs) {C : String} {T : u_T} {N k ci : Nat} {fs : List Value} (hE : zE G k = true) {a : Nat} (ha : zad F G k = a) (hB : zB Y F G S k = .inr (ci, fs)) (hc : vwCl[ci]? = some (C, T, N)) {r : Int32}
    (hM : Met l y ws2 rm (zPc D Y F G S H.size (.ref a :: As)) (zQi D Y F (zAo F G H.size) G (r, S)) 0 0 (zAo F G H.size)) (cw : CallW R s args own C index y bytes maxL ret2 ws2 rm 0 0 n) (hn : As.length = n) (hsz : ls.size = nL) (hst : st = As.reverse ++ .ref a :: rest) (hrest : (rest.map fun v => v.category).sum ≤ 8) (hdg : decode cc pc = .ok (.invokevirtual index, 3)) (hf : cells ≤ R.cells ∧ slots ≤ R.slots)
    (kk : ∀ (H1 : Heap) (locs1 : List Loc), zH D Y F A G S H1 → va_S A s.heap H1 locs1 → W p l e R s m args below meth c H1 locs1 cells slots Q (F0 m (pc + 3) ls (.int r :: rest))) : W p l e R s m args below meth c H locs cells slots Q (F0 m pc ls st) := z_callVi C0 hw hS hE ha hB hc hM cw hn hsz hst hrest hdg hf kk
theorem z_callVl0 (C0 : zCx p s m args meth c D Y F A own cc nL ret ws) (hw : zH D Y F A G S H) (hS : va_S A s.heap H locs) {C : String} {T : u_T} {N k ci : Nat} {fs : List Value} (hE : zE G k = true) {a : Nat} (ha : zad F G k = a) (hB : zB Y F G S k = .inr (ci, fs)) (hc : vwCl[ci]? = some (C, T, N)) {res : Int64 × zSt}
    (hM : Met l y ws2 rm (zPc D Y F G S H.size (.ref a :: As)) (zQl D Y F (zAo F G H.size) G res) 0 0 (zAo F G H.size)) (cw : CallW R s args own C index y bytes maxL ret2 ws2 rm 0 0 n) (hn : As.length = n) (hsz : ls.size = nL) (hst : st = As.reverse ++ .ref a :: rest) (hrest : (rest.map fun v => v.category).sum ≤ 8) (hdg : decode cc pc = .ok (.invokevirtual index, 3)) (hf : cells ≤ R.cells ∧ slots ≤ R.slots)
    (kk : ∀ (H1 : Heap) (locs1 : List Loc), zH D Y F A G res.2 H1 → va_S A s.heap H1 locs1 → W p l e R s m args below meth c H1 locs1 cells slots Q (F0 m (pc + 3) ls (.long res.1 :: rest))) : W p l e R s m args below meth c H locs cells slots Q (F0 m pc ls st) := z_callVl C0 hw hS hE ha hB hc hM cw hn hsz hst hrest hdg hf kk
theorem z_callVlp (C0 : zCx p s m args meth c D Y F A own cc nL ret ws) (hw : zH D Y F A G S H) (hS : va_S A s.heap H locs) {C : String} {T : u_T} {N k ci : Nat} {fs : List Value} (hE : zE G k = true) {a : Nat} (ha : zad F G k = a) (hB : zB Y F G S k = .inr (ci, fs)) (hc : vwCl[ci]? = some (C, T, N)) {r : Int64}
    (hM : Met l y ws2 rm (zPc D Y F G S H.size (.ref a :: As)) (zQl D Y F (zAo F G H.size) G (r, S)) 0 0 (zAo F G H.size)) (cw : CallW R s args own C index y bytes maxL ret2 ws2 rm 0 0 n) (hn : As.length = n) (hsz : ls.size = nL) (hst : st = As.reverse ++ .ref a :: rest) (hrest : (rest.map fun v => v.category).sum ≤ 8) (hdg : decode cc pc = .ok (.invokevirtual index, 3)) (hf : cells ≤ R.cells ∧ slots ≤ R.slots)
    (kk : ∀ (H1 : Heap) (locs1 : List Loc), zH D Y F A G S H1 → va_S A s.heap H1 locs1 → W p l e R s m args below meth c H1 locs1 cells slots Q (F0 m (pc + 3) ls (.long r :: rest))) : W p l e R s m args below meth c H locs cells slots Q (F0 m pc ls st) := z_callVl C0 hw hS hE ha hB hc hM cw hn hsz hst hrest hdg hf kk
theorem z_callVv0 (C0 : zCx p s m args meth c D Y F A own cc nL ret ws) (hw : zH D Y F A G S H) (hS : va_S A s.heap H locs) {C : String} {T : u_T} {N k ci : Nat} {fs : List Value} (hE : zE G k = true) {a : Nat} (ha : zad F G k = a) (hB : zB Y F G S k = .inr (ci, fs)) (hc : vwCl[ci]? = some (C, T, N)) {res : zSt}
    (hM : Met l y ws2 rm (zPc D Y F G S H.size (.ref a :: As)) (zQv D Y F (zAo F G H.size) G res) 0 0 (zAo F G H.size)) (cw : CallW R s args own C index y bytes maxL ret2 ws2 rm 0 0 n) (hn : As.length = n) (hsz : ls.size = nL) (hst : st = As.reverse ++ .ref a :: rest) (hrest : (rest.map fun v => v.category).sum ≤ 8) (hdg : decode cc pc = .ok (.invokevirtual index, 3)) (hf : cells ≤ R.cells ∧ slots ≤ R.slots)
    (kk : ∀ (H1 : Heap) (locs1 : List Loc), zH D Y F A G res H1 → va_S A s.heap H1 locs1 → W p l e R s m args below meth c H1 locs1 cells slots Q (F0 m (pc + 3) ls rest)) : W p l e R s m args below meth c H locs cells slots Q (F0 m pc ls st) := z_callVv C0 hw hS hE ha hB hc hM cw hn hsz hst hrest hdg hf kk
theorem z_callSi0 (C0 : zCx p s m args meth c D Y F A own cc nL ret ws) (hw : zH D Y F A G S H) (hS : va_S A s.heap H locs) {res : Int32 × zSt}
    (hM : Met l y ws2 rm (zPc D Y F G S H.size As) (zQi D Y F (zAo F G H.size) G res) 0 0 (zAo F G H.size)) (cw : CallB R s args own index y bytes maxL ret2 ws2 rm 0 0 n ∧ (Cond.static y).before args s = true) (hn : As.length = n) (hsz : ls.size = nL) (hst : st = As.reverse ++ rest) (hrest : (rest.map fun v => v.category).sum ≤ 8) (hdg : decode cc pc = .ok (.invokestatic index, 3)) (hf : cells ≤ R.cells ∧ slots ≤ R.slots)
    (kk : ∀ (H1 : Heap) (locs1 : List Loc), zH D Y F A G res.2 H1 → va_S A s.heap H1 locs1 → W p l e R s m args below meth c H1 locs1 cells slots Q (F0 m (pc + 3) ls (.int res.1 :: rest))) : W p l e R s m args below meth c H locs cells slots Q (F0 m pc ls st) := z_callSi C0 hw hS hM cw hn hsz hst hrest hdg hf kk
theorem z_callSip (C0 : zCx p s m args meth c D Y F A own cc nL ret ws) (hw : zH D Y F A G S H) (hS : va_S A s.heap H locs) {r : Int32}
    (hM : Met l y ws2 rm (zPc D Y F G S H.size As) (zQi D Y F (zAo F G H.size) G (r, S)) 0 0 (zAo F G H.size)) (cw : CallB R s args own index y bytes maxL ret2 ws2 rm 0 0 n ∧ (Cond.static y).before args s = true) (hn : As.length = n) (hsz : ls.size = nL) (hst : st = As.reverse ++ rest) (hrest : (rest.map fun v => v.category).sum ≤ 8) (hdg : decode cc pc = .ok (.invokestatic index, 3)) (hf : cells ≤ R.cells ∧ slots ≤ R.slots)
    (kk : ∀ (H1 : Heap) (locs1 : List Loc), zH D Y F A G S H1 → va_S A s.heap H1 locs1 → W p l e R s m args below meth c H1 locs1 cells slots Q (F0 m (pc + 3) ls (.int r :: rest))) : W p l e R s m args below meth c H locs cells slots Q (F0 m pc ls st) := z_callSi C0 hw hS hM cw hn hsz hst hrest hdg hf kk
end ZR2
theorem zri_1 : zRi 1 8 := fun _ _ _ _ _ _ => rfl
theorem zri_2 : zRi 2 8 := fun _ _ _ _ _ _ => rfl
theorem zri_4 : zRi 4 6 := fun _ _ _ _ _ _ => rfl
theorem zri_5 : zRi 5 6 := fun _ _ _ _ _ _ => rfl
theorem zri_6 : zRi 6 6 := fun _ _ _ _ _ _ => rfl
theorem zri_7 : zRi 7 6 := fun _ _ _ _ _ _ => rfl
theorem zri_8 : zRi 8 36 := fun _ _ _ _ _ _ => rfl
theorem zri_9 : zRi 9 36 := fun _ _ _ _ _ _ => rfl
theorem zri_10 : zRi 10 288 := fun _ _ _ _ _ _ => rfl
theorem zri_11 : zRi 11 3 := fun _ _ _ _ _ _ => rfl
theorem zri_12 : zRi 12 20 := fun _ _ _ _ _ _ => rfl
theorem zri_13 : zRi 13 8 := fun _ _ _ _ _ _ => rfl
theorem zri_14 : zRi 14 387 := fun _ _ _ _ _ _ => rfl
theorem zri_15 : zRi 15 387 := fun _ _ _ _ _ _ => rfl
theorem zri_16 : zRi 16 6 := fun _ _ _ _ _ _ => rfl
theorem zri_17 : zRi 17 6 := fun _ _ _ _ _ _ => rfl
theorem zri_18 : zRi 18 6 := fun _ _ _ _ _ _ => rfl
theorem zri_22 : zRi 22 8 := fun _ _ _ _ _ _ => rfl
theorem zri_23 : zRi 23 36 := fun _ _ _ _ _ _ => rfl
theorem zri_24 : zRi 24 6 := fun _ _ _ _ _ _ => rfl
theorem zri_25 : zRi 25 6 := fun _ _ _ _ _ _ => rfl
theorem zri_26 : zRi 26 6 := fun _ _ _ _ _ _ => rfl
theorem zri_57 : zRi 57 20 := fun _ _ _ _ _ _ => rfl
theorem zri_62 : zRi 62 6 := fun _ _ _ _ _ _ => rfl
theorem zri_65 : zRi 65 6 := fun _ _ _ _ _ _ => rfl
theorem zri_68 : zRi 68 6 := fun _ _ _ _ _ _ => rfl
theorem zri_71 : zRi 71 160 := fun _ _ _ _ _ _ => rfl
theorem zri_3 : zRl 3 1280 := fun _ _ _ _ _ _ => rfl
theorem zk1_E {k1 : Nat} {G : zG} (h : k1 = 14 ∨ k1 = 15) : zE G k1 = true := by rcases h with rfl | rfl <;> rfl
theorem zk1_a {k1 : Nat} {F : Nat → Nat} {G : zG} (h : k1 = 14 ∨ k1 = 15) : zad F G k1 = F k1 := by rcases h with rfl | rfl <;> rfl
theorem zk1_R {k1 : Nat} (h : k1 = 14 ∨ k1 = 15) : zRi k1 387 := by rcases h with rfl | rfl <;> exact fun _ _ _ _ _ _ => rfl
/-- one place of a row of ints, of longs, becomes v -/
def zAs (S : zSt) (k j : Nat) (v : Int32) : zSt := zA S k (upd (zar S k) j v)
def zLs (S : zSt) (k j : Nat) (v : Int64) : zSt := zL S k (vp_updL (zlo S k) j v)
section ZR3
variable {p : Program} {l : Launch} {e : Env} {R : Room} {s : State} {m : MethodId} {args : Array Value} {below : List Frame} {meth : Method} {c : Code} {H : Heap} {locs : List Loc} {cells slots : Nat} {Q : State → Prop}
variable {cc : ByteArray} {nL : Nat} {ret : Option FieldType} {own : String} {ws : List Cond} {pc : Nat} {ls : Array Slot} {rest : List Value} {D : va_G} {Y : Nat → ClassId} {F : Nat → Nat} {A : Nat → Prop} {G : zG} {S : zSt}
theorem z_iasts (C0 : zCx p s m args meth c D Y F A own cc nL ret ws) (hw : zH D Y F A G S H) (hS : va_S A s.heap H locs) (k : Nat) (hE : zE G k = true) {a : Nat} (ha : zad F G k = a) {n : Nat} (hR : zRi k n) {i v : Int32} (hin : vp_in i n) (hdg : decode cc pc = .ok (.iastore, 1))
    (kk : ∀ (H1 : Heap) (locs1 : List Loc), zH D Y F A G (zAs S k i.toNatClampNeg v) H1 → va_S A s.heap H1 locs1 → W p l e R s m args below meth c H1 locs1 cells slots Q (F0 m (pc + 1) ls rest)) : W p l e R s m args below meth c H locs cells slots Q (F0 m pc ls (.int v :: .int i :: .ref a :: rest)) := z_iast C0 hw hS k hE ha hR hin hdg kk
theorem z_lasts (C0 : zCx p s m args meth c D Y F A own cc nL ret ws) (hw : zH D Y F A G S H) (hS : va_S A s.heap H locs) (k : Nat) (hE : zE G k = true) {a : Nat} (ha : zad F G k = a) {n : Nat} (hR : zRl k n) {i : Int32} {v : Int64} (hin : vp_in i n) (hdg : decode cc pc = .ok (.lastore, 1))
    (kk : ∀ (H1 : Heap) (locs1 : List Loc), zH D Y F A G (zLs S k i.toNatClampNeg v) H1 → va_S A s.heap H1 locs1 → W p l e R s m args below meth c H1 locs1 cells slots Q (F0 m (pc + 1) ls rest)) : W p l e R s m args below meth c H locs cells slots Q (F0 m pc ls (.long v :: .int i :: .ref a :: rest)) := z_last C0 hw hS k hE ha hR hin hdg kk
end ZR3
