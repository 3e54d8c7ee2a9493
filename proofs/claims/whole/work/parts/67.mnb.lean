def xM (U : State) : Prop := ∃ (comp cA : ClassId) (kA : Class), U.vm.findClass (FieldType.array .int).toString = some comp ∧ U.vm.classes[cA]? = some kA ∧ kA.kind = .array comp (.array .int) ∧ U.vm.findClass ("[" ++ (FieldType.array .int).toString) = some cA
theorem xM_of {av : Array Value} {U : State} (h : (Cond.arrayOver (.array .int)).before av U = true) : xM U := by
  obtain ⟨comp, cA, kA, o1, -, o2, o3, o4⟩ := arrayOverA_spec h
  exact ⟨comp, cA, kA, o1, o2, o3, o4⟩
theorem xM_moved {u U : State} (hvm : u.vm.Alike U.vm) (h : xM u) : xM U := by
  obtain ⟨comp, cA, kA, h1, h2, h3, h4⟩ := h
  obtain ⟨k', hk', he⟩ := hvm.2.2 _ _ h2
  exact ⟨comp, cA, k', by rw [hvm.findClass]; exact h1, hk', by rw [he]; exact h3, by rw [hvm.findClass]; exact h4⟩
section ZMP
variable {p : Program} {l : Launch} {e : Env} {R : Room} {s : State} {m : MethodId} {args : Array Value} {below : List Frame} {meth : Method} {c : Code} {H : Heap} {locs : List Loc} {cells slots : Nat} {Q : State → Prop}
variable {cc : ByteArray} {nL : Nat} {ret : Option FieldType} {own : String} {ws : List Cond} {pc : Nat} {ls : Array Slot} {rest : List Value} {D : va_G} {Y : Nat → ClassId} {E : State → Prop} {A : Nat → Prop} {W0 X : va_W}
theorem z_wpRow {E : CtlPost} {d : Bool} {acts : List Action} {U : State} {cI comp : ClassId} {k : Class} (hk : U.vm.classes[cI]? = some k) (hkind : k.kind = .array comp .int) (h1 : ¬ 64 > e.platform.arrayLengthLimit) (h2 : ¬ 64 * 4 > e.platform.maxHeapBytes) (hc : U.heap.size < e.platform.maxCells) (hs : U.slotsUsed + 64 ≤ e.platform.maxSlots) {Q : Addr → Pre} (hq : Q U.heap.size d acts (U.pushCell (zMI cI))) : wp (Op.multianewarray.make cI [64]) Q E e d acts U := by
  have h0 : ¬ (64 : Int32) < 0 := by decide
  rw [Op.multianewarray.make]
  simp only [wp_bind', W.ite, h0, if_false, wp_pure', W.theClass, hk, hkind, Option.some.injEq, exists_eq_left']
  exact z_wpNew hk hkind h1 h2 rfl rfl hc hs hq
theorem z_wpSeven {E : CtlPost} {d : Bool} {acts : List Action} {U : State} {cA cI comp : ClassId} {kA kI : Class} (hA : U.vm.classes[cA]? = some kA) (hkA : kA.kind = .array cI (.array .int)) (hI : U.vm.classes[cI]? = some kI) (hkI : kI.kind = .array comp .int) (h1 : ¬ 64 > e.platform.arrayLengthLimit) (h2 : ¬ 64 * 4 > e.platform.maxHeapBytes) (hc : U.heap.size + 8 ≤ e.platform.maxCells) (hs : U.slotsUsed + 455 ≤ e.platform.maxSlots) {Q : Addr → Pre} (hq : ∀ d' acts', Q U.heap.size d' acts' (zMS U cA cI 7)) : wp (Op.multianewarray.make cA [7, 64]) Q E e d acts U := by
  have h0 : ¬ (7 : Int32) < 0 := by decide
  have hfind : ([(64 : Int32)].find? (· < 0)) = none := by decide
  rw [Op.multianewarray.make]
  simp only [wp_bind', W.ite, h0, if_false, wp_pure', W.theClass, hA, hkA, Option.some.injEq, exists_eq_left']
  refine z_wpNew hA hkA (by show ¬ 7 > _; omega) (by show ¬ 7 * 4 > _; omega) rfl rfl (by omega) (by show _ + 7 ≤ _; omega) ?_
  simp only [hfind]
  rw [ite_self, wp_bind', Std.Legacy.Range.forIn_eq_forIn_range']
  have hsz : ([:(7 : Int32).toNatClampNeg] : Std.Legacy.Range).size = 7 := by simp [Std.Legacy.Range.size]
  rw [hsz]
  show wp (forIn (List.range' 0 7 1) PUnit.unit _) _ E e d acts _
  refine wp_forIn_inv (fun rest U' => ∃ i, i ≤ 7 ∧ rest = List.range' i (7 - i) ∧ U' = zMS U cA cI i) _ _ ⟨0, Nat.zero_le _, rfl, rfl⟩ ?_ ?_
  · intro x rest U' d' acts' Q' hinv hnext
    obtain ⟨i, hi, hl, rfl⟩ := hinv
    have hlt : i < 7 := by
      refine Nat.lt_of_le_of_ne hi (fun h => ?_)
      subst h
      cases hl
    have e7 : 7 - i = (7 - (i + 1)) + 1 := by omega
    rw [e7, List.range'_succ] at hl
    obtain ⟨rfl, hr⟩ := List.cons.inj hl
    obtain ⟨f1, f2, f3, f4⟩ := zMS_of U cA cI x
    simp only [wp_bind']
    refine z_wpRow (by rw [f3]; exact hI) hkI h1 h2 (by omega) (by omega) ?_
    have hlt0 : U.heap.size < (zMS U cA cI x).heap.size := by omega
    simp only [wp_bind', W.writeLoc, wp_pure']
    refine ⟨zMO cA U.heap.size x, by rw [State.heap_pushCell_of_lt (h := hlt0)]; exact f2, by show VmData.none ≠ _; simp, by rw [zMO_size]; exact hlt, ?_, hnext _ _ _ ⟨x + 1, hlt, hr, ?_⟩⟩
    · show State.fitsSlot _ cA .none x _ = true
      simp [State.fitsSlot, State.slotType?, f3, hA, hkA]
      rfl
    · rw [f1, zMO_set]
      rfl
  · intro U' d' acts' hinv
    obtain ⟨i, hi, hl, rfl⟩ := hinv
    have h7 : i = 7 := by
      refine Nat.le_antisymm hi (Nat.le_of_not_lt (fun h => ?_))
      have e7 : 7 - i = (7 - (i + 1)) + 1 := by omega
      rw [e7, List.range'_succ] at hl
      cases hl
    subst h7
    simp only [wp_pure']
    exact hq _ _
theorem x_mna (C0 : xCx p s m args meth c D Y E A own cc nL ret ws) (hover : xM s) (hP : va_P D vwCl (W0 ++ X) H) (hD : va_D A (W0 ++ X)) (hS : va_S A s.heap H locs) {index : Nat} (hcl : (Cond.classLink own index ("[" ++ (FieldType.array .int).toString)).before args s = true) (harr : (Cond.arrayClass .int).before args s = true) (hc : cells + 8 ≤ R.cells) (hs : slots + 455 ≤ R.slots) (hdg : decode cc pc = .ok (.multianewarray index 2, 4))
    (kk : ∀ (q : Nat) (H1 : Heap), va_P D vwCl (W0 ++ (X ++ [(q, .inl (Y 4, 7, .inr (.inr (.inr (.inr (fun j => some (q + 1 + j))))))), (q + 1, .inl (Y 0, 64, .inl (fun _ => 0))), (q + 2, .inl (Y 0, 64, .inl (fun _ => 0))), (q + 3, .inl (Y 0, 64, .inl (fun _ => 0))), (q + 4, .inl (Y 0, 64, .inl (fun _ => 0))), (q + 5, .inl (Y 0, 64, .inl (fun _ => 0))), (q + 6, .inl (Y 0, 64, .inl (fun _ => 0))), (q + 7, .inl (Y 0, 64, .inl (fun _ => 0)))])) H1 → va_D A (W0 ++ (X ++ [(q, .inl (Y 4, 7, .inr (.inr (.inr (.inr (fun j => some (q + 1 + j))))))), (q + 1, .inl (Y 0, 64, .inl (fun _ => 0))), (q + 2, .inl (Y 0, 64, .inl (fun _ => 0))), (q + 3, .inl (Y 0, 64, .inl (fun _ => 0))), (q + 4, .inl (Y 0, 64, .inl (fun _ => 0))), (q + 5, .inl (Y 0, 64, .inl (fun _ => 0))), (q + 6, .inl (Y 0, 64, .inl (fun _ => 0))), (q + 7, .inl (Y 0, 64, .inl (fun _ => 0)))])) → va_S A s.heap H1 locs → W p l e R s m args below meth c H1 locs (cells + 8) (slots + 455) Q (F0 m (pc + 4) ls (.ref q :: rest))) : W p l e R s m args below meth c H locs cells slots Q (F0 m pc ls (.int 64 :: .int 7 :: rest)) := by
  obtain ⟨hx, hb, hml, hr, hown, hts, hK, hA, hlk, hE⟩ := C0
  intro T hT Xs
  have hpl : e.platform.magicAccessors = ({} : Platform).magicAccessors := by rw [Xs.admits.platform]
  obtain ⟨comp, cA, kA, o1, o2, o3, o4⟩ := hover
  obtain ⟨cI, kI, cc0, a1, a2, a3⟩ := Cond.arrayClass_spec harr
  have ecI : comp = cI := Option.some.inj (o1.symm.trans a1)
  subst ecI
  have eA : cA = Y 4 := Option.some.inj (o4.symm.trans (hK.2 4 _ rfl).2)
  have eI : comp = Y 0 := Option.some.inj (a1.symm.trans (hK.2 0 _ rfl).2)
  obtain ⟨c0, b1, b2⟩ := Cond.classLink_spec hown hcl e.platform hpl
  have ec0 : c0 = cA := Option.some.inj (b1.symm.trans o4)
  subst ec0
  obtain ⟨g1, g2, g3⟩ := State.classEntry (e := e) Xs.warmed b2
  generalize T.vm.noted m.cls index (.cls c0) = vm1 at g1 g2 g3
  obtain ⟨kA1, n1, n2⟩ := g2.alike.2.2 _ _ o2
  obtain ⟨kI1, n3, n4⟩ := g2.alike.2.2 _ _ a2
  have hkA : kA1.kind = .array comp (.array .int) := by rw [n2]; exact o3
  have hkI : kI1.kind = .array cc0 .int := by rw [n4]; exact a3
  have X1 := Xs.noted g2
  obtain ⟨r1, r2⟩ := Xs.roomAbove hc hs
  have XF := zMS_stand X1 c0 comp 7
  obtain ⟨f1, f2, f3, f4⟩ := zMS_of (T.setVm vm1) c0 comp 7
  have hTh : (T.setVm vm1).heap = H := hT
  have hsz : (zMS (T.setVm vm1) c0 comp 7).heap.size = H.size + 8 := by rw [f1, hTh]
  have hold : ∀ q, q < H.size → (zMS (T.setVm vm1) c0 comp 7).heap[q]? = H[q]? := fun q hq => by
    rw [zMS_old _ _ _ (by rw [hTh]; exact hq), hTh]
  have hrow : ∀ j, j < 7 → (zMS (T.setVm vm1) c0 comp 7).heap[H.size + 1 + j]? = some (zMI comp) := fun j hj => by
    have h := zMS_row (T.setVm vm1) c0 comp 7 j hj
    rw [hTh] at h
    exact h
  have hout : (zMS (T.setVm vm1) c0 comp 7).heap[H.size]? = some (zMO c0 H.size 7) := by
    rw [hTh] at f2
    exact f2
  have hk : ∀ (k : Nat) (x : Nat × va_E), (W0 ++ X)[k]? = some x → (zMS (T.setVm vm1) c0 comp 7).heap[x.1]? = H[x.1]? := fun k x hx => hold x.1 ((hP k x hx).lt)
  have hget : ∀ (k : Nat) (x : Nat × va_E), ([(H.size, .inl (Y 4, 7, .inr (.inr (.inr (.inr (fun j => some (H.size + 1 + j))))))), (H.size + 1, .inl (Y 0, 64, .inl (fun _ => 0))), (H.size + 2, .inl (Y 0, 64, .inl (fun _ => 0))), (H.size + 3, .inl (Y 0, 64, .inl (fun _ => 0))), (H.size + 4, .inl (Y 0, 64, .inl (fun _ => 0))), (H.size + 5, .inl (Y 0, 64, .inl (fun _ => 0))), (H.size + 6, .inl (Y 0, 64, .inl (fun _ => 0))), (H.size + 7, .inl (Y 0, 64, .inl (fun _ => 0)))] : va_W)[k]? = some x → x.1 = H.size + k ∧ va_at D vwCl x (zMS (T.setVm vm1) c0 comp 7).heap := by
    intro k x hx
    have hrow2 : ∀ j, j < 7 → va_at D vwCl (H.size + (j + 1), .inl (Y 0, 64, .inl (fun _ => 0))) (zMS (T.setVm vm1) c0 comp 7).heap := fun j hj => by
      show _[_]? = some (vp_cell _ _)
      rw [show H.size + (j + 1) = H.size + 1 + j by omega, hrow j hj, eI]
      rfl
    match k, hx with
    | 0, hx =>
      cases hx
      refine ⟨rfl, ?_⟩
      show _[_]? = some (vp_cell _ _)
      rw [hout, eA]
      refine congrArg some ?_
      unfold zMO
      exact (arrV_cong (g := fun j => va_rf (some (H.size + 1 + j))) (fun j hj => by rw [if_pos hj])).trans rfl
    | 1, hx => cases hx; exact ⟨rfl, hrow2 0 (by omega)⟩
    | 2, hx => cases hx; exact ⟨rfl, hrow2 1 (by omega)⟩
    | 3, hx => cases hx; exact ⟨rfl, hrow2 2 (by omega)⟩
    | 4, hx => cases hx; exact ⟨rfl, hrow2 3 (by omega)⟩
    | 5, hx => cases hx; exact ⟨rfl, hrow2 4 (by omega)⟩
    | 6, hx => cases hx; exact ⟨rfl, hrow2 5 (by omega)⟩
    | 7, hx => cases hx; exact ⟨rfl, hrow2 6 (by omega)⟩
    | k + 8, hx => simp at hx
  have hP2 := (hP.kept hk).app (fun k x hx => (hget k x hx).2)
  have hD2 : va_D A ((W0 ++ X) ++ [(H.size, .inl (Y 4, 7, .inr (.inr (.inr (.inr (fun j => some (H.size + 1 + j))))))), (H.size + 1, .inl (Y 0, 64, .inl (fun _ => 0))), (H.size + 2, .inl (Y 0, 64, .inl (fun _ => 0))), (H.size + 3, .inl (Y 0, 64, .inl (fun _ => 0))), (H.size + 4, .inl (Y 0, 64, .inl (fun _ => 0))), (H.size + 5, .inl (Y 0, 64, .inl (fun _ => 0))), (H.size + 6, .inl (Y 0, 64, .inl (fun _ => 0))), (H.size + 7, .inl (Y 0, 64, .inl (fun _ => 0)))]) := by
    have cut : ∀ (i : Nat) (x : Nat × va_E), ((W0 ++ X) ++ [(H.size, .inl (Y 4, 7, .inr (.inr (.inr (.inr (fun j => some (H.size + 1 + j))))))), (H.size + 1, .inl (Y 0, 64, .inl (fun _ => 0))), (H.size + 2, .inl (Y 0, 64, .inl (fun _ => 0))), (H.size + 3, .inl (Y 0, 64, .inl (fun _ => 0))), (H.size + 4, .inl (Y 0, 64, .inl (fun _ => 0))), (H.size + 5, .inl (Y 0, 64, .inl (fun _ => 0))), (H.size + 6, .inl (Y 0, 64, .inl (fun _ => 0))), (H.size + 7, .inl (Y 0, 64, .inl (fun _ => 0)))])[i]? = some x → ((W0 ++ X)[i]? = some x ∧ x.1 < H.size) ∨ ((W0 ++ X).length ≤ i ∧ x.1 = H.size + (i - (W0 ++ X).length)) := by
      intro i x hx
      by_cases hi : i < (W0 ++ X).length
      · rw [List.getElem?_append_left hi] at hx
        exact Or.inl ⟨hx, (hP i x hx).lt⟩
      · rw [List.getElem?_append_right (by omega)] at hx
        exact Or.inr ⟨by omega, (hget _ x hx).1⟩
    refine ⟨fun i j x y hx hy exy => ?_, fun i x hx => ?_⟩
    · rcases cut i x hx with ⟨u1, u2⟩ | ⟨u1, u2⟩ <;> rcases cut j y hy with ⟨v1, v2⟩ | ⟨v1, v2⟩
      · exact hD.1 i j x y u1 v1 exy
      · omega
      · omega
      · omega
    · rcases cut i x hx with ⟨u1, u2⟩ | ⟨u1, u2⟩
      · exact hD.2 i x u1
      · exact hA _ (by have := hS.1; omega)
  rw [List.append_assoc] at hP2 hD2
  obtain ⟨t, k1, k2⟩ := kk H.size _ hP2 hD2 ⟨by have := hS.1; omega, fun x h1 h2 => (hold x (Nat.lt_of_lt_of_le h1 hS.1)).trans (hS.2.1 x h1 h2), hS.2.2⟩ _ rfl XF
  refine ⟨t, ?_, k2⟩
  have hl1 : ¬ 64 > e.platform.arrayLengthLimit := by rw [Launch.admits_arrayLengthLimit Xs.admits]; omega
  have hl2 : ¬ 64 * 4 > e.platform.maxHeapBytes := by rw [Launch.admits_maxHeapBytes Xs.admits]; omega
  subst hb
  jvm_step Xs.here [hx, hdg]
  simp only [Op.multianewarray.sem, wp_bind', W.resolveClassAt_links (State.method?_setTop (F0 m pc ls (.int 64 :: .int 7 :: rest)) Xs.here.top) g1]
  rw [W.popN, if_neg (by decide)]
  refine ⟨F0 m pc ls (.int 64 :: .int 7 :: rest), State.topJava?_setTop' (s := T.setVm vm1) (F0 m pc ls (.int 64 :: .int 7 :: rest)) Xs.here.top, [.int 7, .int 64], rest, rfl, rfl, ?_⟩
  simp only [List.mapM_cons, List.mapM_nil, wp_bind', wp_pure']
  refine z_wpSeven (kA := kA1) (kI := kI1) (cI := comp) (comp := cc0) n1 hkA n3 hkI hl1 hl2 (by show T.heap.size + 8 ≤ _; omega) (by show T.slotsUsed + 455 ≤ _; omega) (fun d' acts' => ?_)
  have eS : ((T.setTop (F0 m pc ls (.int 64 :: .int 7 :: rest))).setVm vm1).setTop (F0 m pc ls rest) = (T.setVm vm1).setTop (F0 m pc ls rest) := by
    show ((T.setVm vm1).setTop _).setTop _ = _
    rw [State.setTop_setTop]
  rw [eS, zMS_top]
  simp only [wp_bind', W.mark, W.pushRef, State.topJava?_setTop' _ XF.here.top, Option.some.injEq, exists_eq_left', State.setTop_setTop, State.heap_setTop]
  intro acts
  simp [jvm, XF.here.top]
  have hsT : T.heap.size = H.size := by rw [hT]
  first
    | (rw [hsT]; exact k1)
    | exact k1
end ZMP
