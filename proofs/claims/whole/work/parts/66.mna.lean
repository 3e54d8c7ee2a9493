/-! SEVEN ROWS OF 64 INTS AT ONE STROKE (one instruction of the class's constructor) -/
def zMO (cA : ClassId) (h0 i : Nat) : Cell := arrV cA 7 (fun j => va_rf (if j < i then some (h0 + 1 + j) else none))
def zMI (cI : ClassId) : Cell := arrV cI 64 (fun _ => .int 0)
def zMS (T : State) (cA cI : ClassId) : Nat → State
  | 0 => T.pushCell (zMO cA T.heap.size 0)
  | i + 1 => ((zMS T cA cI i).pushCell (zMI cI)).setCell T.heap.size (zMO cA T.heap.size (i + 1))
theorem zMO_set (cA : ClassId) (h0 i : Nat) : (zMO cA h0 i).setSlot i (.ref (h0 + 1 + i)) = zMO cA h0 (i + 1) := by
  unfold zMO
  rw [arrV_store]
  refine congrArg (arrV cA 7) (funext fun j => ?_)
  unfold updV
  by_cases h : j = i
  · subst h
    rw [if_pos rfl, if_pos (Nat.lt_succ_self _)]
    rfl
  · rw [if_neg h]
    show va_rf (if j < i then some (h0 + 1 + j) else none) = _
    by_cases h2 : j < i
    · rw [if_pos h2, if_pos (by omega)]
    · rw [if_neg h2, if_neg (by omega)]
theorem zMO_size (cA : ClassId) (h0 i : Nat) : (zMO cA h0 i).slots.size = 7 := arrV_size _ _ _
theorem zMI_size (cI : ClassId) : (zMI cI).slots.size = 64 := arrV_size _ _ _
theorem zMS_of (T : State) (cA cI : ClassId) (i : Nat) : (zMS T cA cI i).heap.size = T.heap.size + 1 + i ∧ (zMS T cA cI i).heap[T.heap.size]? = some (zMO cA T.heap.size i) ∧ (zMS T cA cI i).vm = T.vm ∧ (zMS T cA cI i).slotsUsed = T.slotsUsed + 7 + i * 64 := by
  induction i with
  | zero => exact ⟨size_pushCell _ _, State.heap_pushCell_size _ _, rfl, by simp [zMS, zMO_size]⟩
  | succ i ih =>
    obtain ⟨a, b, d, u⟩ := ih
    have hlt : T.heap.size < (zMS T cA cI i).heap.size := by omega
    have hb : ((zMS T cA cI i).pushCell (zMI cI)).heap[T.heap.size]? = some (zMO cA T.heap.size i) := by
      rw [State.heap_pushCell_of_lt (h := hlt)]
      exact b
    refine ⟨?_, State.heap_setCell_self hb, ?_, ?_⟩
    · show (State.setCell _ _ _).heap.size = _
      rw [size_setCell, size_pushCell, a]
      omega
    · show (zMS T cA cI i).vm = _
      exact d
    · simp [zMS, u, zMI_size]
      omega
theorem zMS_old (T : State) (cA cI : ClassId) {q : Nat} (hq : q < T.heap.size) (i : Nat) : (zMS T cA cI i).heap[q]? = T.heap[q]? := by
  induction i with
  | zero => exact State.heap_pushCell_of_lt _ _ hq
  | succ i ih =>
    have f := (zMS_of T cA cI i).1
    show (State.setCell _ _ _).heap[q]? = _
    have hlt : q < (zMS T cA cI i).heap.size := by omega
    rw [State.heap_setCell_other (Nat.ne_of_gt hq), State.heap_pushCell_of_lt (h := hlt), ih]
theorem zMS_row (T : State) (cA cI : ClassId) (i : Nat) : ∀ j, j < i → (zMS T cA cI i).heap[T.heap.size + 1 + j]? = some (zMI cI) := by
  induction i with
  | zero => intro j h; exact absurd h (Nat.not_lt_zero _)
  | succ i ih =>
    intro j h
    have f := (zMS_of T cA cI i).1
    show (State.setCell _ _ _).heap[_]? = _
    have hne : T.heap.size ≠ T.heap.size + 1 + j := by omega
    rw [State.heap_setCell_other hne]
    by_cases hj : j < i
    · have hlt : T.heap.size + 1 + j < (zMS T cA cI i).heap.size := by omega
      rw [State.heap_pushCell_of_lt (h := hlt)]
      exact ih j hj
    · rw [show T.heap.size + 1 + j = (zMS T cA cI i).heap.size by omega]
      exact State.heap_pushCell_size _ _
theorem zMS_top (T : State) (f : JFrame) (cA cI : ClassId) (i : Nat) : zMS (T.setTop f) cA cI i = (zMS T cA cI i).setTop f := by
  induction i with
  | zero => rfl
  | succ i ih => simp only [zMS, ih, State.heap_setTop, State.pushCell_setTop, State.setCell_setTop]
section ZMN
variable {p : Program} {l : Launch} {e : Env} {R : Room} {s : State} {m : MethodId} {args : Array Value} {below : List Frame} {meth : Method} {c : Code}
theorem zMS_stand {T : State} {locs : List Loc} {cells slots : Nat} (X : Stand p l e R s m args below meth c T locs cells slots) (cA cI : ClassId) (i : Nat) : Stand p l e R s m args below meth c (zMS T cA cI i) locs (cells + 1 + i) (slots + 7 + i * 64) := by
  induction i with
  | zero =>
    have h := X.pushed (zMO cA T.heap.size 0)
    rw [zMO_size] at h
    exact h
  | succ i ih =>
    have f := zMS_of T cA cI i
    have hlt : T.heap.size < (zMS T cA cI i).heap.size := by omega
    have hb : ((zMS T cA cI i).pushCell (zMI cI)).heap[T.heap.size]? = some (zMO cA T.heap.size i) := by
      rw [State.heap_pushCell_of_lt (h := hlt)]
      exact f.2.1
    have h := (ih.pushed (zMI cI)).stored hb i (.ref (T.heap.size + 1 + i))
    rw [zMI_size, zMO_set] at h
    have h2 := h.dropFresh (fun x hx => by
      rw [List.mem_singleton] at hx
      subst hx
      exact X.heapGrown)
    have e1 : slots + 7 + (i + 1) * 64 = slots + 7 + i * 64 + 64 := by omega
    rw [e1]
    exact h2
/-- an array is made where there is room -/
theorem z_wpNew {E : CtlPost} {d : Bool} {acts : List Action} {U : State} {cA comp : ClassId} {k : Class} {ty : FieldType} {N : Nat} {x : Value} (hk : U.vm.classes[cA]? = some k) (hkind : k.kind = .array comp ty) (h1 : ¬ N > e.platform.arrayLengthLimit) (h2 : ¬ N * componentBytes ty > e.platform.maxHeapBytes) (hfit : fits ty x = true) (hdef : x.isDefault = true) (hc : U.heap.size < e.platform.maxCells) (hs : U.slotsUsed + N ≤ e.platform.maxSlots) {Q : Addr → Pre} (hq : Q U.heap.size d acts (U.pushCell (arrV cA N (fun _ => x)))) : wp (Jvm.newArray cA N x) Q E e d acts U := by
  have hall : (Array.replicate N x).all (·.isDefault) = true := by
    rw [Array.all_replicate]
    split
    · rfl
    · simp [hdef]
  have hact : allocActs (Array.replicate N x) U.heap.size acts = acts := by
    unfold allocActs
    rw [if_pos hall]
  have hfits : ∀ (i : Nat) (v : Value), (Array.replicate N x)[i]? = some v → U.fitsSlot cA .none i v = true := by
    intro i v hv
    rw [Array.getElem?_replicate] at hv
    split at hv
    · cases hv
      simp [State.fitsSlot, State.slotType?, hk, hkind, hfit]
    · cases hv
  rw [← arrV_new] at hq
  simp only [Jvm.newArray, Jvm.arrayFits, wp_bind', W.ask, W.ite, h1, if_false, wp_pure', W.theClass, hk, hkind, h2, W.alloc, W.stop, Option.some.injEq, exists_eq_left', Array.size_replicate, hact]
  rw [if_neg (by omega)]
  exact ⟨hc, hs, hfits, hq⟩
end ZMN
