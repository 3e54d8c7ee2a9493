/-! THE STATE of class and reference together: numbers by cell and field, rows of ints, rows of longs, who stands in a place, the cells' addresses -/
abbrev zSt : Type := (Nat → Nat → Int32) × (Nat → Nat → Int32) × (Nat → Nat → Int64)
/-- who stands in a place (0: nobody), and the persons' addresses -/
abbrev zG : Type := (Nat → Nat) × (Nat → Nat)
abbrev zsc (S : zSt) : Nat → Nat → Int32 := S.1
abbrev zar (S : zSt) : Nat → Nat → Int32 := S.2.1
abbrev zlo (S : zSt) : Nat → Nat → Int64 := S.2.2
abbrev zpk (G : zG) : Nat → Nat := G.1
/-- the address of a cell: below 100 for good, of a person by G -/
def zad (F : Nat → Nat) (G : zG) (k : Nat) : Nat := if k < 100 then F k else G.2 k
/-- one number of a cell becomes v -/
def zP (S : zSt) (k f : Nat) (v : Int32) : zSt := (fun a => if a = k then (fun b => if b = f then v else S.1 k b) else S.1 a, S.2)
/-- a row of ints becomes g -/
def zA (S : zSt) (k : Nat) (g : Nat → Int32) : zSt := (S.1, fun a => if a = k then g else S.2.1 a, S.2.2)
/-- a row of longs becomes g -/
def zL (S : zSt) (k : Nat) (g : Nat → Int64) : zSt := (S.1, S.2.1, fun a => if a = k then g else S.2.2 a)
/-- how long the fixed rows of ints are -/
def zlen (k : Nat) : Nat := if k < 3 then 8 else if k < 8 then 6 else if k < 10 then 36 else if k = 10 then 288 else if k = 11 then 3 else if k = 12 then 20 else if k = 13 then 8 else if k < 16 then 387 else if k < 19 then 6 else if k = 22 then 8 else if k = 23 then 36 else 6
/-- what the cell k holds, by the addresses, the places, its own numbers and rows. 0 to 18 the reference, 20 the class, 21 to 34 its rows, 40 to 55 shelves, 56 the trace, 60 to 68 lands, 70 the reader, from 100 on four cells a person -/
def zBb (Y : Nat → ClassId) (av pv : Nat → Nat) (k : Nat) (sv rv : Nat → Int32) (lv : Nat → Int64) : va_E :=
  if k = 0 then .inr (12, [.ref (av 1), .ref (av 2), .ref (av 3), .int (sv 3), .ref (av 4), .ref (av 5), .ref (av 6), .ref (av 7), .ref (av 8), .ref (av 9), .ref (av 10), .int (sv 11), .int (sv 12), .int (sv 13), .int (sv 14), .int (sv 15), .ref (av 11), .int (sv 17), .ref (av 12), .ref (av 13), .int (sv 20), .ref (av 14), .ref (av 15), .ref (av 16), .ref (av 17), .ref (av 18), .int (sv 26)])
  else if k = 3 then .inl (Y 1, 1280, .inr (.inl lv))
  else if k < 19 then .inl (Y 0, zlen k, .inl rv)
  else if k = 20 then .inr (11, [.ref (av 21), .ref (av 22), .ref (av 56), .ref (av 60), .ref (av 63), .ref (av 66), .ref (av 70), .ref (av 23), .ref (av 24), .ref (av 25), .ref (av 26), .ref (av 27), .int (sv 12), .int (sv 13)])
  else if k = 21 then .inl (Y 3, 8, .inr (.inr (.inr (.inr (fun j => some (av (40 + 2 * j)))))))
  else if k < 27 then .inl (Y 0, zlen k, .inl rv)
  else if k = 27 then .inl (Y 4, 7, .inr (.inr (.inr (.inr (fun j => some (av (28 + j)))))))
  else if k < 40 then .inl (Y 0, 64, .inl rv)
  else if k < 56 then (if k % 2 = 0 then .inr (7, [.ref (av (k + 1)), .int (sv 1), .int (sv 2)]) else .inl (Y 1, 160, .inr (.inl lv)))
  else if k = 56 then .inr (9, [.ref (av 57), .int (sv 1)])
  else if k = 57 then .inl (Y 0, 20, .inl rv)
  else if k < 69 then (if k % 3 = 0 then .inr (4, [.ref (av (k + 1)), .ref (av (k + 2)), .ref (av 56), .int (sv 3), .int (sv 4), .int (sv 5)]) else if k % 3 = 1 then .inl (Y 2, 6, .inr (.inr (.inr (.inr (fun j => if pv (2 * (k - 61) + j) = 0 then none else some (av (100 + 4 * (2 * (k - 61) + j)))))))) else .inl (Y 0, 6, .inl rv))
  else if k = 70 then .inr (6, [.ref (av 63), .ref (av 71), .int (sv 2), .int (sv 3), .int (sv 4), .int (sv 5), .int (sv 6), .int (sv 7), .int (sv 8), .int (sv 9)])
  else if k = 71 then .inl (Y 0, 160, .inl rv)
  else if k % 4 = 0 then .inr (pv ((k - 100) / 4) - 1, [.int (sv 0), .int (sv 1), .ref (av 56), .ref (av (k + 1)), .ref (av (k + 2)), .ref (av (k + 3)), .int (sv 6), .int (sv 7), .int (sv 8)])
  else if k % 4 = 1 then .inl (Y 0, 48, .inl rv)
  else .inl (Y 0, 6, .inl rv)
def zB (Y : Nat → ClassId) (F : Nat → Nat) (G : zG) (S : zSt) (k : Nat) : va_E := zBb Y (zad F G) (zpk G) k (zsc S k) (zar S k) (zlo S k)
/-- the cells that are there -/
def zE (G : zG) (k : Nat) : Bool := decide (k < 19) || (decide (20 ≤ k) && decide (k < 35)) || (decide (40 ≤ k) && decide (k < 58)) || (decide (60 ≤ k) && decide (k < 69)) || decide (k = 70) || decide (k = 71) || (decide (100 ≤ k) && decide (k < 172) && !(zpk G ((k - 100) / 4) == 0))
def zIds (G : zG) : List Nat := (List.range 172).filter (zE G)
def zW (Y : Nat → ClassId) (F : Nat → Nat) (G : zG) (S : zSt) : va_W := (zIds G).map (fun k => (zad F G k, zB Y F G S k))
def zT (Y : Nat → ClassId) : List (ClassId × FieldType) := [(Y 0, .int), (Y 1, .long), (Y 2, .object "CarbonCopies$Person"), (Y 3, .object "CarbonCopies$Shelf"), (Y 4, .array .int)]
def zH (D : va_G) (Y : Nat → ClassId) (F : Nat → Nat) (A : Nat → Prop) (G : zG) (S : zSt) (H : Heap) : Prop := va_P D vwCl (zW Y F G S) H ∧ va_D A (zW Y F G S)
/-- what a call that begins in S, in a heap of sz cells, may write -/
def zAo (F : Nat → Nat) (G : zG) (sz : Nat) : Nat → Prop := fun q => (∃ k, zE G k = true ∧ zad F G k = q) ∨ sz ≤ q
theorem zE_lt {G : zG} {k : Nat} (h : zE G k = true) : k < 172 := by
  simp only [zE, Bool.or_eq_true, Bool.and_eq_true, decide_eq_true_eq] at h
  omega
theorem zIds_mem {G : zG} {k : Nat} (h : zE G k = true) : k ∈ zIds G := List.mem_filter.mpr ⟨List.mem_range.mpr (zE_lt h), h⟩
theorem zIds_of {G : zG} {k : Nat} (h : k ∈ zIds G) : zE G k = true := (List.mem_filter.mp h).2
theorem zAt {Y : Nat → ClassId} {F : Nat → Nat} {G : zG} {S : zSt} {k : Nat} (h : zE G k = true) : ∃ q : Nat, (zW Y F G S)[q]? = some (zad F G k, zB Y F G S k) ∧ (zIds G)[q]? = some k := by
  obtain ⟨q, hq⟩ := List.getElem?_of_mem (zIds_mem h)
  exact ⟨q, by unfold zW; rw [List.getElem?_map, hq]; rfl, hq⟩
theorem zIds_nodup (G : zG) : (zIds G).Nodup := List.nodup_range.filter _
theorem zW_set {Y : Nat → ClassId} {F : Nat → Nat} {G : zG} {S S' : zSt} {q k : Nat} {e : va_E} (hi : (zIds G)[q]? = some k) (h3 : ∀ j, j ≠ k → zB Y F G S' j = zB Y F G S j) (h4 : zB Y F G S' k = e) : (zW Y F G S).set q (zad F G k, e) = zW Y F G S' := by
  unfold zW
  apply List.ext_getElem?
  intro i
  rw [List.getElem?_set, List.getElem?_map, List.getElem?_map]
  by_cases hq : q = i
  · subst hq
    obtain ⟨hl, he⟩ := List.getElem?_eq_some_iff.mp hi
    simp [hl, he, h4]
  · rw [if_neg hq]
    cases hj : (zIds G)[i]? with
    | none => rfl
    | some j =>
      have hne : j ≠ k := fun e => by
        subst e
        obtain ⟨a1, b1⟩ := List.getElem?_eq_some_iff.mp hi
        obtain ⟨a2, b2⟩ := List.getElem?_eq_some_iff.mp hj
        exact hq ((List.getElem_inj (zIds_nodup G)).mp (b1.trans b2.symm))
      simp [h3 j hne]
section ZS
variable {D : va_G} {Y : Nat → ClassId} {F : Nat → Nat} {A : Nat → Prop} {G : zG} {S : zSt} {H : Heap}
theorem zH.addr (h : zH D Y F A G S H) {k : Nat} (hk : zE G k = true) : A (zad F G k) := by
  obtain ⟨q, hq, -⟩ := zAt (Y := Y) (F := F) (S := S) hk
  exact h.2.2 q _ hq
theorem zH.one (h : zH D Y F A G S H) {k : Nat} (hk : zE G k = true) : va_P D vwCl [(zad F G k, zB Y F G S k)] H := by
  obtain ⟨q, hq, -⟩ := zAt (Y := Y) (F := F) (S := S) hk
  intro i x hx
  match i, hx with
  | 0, hx => cases hx; exact h.1 q _ hq
  | i + 1, hx => simp at hx
theorem zH.weaken {A' : Nat → Prop} (h : zH D Y F A G S H) (hA : ∀ q, A q → A' q) : zH D Y F A' G S H := ⟨h.1, h.2.weaken (fun _ _ _ q => hA _ q)⟩
theorem zH.self {sz : Nat} (h : zH D Y F A G S H) : zH D Y F (zAo F G sz) G S H := by
  refine ⟨h.1, h.2.1, fun k q hk => ?_⟩
  unfold zW at hk
  rw [List.getElem?_map] at hk
  cases hj : (zIds G)[k]? with
  | none => rw [hj] at hk; cases hk
  | some j =>
    rw [hj] at hk
    cases hk
    exact Or.inl ⟨j, zIds_of (List.mem_of_getElem? hj), rfl⟩
theorem zAo_sub {H0 : Heap} {locs : List Loc} (h : zH D Y F A G S H) (hS : va_S A H0 H locs) (hA : ∀ q, H0.size ≤ q → A q) : ∀ q, zAo F G H.size q → A q := by
  intro q hq
  rcases hq with ⟨k, hk, rfl⟩ | hq
  · exact h.addr hk
  · exact hA q (Nat.le_trans hS.1 hq)
theorem zP_sc {k f j : Nat} {v : Int32} (h : j ≠ k) : zsc (zP S k f v) j = zsc S j := if_neg h
theorem zA_ar {k j : Nat} {g : Nat → Int32} (h : j ≠ k) : zar (zA S k g) j = zar S j := if_neg h
theorem zL_lo {k j : Nat} {g : Nat → Int64} (h : j ≠ k) : zlo (zL S k g) j = zlo S j := if_neg h
theorem zP_sc' {k f : Nat} {v : Int32} : zsc (zP S k f v) k = fun b => if b = f then v else zsc S k b := if_pos rfl
theorem zA_ar' {k : Nat} {g : Nat → Int32} : zar (zA S k g) k = g := if_pos rfl
theorem zL_lo' {k : Nat} {g : Nat → Int64} : zlo (zL S k g) k = g := if_pos rfl
theorem zB_P {k f : Nat} {v : Int32} (j : Nat) (h : j ≠ k) : zB Y F G (zP S k f v) j = zB Y F G S j := by
  show zBb Y (zad F G) (zpk G) j (zsc (zP S k f v) j) (zar S j) (zlo S j) = _
  rw [zP_sc h]; rfl
theorem zB_A {k : Nat} {g : Nat → Int32} (j : Nat) (h : j ≠ k) : zB Y F G (zA S k g) j = zB Y F G S j := by
  show zBb Y (zad F G) (zpk G) j (zsc S j) (zar (zA S k g) j) (zlo S j) = _
  rw [zA_ar h]; rfl
theorem zB_L {k : Nat} {g : Nat → Int64} (j : Nat) (h : j ≠ k) : zB Y F G (zL S k g) j = zB Y F G S j := by
  show zBb Y (zad F G) (zpk G) j (zsc S j) (zar S j) (zlo (zL S k g) j) = _
  rw [zL_lo h]; rfl
end ZS
/-- a row of ints at k, of n places -/
def zRi (k n : Nat) : Prop := ∀ (Y : Nat → ClassId) (av pv : Nat → Nat) (sv rv : Nat → Int32) (lv : Nat → Int64), zBb Y av pv k sv rv lv = .inl (Y 0, n, .inl rv)
/-- a row of longs at k, of n places -/
def zRl (k n : Nat) : Prop := ∀ (Y : Nat → ClassId) (av pv : Nat → Nat) (sv rv : Nat → Int32) (lv : Nat → Int64), zBb Y av pv k sv rv lv = .inl (Y 1, n, .inr (.inl lv))
/-! what no table's row gives: links among nest mates, casts, texts -/
def zNest : List (String × Nat × MethodName × String) := [(RX5, 66, yX11_isCopy, RX11), (RX5, 70, yX11_isDeed, RX11), (RX4, 115, yX11_isCopy, RX11), (RX4, 112, yX11_isDeed, RX11), (RX11, 75, yX7_init, RX11), (RX11, 21, yX9_init, RX11)]
def zCast : List (String × String) := [(RX0, RX3), (RX1, RX8), (RX10, RX2), (RX0, RX5), (RX1, RX5), (RX2, RX5), (RX3, RX5), (RX8, RX5), (RX10, RX5)]
def zNoc : List (String × String) := [(RX0, RX8), (RX0, RX2), (RX0, RX10), (RX0, RX1), (RX1, RX2), (RX1, RX10), (RX1, RX3), (RX1, RX0), (RX2, RX8), (RX2, RX10), (RX2, RX3), (RX2, RX0), (RX2, RX1), (RX3, RX8), (RX3, RX2), (RX3, RX10), (RX3, RX0), (RX3, RX1), (RX5, RX8), (RX5, RX2), (RX5, RX10), (RX5, RX3), (RX5, RX0), (RX5, RX1), (RX8, RX2), (RX8, RX10), (RX8, RX3), (RX8, RX0), (RX8, RX1), (RX10, RX8), (RX10, RX3), (RX10, RX0), (RX10, RX1)]
def zLen : List Nat := [6, 5, 3, 4, 5, 4]
def zByt : List (List Int32) := [[112, 101, 114, 115, 111, 110], [112, 114, 101, 115, 115], [114, 117, 98], [100, 105, 101, 115], [108, 101, 97, 115, 116], [114, 101, 115, 115]]
def zStrs : List (String × Nat × String × Nat) := [(RX6, 112, "person", 0), (RX6, 125, "press", 1), (RX6, 133, "rub", 2), (RX6, 135, "dies", 3), (RX6, 137, "least", 4), (RX12, 166, "rub", 2), (RX12, 178, "dies", 3), (RX12, 180, "least", 4), (RX12, 181, "person", 0), (RX12, 186, "ress", 5)]
/-- for the one super call whose target stands two classes above -/
def zXtra : List Cond := [.methodLink RX1 30 ⟨"CarbonCopies$Top", "goes", "(I)I"⟩, .sameMethod "CarbonCopies$Top" "CarbonCopies$Person" "goes" "(I)I", .superclass RX1 RX8, .initialized RX5, .instanceMethod yX5_goes, .superclass RX8 RX5] ++ wsX5_goes
set_option maxRecDepth 20000 in
theorem zXtra_good : GoodIn zXtra zXtra := goodIn_of _ (by decide +kernel)
def zN (F : Nat → Nat) (A : Nat → Prop) (U : State) (H : Heap) : Prop := (∀ q ∈ zNest, va_Nw (.methodLinkNest q.1 q.2.1 q.2.2.1 q.2.2.2) U) ∧ (∀ q ∈ zCast, va_Nw (.castable q.1 q.2) U) ∧ (∀ q ∈ zNoc, va_Nc q.1 q.2 U) ∧ vk_S 6 zLen zByt (fun i => F (200 + i)) (fun i => F (220 + i)) A U H ∧ (∀ q ∈ zStrs, vk_R q.1 q.2.1 q.2.2.1 (F (200 + q.2.2.2)) U) ∧ (∀ w ∈ zXtra, w.before #[] U = true) ∧ va_Z "java/lang/String" "COMPACT_STRINGS" "Z" (.int 1) A U H ∧ va_Zq "jdk/internal/util/Preconditions" "SIOOBE_FORMATTER" "Ljava/util/function/BiFunction;" A U H
theorem zN.same {F : Nat → Nat} {A : Nat → Prop} {u U : State} {H : Heap} (hv : u.vm = U.vm) (h : zN F A u H) : zN F A U H := ⟨fun q hq => va_Nw.same rfl hv (h.1 q hq), fun q hq => va_Nw.same rfl hv (h.2.1 q hq), fun q hq => va_Nc.moved (by rw [hv]; exact Vm.Alike.refl _) (h.2.2.1 q hq), vk_S.moved (by rw [hv]; exact Vm.Alike.refl _) h.2.2.2.1, fun q hq => vk_R.same hv.symm (h.2.2.2.2.1 q hq), fun w hw => pay_in h.2.2.2.2.2.1 zXtra_good w hw #[] U (by rw [← hv]; exact State.WarmedH.refl u), va_Z.moved (by rw [hv]; exact Vm.Alike.refl _) h.2.2.2.2.2.2.1, va_Zq.moved (by rw [hv]; exact Vm.Alike.refl _) h.2.2.2.2.2.2.2⟩
theorem zN_call {F : Nat → Nat} {A A' : Nat → Prop} {s U : State} {H : Heap} {locs : List Loc} (h : zN F A s s.heap) (hS : va_S A s.heap H locs) (hA : ∀ q, A' q → A q) (hW : s.WarmedH U.vm) (hU : U.heap = H) : zN F A' U U.heap := by
  rw [hU]
  exact ⟨fun q hq => va_Nw.warmM hW (h.1 q hq), fun q hq => va_Nw.warmC hW (h.2.1 q hq), fun q hq => va_Nc.moved hW.alike (h.2.2.1 q hq), vk_S.narrow (vk_S.moved hW.alike (vk_S.kept h.2.2.2.1 hS.2.1)) hA, fun q hq => vk_R.warm hW (h.2.2.2.2.1 q hq), fun w hw => pay_in h.2.2.2.2.2.1 zXtra_good w hw #[] U hW, va_Z.narrow (va_Z.moved hW.alike (va_Z.kept h.2.2.2.2.2.2.1 hS.2.1)) hA, va_Zq.narrow (va_Zq.moved hW.alike (va_Zq.kept h.2.2.2.2.2.2.2 hS.2.1)) hA⟩
/-! the conditions that hold from a method's entry to its end -/
def zCx (p : Program) (s : State) (m : MethodId) (args : Array Value) (meth : Method) (c : Code) (D : va_G) (Y : Nat → ClassId) (F : Nat → Nat) (A : Nat → Prop) (own : String) (cc : ByteArray) (nL : Nat) (ret : Option FieldType) (ws : List Cond) : Prop :=
  p.tables.exec = Jvm.exec ∧ c.code = cc ∧ c.maxLocals = nL ∧ meth.sig.returnType = ret ∧ s.vm.findClass own = some m.cls ∧ (∀ w ∈ ws, w.before args s = true) ∧ va_K D vwCl (zT Y) s ∧ (∀ q, s.heap.size ≤ q → A q) ∧ meth.locks = false ∧ zN F A s s.heap
def zPc (D : va_G) (Y : Nat → ClassId) (F : Nat → Nat) (G : zG) (S : zSt) (sz : Nat) (av : List Value) : Array Value → State → Prop := va_Pc av (fun U => U.heap.size = sz ∧ zH D Y F (fun _ => True) G S U.heap ∧ va_K D vwCl (zT Y) U ∧ zN F (zAo F G sz) U U.heap)
def zU (D : va_G) (Y : Nat → ClassId) (F : Nat → Nat) (A : Nat → Prop) (G : zG) (S : zSt) (t : State) : Prop := zH D Y F A G S t.heap ∧ va_K D vwCl (zT Y) t
def zQi (D : va_G) (Y : Nat → ClassId) (F : Nat → Nat) (A : Nat → Prop) (G : zG) (res : Int32 × zSt) : Array Value → State → Outcome → State → Prop := va_Qi (fun r u => (r, u) = res) (zU D Y F A G) A
def zQl (D : va_G) (Y : Nat → ClassId) (F : Nat → Nat) (A : Nat → Prop) (G : zG) (res : Int64 × zSt) : Array Value → State → Outcome → State → Prop := va_Ql (fun r u => (r, u) = res) (zU D Y F A G) A
def zQv (D : va_G) (Y : Nat → ClassId) (F : Nat → Nat) (A : Nat → Prop) (G : zG) (res : zSt) : Array Value → State → Outcome → State → Prop := va_Qv (fun u => u = res) (zU D Y F A G) A
/-- an answer that is a cell or null: by its address -/
def zQq (D : va_G) (Y : Nat → ClassId) (F : Nat → Nat) (A : Nat → Prop) (G : zG) (S : zSt) (res : Option Nat) : Array Value → State → Outcome → State → Prop := va_Qq (fun r u => r = res ∧ u = S) (zU D Y F A G) A
theorem zPc_blind {D : va_G} {Y : Nat → ClassId} {F : Nat → Nat} {G : zG} {S : zSt} {sz : Nat} {av : List Value} : FrameBlind (zPc D Y F G S sz av) := fun a U g mk q => by
  obtain ⟨q0, q1, q2, q3, q4⟩ := q
  exact ⟨q0, q1, q2, va_K.moved (u := U) (U := U.calling g mk a) (Vm.Alike.refl U.vm) q3, zN.same (u := U) (U := U.calling g mk a) rfl q4⟩
theorem zMet {l : Launch} {y : MethodName} {ws ws' : List Cond} {rm : Room} {D : va_G} {Y : Nat → ClassId} {F : Nat → Nat} {G : zG} {S : zSt} {sz : Nat} {av : List Value} {Qc : Array Value → State → Outcome → State → Prop} {mc ms : Nat} {cc : ByteArray} {maxL : Nat} {ret : Option FieldType} {own : String}
    (hy : plainName y.cls = true) (ho : y.cls = own) (hw : ws = Cond.code y cc maxL ret :: ws') (hlen : (lg_sl av).length ≤ maxL)
    (body : ∀ p e s m args below meth c, zCx p s m args meth c D Y F (zAo F G sz) own cc maxL ret ws → (y.name = "<init>" → meth.name = "<init>") → zH D Y F (zAo F G sz) G S s.heap → va_S (zAo F G sz) s.heap s.heap [] → ∀ ls, lv_has ls maxL (lv_args 0 av) → W p l e rm s m args below meth c s.heap [] 0 0 (MQ below Qc args s mc ms (zAo F G sz)) (F0 m 0 ls [])) : Met l y ws rm (zPc D Y F G S sz av) Qc mc ms (zAo F G sz) := by
  refine Met.ofW hy hw ?_
  intro p e s m args below meth c s₁ B hml hv
  obtain ⟨rfl, hsz, hP, hK, hN⟩ := hv
  have hts := atoms_spec (ws := ws) B.pre
  have hown : s.vm.findClass own = some m.cls := by rw [← ho]; exact findClass_of_methodNamed B.named
  have hl := lv_entry av (n := maxL) hlen
  rw [lg_entry_eq]
  have hin : y.name = "<init>" → meth.name = "<init>" := fun h => (name_of_methodNamed B.named B.method).1.trans h
  exact body p e s m _ below meth c ⟨B.exec, B.bytes, hml, B.returns, hown, hts, hK, fun q hq => Or.inr (by rw [← hsz]; exact hq), B.notSynchronized, hN⟩ hin (hP.self) va_S.rf _ hl
/-- what a mirror must have looked at -/
def zg {α : Type} (b : Bool) (x : Option α) : Option α := if b = true then x else none
theorem z_gd {α : Type} {b : Bool} {x : Option α} {r : α} (h : zg b x = some r) : b = true ∧ x = some r := by
  unfold zg at h
  by_cases hb : b = true
  · rw [if_pos hb] at h; exact ⟨hb, h⟩
  · rw [if_neg hb] at h; cases h
theorem zg_t {α : Type} {b : Bool} (x : Option α) (h : b = true) : zg b x = x := if_pos h
theorem z_ifp {α : Type} {q : Prop} [Decidable q] {x y : Option α} {r : α} (hq : q) (h : (if q then x else y) = some r) : x = some r := by rw [if_pos hq] at h; exact h
theorem z_ifn {α : Type} {q : Prop} [Decidable q] {x y : Option α} {r : α} (hq : ¬ q) (h : (if q then x else y) = some r) : y = some r := by rw [if_neg hq] at h; exact h
theorem z_bd {α β : Type} {x : Option α} {f : α → Option β} {r : β} (h : Option.bind x f = some r) : ∃ w, x = some w ∧ f w = some r := Option.bind_eq_some_iff.mp h
/-- the index i is within n -/
def zin (i : Int32) (n : Nat) : Bool := !(decide (i < 0) || decide (n ≤ i.toNatClampNeg))
theorem zin_in {i : Int32} {n : Nat} (h : zin i n = true) : vp_in i n := by
  unfold zin at h
  simp only [Bool.not_eq_true', Bool.or_eq_false_iff, decide_eq_false_iff_not] at h
  exact fun q => q.elim h.1 h.2
/-- so many rounds at most of any loop -/
def zF : Nat := 4096
abbrev zRm (f n : Nat) : Room := { frames := f, cells := 0, slots := 0, locals := n }
