def zG0 : zG := (fun _ => 0, fun _ => 0)
def zH0 : Nat → Int32 := upd (upd (upd (upd (upd (upd (upd (upd (fun _ => 0) (Int32.toNatClampNeg 0) (-1)) (Int32.toNatClampNeg 1) (-1)) (Int32.toNatClampNeg 2) (-1)) (Int32.toNatClampNeg 3) (-1)) (Int32.toNatClampNeg 4) (-1)) (Int32.toNatClampNeg 5) (-1)) (Int32.toNatClampNeg 6) (-1)) (Int32.toNatClampNeg 7) (-1)
def zS0 : zSt := (fun k => if k = 0 then (fun f => if f = 11 then 10 else if f = 12 then 1 else if f = 15 then -1 else 0) else if k = 20 then (fun f => if f = 13 then -1 else 0) else if 40 ≤ k ∧ k < 56 then (fun f => if f = 1 then -1 else 0) else if k = 60 ∨ k = 63 ∨ k = 66 then (fun f => if f = 4 then 10 else if f = 5 then 1 else 0) else if k = 70 then (fun f => if f = 4 then -1 else if f = 6 then -1 else 0) else fun _ => 0, fun k => if k = 1 then zH0 else fun _ => 0, fun _ _ => 0)
def zIx : List Nat := [44, 45, 46, 47, 48, 49, 50, 51, 52, 53, 54, 55, 56, 57, 58, 59, 60, 61, 62, 99, 0, 1, 2, 16, 17, 18, 19, 20, 21, 22, 23, 24, 25, 26, 27, 99, 99, 99, 99, 99, 28, 29, 30, 31, 32, 33, 34, 35, 36, 37, 38, 39, 40, 41, 42, 43, 3, 4, 99, 99, 5, 6, 7, 8, 9, 10, 11, 12, 13, 99, 14, 15]
def zIv : List Nat := [20, 21, 22, 56, 57, 60, 61, 62, 63, 64, 65, 66, 67, 68, 70, 71, 23, 24, 25, 26, 27, 28, 29, 30, 31, 32, 33, 34, 40, 41, 42, 43, 44, 45, 46, 47, 48, 49, 50, 51, 52, 53, 54, 55, 0, 1, 2, 3, 4, 5, 6, 7, 8, 9, 10, 11, 12, 13, 14, 15, 16, 17, 18]
def zL0 : List Nat := [0, 1, 2, 3, 4, 5, 6, 7, 8, 9, 10, 11, 12, 13, 14, 15, 16, 17, 18, 20, 21, 22, 23, 24, 25, 26, 27, 28, 29, 30, 31, 32, 33, 34, 40, 41, 42, 43, 44, 45, 46, 47, 48, 49, 50, 51, 52, 53, 54, 55, 56, 57, 60, 61, 62, 63, 64, 65, 66, 67, 68, 70, 71]
def zA0 (a : Nat) (u : Nat → Nat) (a2 : Nat) (v : Nat → Nat) : List Nat := [a2, (v 0), (v 1), (v 2), (v 3), (v 4), (v 5), (v 6), (v 7), (v 8), (v 9), (v 10), (v 11), (v 12), (v 13), (v 14), (v 15), (v 16), (v 17), 0, a, (u 0), (u 1), (u 15), (u 16), (u 17), (u 18), (u 19), ((u 19) + 1), ((u 19) + 2), ((u 19) + 3), ((u 19) + 4), ((u 19) + 5), ((u 19) + 6), ((u 19) + 7), 0, 0, 0, 0, 0, (u 20), (u 21), (u 22), (u 23), (u 24), (u 25), (u 26), (u 27), (u 28), (u 29), (u 30), (u 31), (u 32), (u 33), (u 34), (u 35), (u 2), (u 3), 0, 0, (u 4), (u 5), (u 6), (u 7), (u 8), (u 9), (u 10), (u 11), (u 12), 0, (u 13), (u 14)]
/-- the addresses, by the constructors' cells and the texts' -/
def zF0 (a : Nat) (u : Nat → Nat) (a2 : Nat) (v : Nat → Nat) (tx ty : Nat → Nat) : Nat → Nat := fun k => if k < 200 then (zA0 a u a2 v).getD k 0 else if k < 220 then tx (k - 200) else ty (k - 220)
theorem zL0_of : ∀ k, k < 172 → zE zG0 k = true → k ∈ zL0 := by decide +kernel
theorem zIv_of : ∀ k, k < 72 → k ∈ zL0 → zIv.getD (zIx.getD k 0) 0 = k := by decide +kernel
theorem zL0_lt : ∀ k ∈ zL0, k < 72 := by decide +kernel
def zP0 (D : va_G) (Y : Nat → ClassId) (a : Nat) (u : Nat → Nat) (a2 : Nat) (v tx ty : Nat → Nat) (k : Nat) : Prop := ∃ e : va_E, (wX11 Y a u ++ wX12 Y a2 v)[zIx.getD k 0]? = some (zad (zF0 a u a2 v tx ty) zG0 k, e) ∧ ∀ H : Heap, va_at D vwCl (zad (zF0 a u a2 v tx ty) zG0 k, e) H → va_at D vwCl (zad (zF0 a u a2 v tx ty) zG0 k, zB Y (zF0 a u a2 v tx ty) zG0 zS0 k) H
set_option maxRecDepth 100000 in
theorem zp0_0 (D : va_G) (Y : Nat → ClassId) (a : Nat) (u : Nat → Nat) (a2 : Nat) (v tx ty : Nat → Nat) : zP0 D Y a u a2 v tx ty 0 := ⟨_, rfl, fun H h => h⟩
set_option maxRecDepth 100000 in
theorem zp0_1 (D : va_G) (Y : Nat → ClassId) (a : Nat) (u : Nat → Nat) (a2 : Nat) (v tx ty : Nat → Nat) : zP0 D Y a u a2 v tx ty 1 := ⟨_, rfl, fun H h => h⟩
set_option maxRecDepth 100000 in
theorem zp0_2 (D : va_G) (Y : Nat → ClassId) (a : Nat) (u : Nat → Nat) (a2 : Nat) (v tx ty : Nat → Nat) : zP0 D Y a u a2 v tx ty 2 := ⟨_, rfl, fun H h => h⟩
set_option maxRecDepth 100000 in
theorem zp0_3 (D : va_G) (Y : Nat → ClassId) (a : Nat) (u : Nat → Nat) (a2 : Nat) (v tx ty : Nat → Nat) : zP0 D Y a u a2 v tx ty 3 := ⟨_, rfl, fun H h => h⟩
set_option maxRecDepth 100000 in
theorem zp0_4 (D : va_G) (Y : Nat → ClassId) (a : Nat) (u : Nat → Nat) (a2 : Nat) (v tx ty : Nat → Nat) : zP0 D Y a u a2 v tx ty 4 := ⟨_, rfl, fun H h => h⟩
set_option maxRecDepth 100000 in
theorem zp0_5 (D : va_G) (Y : Nat → ClassId) (a : Nat) (u : Nat → Nat) (a2 : Nat) (v tx ty : Nat → Nat) : zP0 D Y a u a2 v tx ty 5 := ⟨_, rfl, fun H h => h⟩
set_option maxRecDepth 100000 in
theorem zp0_6 (D : va_G) (Y : Nat → ClassId) (a : Nat) (u : Nat → Nat) (a2 : Nat) (v tx ty : Nat → Nat) : zP0 D Y a u a2 v tx ty 6 := ⟨_, rfl, fun H h => h⟩
set_option maxRecDepth 100000 in
theorem zp0_7 (D : va_G) (Y : Nat → ClassId) (a : Nat) (u : Nat → Nat) (a2 : Nat) (v tx ty : Nat → Nat) : zP0 D Y a u a2 v tx ty 7 := ⟨_, rfl, fun H h => h⟩
set_option maxRecDepth 100000 in
theorem zp0_8 (D : va_G) (Y : Nat → ClassId) (a : Nat) (u : Nat → Nat) (a2 : Nat) (v tx ty : Nat → Nat) : zP0 D Y a u a2 v tx ty 8 := ⟨_, rfl, fun H h => h⟩
set_option maxRecDepth 100000 in
theorem zp0_9 (D : va_G) (Y : Nat → ClassId) (a : Nat) (u : Nat → Nat) (a2 : Nat) (v tx ty : Nat → Nat) : zP0 D Y a u a2 v tx ty 9 := ⟨_, rfl, fun H h => h⟩
set_option maxRecDepth 100000 in
theorem zp0_10 (D : va_G) (Y : Nat → ClassId) (a : Nat) (u : Nat → Nat) (a2 : Nat) (v tx ty : Nat → Nat) : zP0 D Y a u a2 v tx ty 10 := ⟨_, rfl, fun H h => h⟩
set_option maxRecDepth 100000 in
theorem zp0_11 (D : va_G) (Y : Nat → ClassId) (a : Nat) (u : Nat → Nat) (a2 : Nat) (v tx ty : Nat → Nat) : zP0 D Y a u a2 v tx ty 11 := ⟨_, rfl, fun H h => h⟩
set_option maxRecDepth 100000 in
theorem zp0_12 (D : va_G) (Y : Nat → ClassId) (a : Nat) (u : Nat → Nat) (a2 : Nat) (v tx ty : Nat → Nat) : zP0 D Y a u a2 v tx ty 12 := ⟨_, rfl, fun H h => h⟩
set_option maxRecDepth 100000 in
theorem zp0_13 (D : va_G) (Y : Nat → ClassId) (a : Nat) (u : Nat → Nat) (a2 : Nat) (v tx ty : Nat → Nat) : zP0 D Y a u a2 v tx ty 13 := ⟨_, rfl, fun H h => h⟩
set_option maxRecDepth 100000 in
theorem zp0_14 (D : va_G) (Y : Nat → ClassId) (a : Nat) (u : Nat → Nat) (a2 : Nat) (v tx ty : Nat → Nat) : zP0 D Y a u a2 v tx ty 14 := ⟨_, rfl, fun H h => h⟩
set_option maxRecDepth 100000 in
theorem zp0_15 (D : va_G) (Y : Nat → ClassId) (a : Nat) (u : Nat → Nat) (a2 : Nat) (v tx ty : Nat → Nat) : zP0 D Y a u a2 v tx ty 15 := ⟨_, rfl, fun H h => h⟩
set_option maxRecDepth 100000 in
theorem zp0_16 (D : va_G) (Y : Nat → ClassId) (a : Nat) (u : Nat → Nat) (a2 : Nat) (v tx ty : Nat → Nat) : zP0 D Y a u a2 v tx ty 16 := ⟨_, rfl, fun H h => h⟩
set_option maxRecDepth 100000 in
theorem zp0_17 (D : va_G) (Y : Nat → ClassId) (a : Nat) (u : Nat → Nat) (a2 : Nat) (v tx ty : Nat → Nat) : zP0 D Y a u a2 v tx ty 17 := ⟨_, rfl, fun H h => h⟩
set_option maxRecDepth 100000 in
theorem zp0_18 (D : va_G) (Y : Nat → ClassId) (a : Nat) (u : Nat → Nat) (a2 : Nat) (v tx ty : Nat → Nat) : zP0 D Y a u a2 v tx ty 18 := ⟨_, rfl, fun H h => h⟩
set_option maxRecDepth 100000 in
theorem zp0_20 (D : va_G) (Y : Nat → ClassId) (a : Nat) (u : Nat → Nat) (a2 : Nat) (v tx ty : Nat → Nat) : zP0 D Y a u a2 v tx ty 20 := ⟨_, rfl, fun H h => h⟩
set_option maxRecDepth 100000 in
theorem zp0_21 (D : va_G) (Y : Nat → ClassId) (a : Nat) (u : Nat → Nat) (a2 : Nat) (v tx ty : Nat → Nat) : zP0 D Y a u a2 v tx ty 21 := ⟨_, rfl, fun H h => va_at_refs (fun j hj => by
    match j, hj with
    | 0, _ => rfl
    | 1, _ => rfl
    | 2, _ => rfl
    | 3, _ => rfl
    | 4, _ => rfl
    | 5, _ => rfl
    | 6, _ => rfl
    | 7, _ => rfl) h⟩
set_option maxRecDepth 100000 in
theorem zp0_22 (D : va_G) (Y : Nat → ClassId) (a : Nat) (u : Nat → Nat) (a2 : Nat) (v tx ty : Nat → Nat) : zP0 D Y a u a2 v tx ty 22 := ⟨_, rfl, fun H h => h⟩
set_option maxRecDepth 100000 in
theorem zp0_23 (D : va_G) (Y : Nat → ClassId) (a : Nat) (u : Nat → Nat) (a2 : Nat) (v tx ty : Nat → Nat) : zP0 D Y a u a2 v tx ty 23 := ⟨_, rfl, fun H h => h⟩
set_option maxRecDepth 100000 in
theorem zp0_24 (D : va_G) (Y : Nat → ClassId) (a : Nat) (u : Nat → Nat) (a2 : Nat) (v tx ty : Nat → Nat) : zP0 D Y a u a2 v tx ty 24 := ⟨_, rfl, fun H h => h⟩
set_option maxRecDepth 100000 in
theorem zp0_25 (D : va_G) (Y : Nat → ClassId) (a : Nat) (u : Nat → Nat) (a2 : Nat) (v tx ty : Nat → Nat) : zP0 D Y a u a2 v tx ty 25 := ⟨_, rfl, fun H h => h⟩
set_option maxRecDepth 100000 in
theorem zp0_26 (D : va_G) (Y : Nat → ClassId) (a : Nat) (u : Nat → Nat) (a2 : Nat) (v tx ty : Nat → Nat) : zP0 D Y a u a2 v tx ty 26 := ⟨_, rfl, fun H h => h⟩
set_option maxRecDepth 100000 in
theorem zp0_27 (D : va_G) (Y : Nat → ClassId) (a : Nat) (u : Nat → Nat) (a2 : Nat) (v tx ty : Nat → Nat) : zP0 D Y a u a2 v tx ty 27 := ⟨_, rfl, fun H h => va_at_refs (fun j hj => by
    match j, hj with
    | 0, _ => rfl
    | 1, _ => rfl
    | 2, _ => rfl
    | 3, _ => rfl
    | 4, _ => rfl
    | 5, _ => rfl
    | 6, _ => rfl) h⟩
set_option maxRecDepth 100000 in
theorem zp0_28 (D : va_G) (Y : Nat → ClassId) (a : Nat) (u : Nat → Nat) (a2 : Nat) (v tx ty : Nat → Nat) : zP0 D Y a u a2 v tx ty 28 := ⟨_, rfl, fun H h => h⟩
set_option maxRecDepth 100000 in
theorem zp0_29 (D : va_G) (Y : Nat → ClassId) (a : Nat) (u : Nat → Nat) (a2 : Nat) (v tx ty : Nat → Nat) : zP0 D Y a u a2 v tx ty 29 := ⟨_, rfl, fun H h => h⟩
set_option maxRecDepth 100000 in
theorem zp0_30 (D : va_G) (Y : Nat → ClassId) (a : Nat) (u : Nat → Nat) (a2 : Nat) (v tx ty : Nat → Nat) : zP0 D Y a u a2 v tx ty 30 := ⟨_, rfl, fun H h => h⟩
set_option maxRecDepth 100000 in
theorem zp0_31 (D : va_G) (Y : Nat → ClassId) (a : Nat) (u : Nat → Nat) (a2 : Nat) (v tx ty : Nat → Nat) : zP0 D Y a u a2 v tx ty 31 := ⟨_, rfl, fun H h => h⟩
set_option maxRecDepth 100000 in
theorem zp0_32 (D : va_G) (Y : Nat → ClassId) (a : Nat) (u : Nat → Nat) (a2 : Nat) (v tx ty : Nat → Nat) : zP0 D Y a u a2 v tx ty 32 := ⟨_, rfl, fun H h => h⟩
set_option maxRecDepth 100000 in
theorem zp0_33 (D : va_G) (Y : Nat → ClassId) (a : Nat) (u : Nat → Nat) (a2 : Nat) (v tx ty : Nat → Nat) : zP0 D Y a u a2 v tx ty 33 := ⟨_, rfl, fun H h => h⟩
set_option maxRecDepth 100000 in
theorem zp0_34 (D : va_G) (Y : Nat → ClassId) (a : Nat) (u : Nat → Nat) (a2 : Nat) (v tx ty : Nat → Nat) : zP0 D Y a u a2 v tx ty 34 := ⟨_, rfl, fun H h => h⟩
set_option maxRecDepth 100000 in
theorem zp0_40 (D : va_G) (Y : Nat → ClassId) (a : Nat) (u : Nat → Nat) (a2 : Nat) (v tx ty : Nat → Nat) : zP0 D Y a u a2 v tx ty 40 := ⟨_, rfl, fun H h => h⟩
set_option maxRecDepth 100000 in
theorem zp0_41 (D : va_G) (Y : Nat → ClassId) (a : Nat) (u : Nat → Nat) (a2 : Nat) (v tx ty : Nat → Nat) : zP0 D Y a u a2 v tx ty 41 := ⟨_, rfl, fun H h => h⟩
set_option maxRecDepth 100000 in
theorem zp0_42 (D : va_G) (Y : Nat → ClassId) (a : Nat) (u : Nat → Nat) (a2 : Nat) (v tx ty : Nat → Nat) : zP0 D Y a u a2 v tx ty 42 := ⟨_, rfl, fun H h => h⟩
set_option maxRecDepth 100000 in
theorem zp0_43 (D : va_G) (Y : Nat → ClassId) (a : Nat) (u : Nat → Nat) (a2 : Nat) (v tx ty : Nat → Nat) : zP0 D Y a u a2 v tx ty 43 := ⟨_, rfl, fun H h => h⟩
set_option maxRecDepth 100000 in
theorem zp0_44 (D : va_G) (Y : Nat → ClassId) (a : Nat) (u : Nat → Nat) (a2 : Nat) (v tx ty : Nat → Nat) : zP0 D Y a u a2 v tx ty 44 := ⟨_, rfl, fun H h => h⟩
set_option maxRecDepth 100000 in
theorem zp0_45 (D : va_G) (Y : Nat → ClassId) (a : Nat) (u : Nat → Nat) (a2 : Nat) (v tx ty : Nat → Nat) : zP0 D Y a u a2 v tx ty 45 := ⟨_, rfl, fun H h => h⟩
set_option maxRecDepth 100000 in
theorem zp0_46 (D : va_G) (Y : Nat → ClassId) (a : Nat) (u : Nat → Nat) (a2 : Nat) (v tx ty : Nat → Nat) : zP0 D Y a u a2 v tx ty 46 := ⟨_, rfl, fun H h => h⟩
set_option maxRecDepth 100000 in
theorem zp0_47 (D : va_G) (Y : Nat → ClassId) (a : Nat) (u : Nat → Nat) (a2 : Nat) (v tx ty : Nat → Nat) : zP0 D Y a u a2 v tx ty 47 := ⟨_, rfl, fun H h => h⟩
set_option maxRecDepth 100000 in
theorem zp0_48 (D : va_G) (Y : Nat → ClassId) (a : Nat) (u : Nat → Nat) (a2 : Nat) (v tx ty : Nat → Nat) : zP0 D Y a u a2 v tx ty 48 := ⟨_, rfl, fun H h => h⟩
set_option maxRecDepth 100000 in
theorem zp0_49 (D : va_G) (Y : Nat → ClassId) (a : Nat) (u : Nat → Nat) (a2 : Nat) (v tx ty : Nat → Nat) : zP0 D Y a u a2 v tx ty 49 := ⟨_, rfl, fun H h => h⟩
set_option maxRecDepth 100000 in
theorem zp0_50 (D : va_G) (Y : Nat → ClassId) (a : Nat) (u : Nat → Nat) (a2 : Nat) (v tx ty : Nat → Nat) : zP0 D Y a u a2 v tx ty 50 := ⟨_, rfl, fun H h => h⟩
set_option maxRecDepth 100000 in
theorem zp0_51 (D : va_G) (Y : Nat → ClassId) (a : Nat) (u : Nat → Nat) (a2 : Nat) (v tx ty : Nat → Nat) : zP0 D Y a u a2 v tx ty 51 := ⟨_, rfl, fun H h => h⟩
set_option maxRecDepth 100000 in
theorem zp0_52 (D : va_G) (Y : Nat → ClassId) (a : Nat) (u : Nat → Nat) (a2 : Nat) (v tx ty : Nat → Nat) : zP0 D Y a u a2 v tx ty 52 := ⟨_, rfl, fun H h => h⟩
set_option maxRecDepth 100000 in
theorem zp0_53 (D : va_G) (Y : Nat → ClassId) (a : Nat) (u : Nat → Nat) (a2 : Nat) (v tx ty : Nat → Nat) : zP0 D Y a u a2 v tx ty 53 := ⟨_, rfl, fun H h => h⟩
set_option maxRecDepth 100000 in
theorem zp0_54 (D : va_G) (Y : Nat → ClassId) (a : Nat) (u : Nat → Nat) (a2 : Nat) (v tx ty : Nat → Nat) : zP0 D Y a u a2 v tx ty 54 := ⟨_, rfl, fun H h => h⟩
set_option maxRecDepth 100000 in
theorem zp0_55 (D : va_G) (Y : Nat → ClassId) (a : Nat) (u : Nat → Nat) (a2 : Nat) (v tx ty : Nat → Nat) : zP0 D Y a u a2 v tx ty 55 := ⟨_, rfl, fun H h => h⟩
set_option maxRecDepth 100000 in
theorem zp0_56 (D : va_G) (Y : Nat → ClassId) (a : Nat) (u : Nat → Nat) (a2 : Nat) (v tx ty : Nat → Nat) : zP0 D Y a u a2 v tx ty 56 := ⟨_, rfl, fun H h => h⟩
set_option maxRecDepth 100000 in
theorem zp0_57 (D : va_G) (Y : Nat → ClassId) (a : Nat) (u : Nat → Nat) (a2 : Nat) (v tx ty : Nat → Nat) : zP0 D Y a u a2 v tx ty 57 := ⟨_, rfl, fun H h => h⟩
set_option maxRecDepth 100000 in
theorem zp0_60 (D : va_G) (Y : Nat → ClassId) (a : Nat) (u : Nat → Nat) (a2 : Nat) (v tx ty : Nat → Nat) : zP0 D Y a u a2 v tx ty 60 := ⟨_, rfl, fun H h => h⟩
set_option maxRecDepth 100000 in
theorem zp0_61 (D : va_G) (Y : Nat → ClassId) (a : Nat) (u : Nat → Nat) (a2 : Nat) (v tx ty : Nat → Nat) : zP0 D Y a u a2 v tx ty 61 := ⟨_, rfl, fun H h => va_at_refs (fun j hj => (if_pos rfl).symm) h⟩
set_option maxRecDepth 100000 in
theorem zp0_62 (D : va_G) (Y : Nat → ClassId) (a : Nat) (u : Nat → Nat) (a2 : Nat) (v tx ty : Nat → Nat) : zP0 D Y a u a2 v tx ty 62 := ⟨_, rfl, fun H h => h⟩
set_option maxRecDepth 100000 in
theorem zp0_63 (D : va_G) (Y : Nat → ClassId) (a : Nat) (u : Nat → Nat) (a2 : Nat) (v tx ty : Nat → Nat) : zP0 D Y a u a2 v tx ty 63 := ⟨_, rfl, fun H h => h⟩
set_option maxRecDepth 100000 in
theorem zp0_64 (D : va_G) (Y : Nat → ClassId) (a : Nat) (u : Nat → Nat) (a2 : Nat) (v tx ty : Nat → Nat) : zP0 D Y a u a2 v tx ty 64 := ⟨_, rfl, fun H h => va_at_refs (fun j hj => (if_pos rfl).symm) h⟩
set_option maxRecDepth 100000 in
theorem zp0_65 (D : va_G) (Y : Nat → ClassId) (a : Nat) (u : Nat → Nat) (a2 : Nat) (v tx ty : Nat → Nat) : zP0 D Y a u a2 v tx ty 65 := ⟨_, rfl, fun H h => h⟩
set_option maxRecDepth 100000 in
theorem zp0_66 (D : va_G) (Y : Nat → ClassId) (a : Nat) (u : Nat → Nat) (a2 : Nat) (v tx ty : Nat → Nat) : zP0 D Y a u a2 v tx ty 66 := ⟨_, rfl, fun H h => h⟩
set_option maxRecDepth 100000 in
theorem zp0_67 (D : va_G) (Y : Nat → ClassId) (a : Nat) (u : Nat → Nat) (a2 : Nat) (v tx ty : Nat → Nat) : zP0 D Y a u a2 v tx ty 67 := ⟨_, rfl, fun H h => va_at_refs (fun j hj => (if_pos rfl).symm) h⟩
set_option maxRecDepth 100000 in
theorem zp0_68 (D : va_G) (Y : Nat → ClassId) (a : Nat) (u : Nat → Nat) (a2 : Nat) (v tx ty : Nat → Nat) : zP0 D Y a u a2 v tx ty 68 := ⟨_, rfl, fun H h => h⟩
set_option maxRecDepth 100000 in
theorem zp0_70 (D : va_G) (Y : Nat → ClassId) (a : Nat) (u : Nat → Nat) (a2 : Nat) (v tx ty : Nat → Nat) : zP0 D Y a u a2 v tx ty 70 := ⟨_, rfl, fun H h => h⟩
set_option maxRecDepth 100000 in
theorem zp0_71 (D : va_G) (Y : Nat → ClassId) (a : Nat) (u : Nat → Nat) (a2 : Nat) (v tx ty : Nat → Nat) : zP0 D Y a u a2 v tx ty 71 := ⟨_, rfl, fun H h => h⟩
theorem zP0_all (D : va_G) (Y : Nat → ClassId) (a : Nat) (u : Nat → Nat) (a2 : Nat) (v tx ty : Nat → Nat) : ∀ k ∈ zL0, zP0 D Y a u a2 v tx ty k := List.forall_mem_cons.mpr ⟨zp0_0 D Y a u a2 v tx ty, List.forall_mem_cons.mpr ⟨zp0_1 D Y a u a2 v tx ty, List.forall_mem_cons.mpr ⟨zp0_2 D Y a u a2 v tx ty, List.forall_mem_cons.mpr ⟨zp0_3 D Y a u a2 v tx ty, List.forall_mem_cons.mpr ⟨zp0_4 D Y a u a2 v tx ty, List.forall_mem_cons.mpr ⟨zp0_5 D Y a u a2 v tx ty, List.forall_mem_cons.mpr ⟨zp0_6 D Y a u a2 v tx ty, List.forall_mem_cons.mpr ⟨zp0_7 D Y a u a2 v tx ty, List.forall_mem_cons.mpr ⟨zp0_8 D Y a u a2 v tx ty, List.forall_mem_cons.mpr ⟨zp0_9 D Y a u a2 v tx ty, List.forall_mem_cons.mpr ⟨zp0_10 D Y a u a2 v tx ty, List.forall_mem_cons.mpr ⟨zp0_11 D Y a u a2 v tx ty, List.forall_mem_cons.mpr ⟨zp0_12 D Y a u a2 v tx ty, List.forall_mem_cons.mpr ⟨zp0_13 D Y a u a2 v tx ty, List.forall_mem_cons.mpr ⟨zp0_14 D Y a u a2 v tx ty, List.forall_mem_cons.mpr ⟨zp0_15 D Y a u a2 v tx ty, List.forall_mem_cons.mpr ⟨zp0_16 D Y a u a2 v tx ty, List.forall_mem_cons.mpr ⟨zp0_17 D Y a u a2 v tx ty, List.forall_mem_cons.mpr ⟨zp0_18 D Y a u a2 v tx ty, List.forall_mem_cons.mpr ⟨zp0_20 D Y a u a2 v tx ty, List.forall_mem_cons.mpr ⟨zp0_21 D Y a u a2 v tx ty, List.forall_mem_cons.mpr ⟨zp0_22 D Y a u a2 v tx ty, List.forall_mem_cons.mpr ⟨zp0_23 D Y a u a2 v tx ty, List.forall_mem_cons.mpr ⟨zp0_24 D Y a u a2 v tx ty, List.forall_mem_cons.mpr ⟨zp0_25 D Y a u a2 v tx ty, List.forall_mem_cons.mpr ⟨zp0_26 D Y a u a2 v tx ty, List.forall_mem_cons.mpr ⟨zp0_27 D Y a u a2 v tx ty, List.forall_mem_cons.mpr ⟨zp0_28 D Y a u a2 v tx ty, List.forall_mem_cons.mpr ⟨zp0_29 D Y a u a2 v tx ty, List.forall_mem_cons.mpr ⟨zp0_30 D Y a u a2 v tx ty, List.forall_mem_cons.mpr ⟨zp0_31 D Y a u a2 v tx ty, List.forall_mem_cons.mpr ⟨zp0_32 D Y a u a2 v tx ty, List.forall_mem_cons.mpr ⟨zp0_33 D Y a u a2 v tx ty, List.forall_mem_cons.mpr ⟨zp0_34 D Y a u a2 v tx ty, List.forall_mem_cons.mpr ⟨zp0_40 D Y a u a2 v tx ty, List.forall_mem_cons.mpr ⟨zp0_41 D Y a u a2 v tx ty, List.forall_mem_cons.mpr ⟨zp0_42 D Y a u a2 v tx ty, List.forall_mem_cons.mpr ⟨zp0_43 D Y a u a2 v tx ty, List.forall_mem_cons.mpr ⟨zp0_44 D Y a u a2 v tx ty, List.forall_mem_cons.mpr ⟨zp0_45 D Y a u a2 v tx ty, List.forall_mem_cons.mpr ⟨zp0_46 D Y a u a2 v tx ty, List.forall_mem_cons.mpr ⟨zp0_47 D Y a u a2 v tx ty, List.forall_mem_cons.mpr ⟨zp0_48 D Y a u a2 v tx ty, List.forall_mem_cons.mpr ⟨zp0_49 D Y a u a2 v tx ty, List.forall_mem_cons.mpr ⟨zp0_50 D Y a u a2 v tx ty, List.forall_mem_cons.mpr ⟨zp0_51 D Y a u a2 v tx ty, List.forall_mem_cons.mpr ⟨zp0_52 D Y a u a2 v tx ty, List.forall_mem_cons.mpr ⟨zp0_53 D Y a u a2 v tx ty, List.forall_mem_cons.mpr ⟨zp0_54 D Y a u a2 v tx ty, List.forall_mem_cons.mpr ⟨zp0_55 D Y a u a2 v tx ty, List.forall_mem_cons.mpr ⟨zp0_56 D Y a u a2 v tx ty, List.forall_mem_cons.mpr ⟨zp0_57 D Y a u a2 v tx ty, List.forall_mem_cons.mpr ⟨zp0_60 D Y a u a2 v tx ty, List.forall_mem_cons.mpr ⟨zp0_61 D Y a u a2 v tx ty, List.forall_mem_cons.mpr ⟨zp0_62 D Y a u a2 v tx ty, List.forall_mem_cons.mpr ⟨zp0_63 D Y a u a2 v tx ty, List.forall_mem_cons.mpr ⟨zp0_64 D Y a u a2 v tx ty, List.forall_mem_cons.mpr ⟨zp0_65 D Y a u a2 v tx ty, List.forall_mem_cons.mpr ⟨zp0_66 D Y a u a2 v tx ty, List.forall_mem_cons.mpr ⟨zp0_67 D Y a u a2 v tx ty, List.forall_mem_cons.mpr ⟨zp0_68 D Y a u a2 v tx ty, List.forall_mem_cons.mpr ⟨zp0_70 D Y a u a2 v tx ty, List.forall_mem_cons.mpr ⟨zp0_71 D Y a u a2 v tx ty, fun _ h => absurd h List.not_mem_nil⟩⟩⟩⟩⟩⟩⟩⟩⟩⟩⟩⟩⟩⟩⟩⟩⟩⟩⟩⟩⟩⟩⟩⟩⟩⟩⟩⟩⟩⟩⟩⟩⟩⟩⟩⟩⟩⟩⟩⟩⟩⟩⟩⟩⟩⟩⟩⟩⟩⟩⟩⟩⟩⟩⟩⟩⟩⟩⟩⟩⟩⟩⟩
theorem z_start {D : va_G} {Y : Nat → ClassId} {A : Nat → Prop} {H : Heap} {a : Nat} {u : Nat → Nat} {a2 : Nat} {v : Nat → Nat} (tx ty : Nat → Nat) (hP : va_P D vwCl (wX11 Y a u ++ wX12 Y a2 v) H) (hD : va_D A (wX11 Y a u ++ wX12 Y a2 v)) : zH D Y (zF0 a u a2 v tx ty) A zG0 zS0 H := by
  have key : ∀ k, zE zG0 k = true → k < 72 ∧ k ∈ zL0 ∧ zP0 D Y a u a2 v tx ty k := fun k hk => by
    have h := zL0_of k (zE_lt hk) hk
    exact ⟨zL0_lt k h, h, zP0_all D Y a u a2 v tx ty k h⟩
  refine zH_intro (fun k hk => ?_) (fun k hk => ?_) (fun k k' hk hk' e => ?_)
  · obtain ⟨-, -, e, h1, h2⟩ := key k hk
    exact h2 H (hP _ _ h1)
  · obtain ⟨-, -, e, h1, h2⟩ := key k hk
    exact hD.2 _ _ h1
  · obtain ⟨k1, k2, e1, h1, -⟩ := key k hk
    obtain ⟨k3, k4, e2, h2, -⟩ := key k' hk'
    have h := hD.1 _ _ _ _ h1 h2 e
    rw [← zIv_of k k1 k2, ← zIv_of k' k3 k4, h]
