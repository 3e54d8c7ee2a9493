/-! AT THE LAW'S ENTRY: classes and arrays as the tables have them -/
set_option maxHeartbeats 4000000 in
set_option maxRecDepth 100000 in
theorem lw_K {s : State} {args : Array Value} (hts : ∀ w ∈ lw_tbl, w.before args s = true) : ∃ (D : va_G) (Y : Nat → ClassId), va_K D vwCl (zT Y) s := by
  have hin : ∀ w ∈ wsL_law, w.before args s = true := fun w h => hts w (wsL_law_in w h)
  obtain ⟨c0, i0, k0⟩ := u_known (C := RX0) (T := TX0) (N := 9) (n := 9) hin inlX0 (hin (.instantiable RX0 9) (List.mem_of_getElem? (i := 345) (by decide +kernel)))
  obtain ⟨c1, i1, k1⟩ := u_known (C := RX1) (T := TX1) (N := 9) (n := 9) hin inlX1 (hin (.instantiable RX1 9) (List.mem_of_getElem? (i := 347) (by decide +kernel)))
  obtain ⟨c2, i2, k2⟩ := u_known (C := RX2) (T := TX2) (N := 9) (n := 9) hin inlX2 (hin (.instantiable RX2 9) (List.mem_of_getElem? (i := 339) (by decide +kernel)))
  obtain ⟨c3, i3, k3⟩ := u_known (C := RX3) (T := TX3) (N := 9) (n := 9) hin inlX3 (hin (.instantiable RX3 9) (List.mem_of_getElem? (i := 343) (by decide +kernel)))
  obtain ⟨c4, i4, k4⟩ := u_known (C := RX4) (T := TX4) (N := 6) (n := 6) hin inlX4 (hin (.instantiable RX4 6) (List.mem_of_getElem? (i := 22) (by decide +kernel)))
  obtain ⟨c5, i5, k5⟩ := u_known (C := RX5) (T := TX5) (N := 9) (n := 9) hin inlX5 (hin (.instantiable RX5 9) (List.mem_of_getElem? (i := 348) (by decide +kernel)))
  obtain ⟨c6, i6, k6⟩ := u_known (C := RX6) (T := TX6) (N := 10) (n := 10) hin inlX6 (hin (.instantiable RX6 10) (List.mem_of_getElem? (i := 28) (by decide +kernel)))
  obtain ⟨c7, i7, k7⟩ := u_known (C := RX7) (T := TX7) (N := 3) (n := 3) hin inlX7 (hin (.instantiable RX7 3) (List.mem_of_getElem? (i := 39) (by decide +kernel)))
  obtain ⟨c8, i8, k8⟩ := u_known (C := RX8) (T := TX8) (N := 9) (n := 9) hin inlX8 (hin (.instantiable RX8 9) (List.mem_of_getElem? (i := 337) (by decide +kernel)))
  obtain ⟨c9, i9, k9⟩ := u_known (C := RX9) (T := TX9) (N := 2) (n := 2) hin inlX9 (hin (.instantiable RX9 2) (List.mem_of_getElem? (i := 18) (by decide +kernel)))
  obtain ⟨c10, i10, k10⟩ := u_known (C := RX10) (T := TX10) (N := 9) (n := 9) hin inlX10 (hin (.instantiable RX10 9) (List.mem_of_getElem? (i := 341) (by decide +kernel)))
  obtain ⟨c11, i11, k11⟩ := u_known (C := RX11) (T := TX11) (N := 14) (n := 14) hin inlX11 (hin (.instantiable RX11 14) (List.mem_of_getElem? (i := 1) (by decide +kernel)))
  obtain ⟨c12, i12, k12⟩ := u_known (C := RX12) (T := TX12) (N := 27) (n := 27) hin inlX12 (hin (.instantiable RX12 27) (List.mem_of_getElem? (i := 4) (by decide +kernel)))
  obtain ⟨dC, dI, hKc⟩ : ∃ (dC : Nat → ClassId) (dI : Nat → Nat → Nat), ∀ (k : Nat) (q : vw_C), vwCl[k]? = some q → u_Kn s q.1 q.2.1 q.2.2 (dC k) (dI k) := by
    refine ⟨fun k => if k = 0 then c0 else if k = 1 then c1 else if k = 2 then c2 else if k = 3 then c3 else if k = 4 then c4 else if k = 5 then c5 else if k = 6 then c6 else if k = 7 then c7 else if k = 8 then c8 else if k = 9 then c9 else if k = 10 then c10 else if k = 11 then c11 else c12, fun k => if k = 0 then i0 else if k = 1 then i1 else if k = 2 then i2 else if k = 3 then i3 else if k = 4 then i4 else if k = 5 then i5 else if k = 6 then i6 else if k = 7 then i7 else if k = 8 then i8 else if k = 9 then i9 else if k = 10 then i10 else if k = 11 then i11 else i12, ?_⟩
    intro k q hq
    match k, hq with
    | 0, hq => cases hq; exact k0
    | 1, hq => cases hq; exact k1
    | 2, hq => cases hq; exact k2
    | 3, hq => cases hq; exact k3
    | 4, hq => cases hq; exact k4
    | 5, hq => cases hq; exact k5
    | 6, hq => cases hq; exact k6
    | 7, hq => cases hq; exact k7
    | 8, hq => cases hq; exact k8
    | 9, hq => cases hq; exact k9
    | 10, hq => cases hq; exact k10
    | 11, hq => cases hq; exact k11
    | 12, hq => cases hq; exact k12
    | k + 13, hq => simp [vwCl] at hq
  obtain ⟨y0, q0, p0, a1, a2, a3⟩ := Cond.arrayClass_spec (type := .int) (hin (.arrayClass .int) (List.mem_of_getElem? (i := 15) (by decide +kernel)))
  obtain ⟨y1, q1, p1, b1, b2, b3⟩ := Cond.arrayClass_spec (type := .long) (hin (.arrayClass .long) (List.mem_of_getElem? (i := 74) (by decide +kernel)))
  obtain ⟨p2, y2, q2, d1, -, d2, d3, d4⟩ := Cond.arrayOver_spec (n := "CarbonCopies$Person") (hts (.arrayOver (.object "CarbonCopies$Person")) (by decide +kernel))
  obtain ⟨p3, y3, q3, e1, -, e2, e3, e4⟩ := Cond.arrayOver_spec (n := "CarbonCopies$Shelf") (hts (.arrayOver (.object "CarbonCopies$Shelf")) (by decide +kernel))
  obtain ⟨p4, y4, q4, f1, -, f2, f3, f4⟩ := arrayOverA_spec (t := .int) (hts (.arrayOver (.array .int)) (by decide +kernel))
  refine ⟨(dC, dI), fun k => if k = 0 then y0 else if k = 1 then y1 else if k = 2 then y2 else if k = 3 then y3 else y4, hKc, ?_⟩
  intro k q hq
  unfold zT at hq
  match k, hq with
  | 0, hq => cases hq; exact ⟨fun n z => ⟨(fun k h => by cases h), q0, a2, p0, a3⟩, a1⟩
  | 1, hq => cases hq; exact ⟨fun n z => ⟨(fun k h => by cases h), q1, b2, p1, b3⟩, b1⟩
  | 2, hq => cases hq; exact ⟨fun n z => ⟨(fun k h => by cases h), q2, d2, p2, d3⟩, q2, p2, d2, d3, d1, d4⟩
  | 3, hq => cases hq; exact ⟨fun n z => ⟨(fun k h => by cases h), q3, e2, p3, e3⟩, q3, p3, e2, e3, e1, e4⟩
  | 4, hq => cases hq; exact ⟨fun n z => ⟨(fun k h => by cases h), q4, f2, p4, f3⟩, f4⟩
  | k + 5, hq => simp at hq
/-! what the constructors take as given -/
set_option maxHeartbeats 4000000 in
set_option maxRecDepth 100000 in
theorem lw_nest : ∀ q ∈ zNest, Cond.methodLinkNest q.1 q.2.1 q.2.2.1 q.2.2.2 ∈ lw_tbl := by decide +kernel
set_option maxHeartbeats 4000000 in
set_option maxRecDepth 100000 in
theorem lw_cast : ∀ q ∈ zCast, Cond.castable q.1 q.2 ∈ lw_tbl := by decide +kernel
set_option maxHeartbeats 4000000 in
set_option maxRecDepth 100000 in
theorem lw_E {s : State} {args : Array Value} (hts : ∀ w ∈ lw_tbl, w.before args s = true) : xF s :=
  ⟨⟨va_AO.of (hts (.arrayOver (.object "CarbonCopies$Person")) (by decide +kernel)), va_AO.of (hts (.arrayOver (.object "CarbonCopies$Shelf")) (by decide +kernel)), fun q hq => va_Nw.of rfl (hts _ (lw_nest q hq))⟩, xM_of (hts (.arrayOver (.array .int)) (by decide +kernel))⟩
/-! the texts -/
def lw_giv : Cond := Jvm.Cond.and given_1 narrow_1
def lw_tm : Nat → Term := fun i => match i with
  | 0 => .string RX6 112
  | 1 => .string RX6 125
  | 2 => .string RX6 133
  | 3 => .string RX6 135
  | 4 => .string RX6 137
  | _ => .string RX12 186
set_option maxHeartbeats 4000000 in
set_option maxRecDepth 100000 in
theorem lw_t1 : ∀ i, i < 6 → Cond.exactly (lw_tm i) "java/lang/String" ∈ flatC lw_giv := by decide +kernel
set_option maxHeartbeats 4000000 in
set_option maxRecDepth 100000 in
theorem lw_t2 : ∀ i, i < 6 → Cond.eq (.field (lw_tm i) "java/lang/String" "code\x72" "B") (.int 0) ∈ flatC lw_giv := by decide +kernel
set_option maxHeartbeats 4000000 in
set_option maxRecDepth 100000 in
theorem lw_t3 : ∀ i, i < 6 → Cond.arrayOf (.field (lw_tm i) "java/lang/String" "value" "[B") .byte ∈ flatC lw_giv := by decide +kernel
set_option maxHeartbeats 4000000 in
set_option maxRecDepth 100000 in
theorem lw_t4 : ∀ i, i < 6 → Cond.eq (.length (.field (lw_tm i) "java/lang/String" "value" "[B")) (.int (Int32.ofNat (zLen.getD i 0))) ∈ flatC lw_giv := by decide +kernel
set_option maxHeartbeats 4000000 in
set_option maxRecDepth 100000 in
theorem lw_t5 : ∀ i, i < 6 → ∀ j, j < zLen.getD i 0 → Cond.eq (.elem (.field (lw_tm i) "java/lang/String" "value" "[B") (.int (Int32.ofNat j))) (.int ((zByt.getD i []).getD j 0)) ∈ flatC lw_giv := by decide +kernel
set_option maxHeartbeats 4000000 in
set_option maxRecDepth 100000 in
theorem lw_t6 : ∀ i, i < 6 → ∀ j, j < 6 → i ≠ j → (Cond.not (Cond.eq (lw_tm i) (lw_tm j)) ∈ flatC lw_giv ∨ Cond.not (Cond.eq (lw_tm j) (lw_tm i)) ∈ flatC lw_giv) := by decide +kernel
theorem lw_t7 : ∀ i, i < 6 → zLen.getD i 0 < 2 ^ 31 := by decide
set_option maxHeartbeats 4000000 in
set_option maxRecDepth 100000 in
theorem lw_S {s : State} {args : Array Value} {A : Nat → Prop} (hgv : lw_giv.before args s = true) (hA : ∀ a : Nat, a < s.heap.size → ¬ A a) : ∃ tx ty : Nat → Nat, vk_S 6 zLen zByt tx ty A s s.heap ∧ ∀ i : Nat, i < 6 → (lw_tm i).eval args s none [] s = some (.ref (tx i)) := by
  have hs := flat_of_before _ hgv
  exact vk_Sof lw_t7 (fun i hi => hs _ (lw_t1 i hi)) (fun i hi => hs _ (lw_t2 i hi)) (fun i hi => hs _ (lw_t3 i hi)) (fun i hi => hs _ (lw_t4 i hi)) (fun i hi j hj => hs _ (lw_t5 i hi j hj)) (fun i j hi hj hij => (lw_t6 i hi j hj hij).elim (fun h => Or.inl (hs _ h)) (fun h => Or.inr (hs _ h))) hA
set_option maxHeartbeats 4000000 in
set_option maxRecDepth 100000 in
theorem lw_R {s : State} {args : Array Value} (hts : ∀ w ∈ lw_tbl, w.before args s = true) (hgv : lw_giv.before args s = true) {tx : Nat → Nat} (hev : ∀ i : Nat, i < 6 → (lw_tm i).eval args s none [] s = some (.ref (tx i))) : ∀ q ∈ zStrs, vk_R q.1 q.2.1 q.2.2.1 (tx q.2.2.2) s := by
  have hs := flat_of_before _ hgv
  have r0 : vk_R RX6 112 "person" (tx 0) s := vk_R.of (hts (.stringRef RX6 112 "person") (by decide +kernel)) (hev 0 (by decide))
  have r1 : vk_R RX6 125 "press" (tx 1) s := vk_R.of (hts (.stringRef RX6 125 "press") (by decide +kernel)) (hev 1 (by decide))
  have r2 : vk_R RX6 133 "rub" (tx 2) s := vk_R.of (hts (.stringRef RX6 133 "rub") (by decide +kernel)) (hev 2 (by decide))
  have r3 : vk_R RX6 135 "dies" (tx 3) s := vk_R.of (hts (.stringRef RX6 135 "dies") (by decide +kernel)) (hev 3 (by decide))
  have r4 : vk_R RX6 137 "least" (tx 4) s := vk_R.of (hts (.stringRef RX6 137 "least") (by decide +kernel)) (hev 4 (by decide))
  have r5 : vk_R RX12 166 "rub" (tx 2) s := vk_R.of (hts (.stringRef RX12 166 "rub") (by decide +kernel)) (va_eqR (hs (Cond.eq (.string RX6 133) (.string RX12 166)) (by decide +kernel)) (hev 2 (by decide)))
  have r6 : vk_R RX12 178 "dies" (tx 3) s := vk_R.of (hts (.stringRef RX12 178 "dies") (by decide +kernel)) (va_eqR (hs (Cond.eq (.string RX6 135) (.string RX12 178)) (by decide +kernel)) (hev 3 (by decide)))
  have r7 : vk_R RX12 180 "least" (tx 4) s := vk_R.of (hts (.stringRef RX12 180 "least") (by decide +kernel)) (va_eqR (hs (Cond.eq (.string RX6 137) (.string RX12 180)) (by decide +kernel)) (hev 4 (by decide)))
  have r8 : vk_R RX12 181 "person" (tx 0) s := vk_R.of (hts (.stringRef RX12 181 "person") (by decide +kernel)) (va_eqR (hs (Cond.eq (.string RX6 112) (.string RX12 181)) (by decide +kernel)) (hev 0 (by decide)))
  have r9 : vk_R RX12 186 "ress" (tx 5) s := vk_R.of (hts (.stringRef RX12 186 "ress") (by decide +kernel)) (hev 5 (by decide))
  unfold zStrs
  exact List.forall_mem_cons.mpr ⟨r0, List.forall_mem_cons.mpr ⟨r1, List.forall_mem_cons.mpr ⟨r2, List.forall_mem_cons.mpr ⟨r3, List.forall_mem_cons.mpr ⟨r4, List.forall_mem_cons.mpr ⟨r5, List.forall_mem_cons.mpr ⟨r6, List.forall_mem_cons.mpr ⟨r7, List.forall_mem_cons.mpr ⟨r8, List.forall_mem_cons.mpr ⟨r9, fun _ h => absurd h List.not_mem_nil⟩⟩⟩⟩⟩⟩⟩⟩⟩⟩
/-! the words of the one super call -/
set_option maxHeartbeats 4000000 in
set_option maxRecDepth 100000 in
theorem lw_xa : ∀ w ∈ ([.methodLink RX1 30 ⟨"CarbonCopies$Top", "goes", "(I)I"⟩, .sameMethod "CarbonCopies$Top" "CarbonCopies$Person" "goes" "(I)I", .superclass RX1 RX8, .initialized RX5, .instanceMethod yX5_goes, .superclass RX8 RX5] : List Cond), w ∈ lw_tbl := by decide +kernel
set_option maxHeartbeats 4000000 in
set_option maxRecDepth 100000 in
theorem lw_x1 : ∀ w ∈ wsX5_goes_r1, w ∈ lw_tbl := fun w h => (goodIn_p wsX5_goes_r1 [1182, 1178] (by decide +kernel) (by decide +kernel) w h).1
set_option maxHeartbeats 4000000 in
set_option maxRecDepth 100000 in
theorem lw_x2 : ∀ w ∈ wsX5_goes_r2, w ∈ lw_tbl := fun w h => (goodIn_p wsX5_goes_r2 [1197, 1186, 1190] (by decide +kernel) (by decide +kernel) w h).1
set_option maxHeartbeats 4000000 in
set_option maxRecDepth 100000 in
theorem lw_x3 : ∀ w ∈ wsX5_goes_r3, w ∈ lw_tbl := fun w h => (goodIn_p wsX5_goes_r3 [] (by decide +kernel) (by decide +kernel) w h).1
set_option maxHeartbeats 4000000 in
set_option maxRecDepth 100000 in
theorem lw_x0 : Cond.code yX5_goes cX5_goes 2 (some .int) ∈ lw_tbl := List.mem_of_getElem? (i := 1222) (by decide +kernel)
set_option maxHeartbeats 4000000 in
set_option maxRecDepth 100000 in
theorem lw_xg : ∀ w ∈ wsX5_goes, w ∈ lw_tbl := List.forall_mem_cons.mpr ⟨lw_x0, (List.forall_mem_append.mpr ⟨(List.forall_mem_append.mpr ⟨(List.forall_mem_append.mpr ⟨(List.forall_mem_append.mpr ⟨(List.forall_mem_append.mpr ⟨(List.forall_mem_append.mpr ⟨(List.forall_mem_append.mpr ⟨(List.forall_mem_append.mpr ⟨(List.forall_mem_append.mpr ⟨lw_x1, List.forall_mem_append.mpr ⟨lw_x2, lw_x3⟩⟩), inX0⟩), inX1⟩), inX2⟩), inX3⟩), inX5⟩), inX8⟩), inX10⟩), inX9⟩)⟩
set_option maxHeartbeats 4000000 in
set_option maxRecDepth 100000 in
theorem lw_xx : ∀ w ∈ zXtra, w ∈ lw_tbl := List.forall_mem_append.mpr ⟨lw_xa, lw_xg⟩
/-! all that no row of the tables gives by itself -/
set_option maxHeartbeats 4000000 in
set_option maxRecDepth 100000 in
theorem lw_noc : ∀ q ∈ zNoc, Cond.not (.castable q.1 q.2) ∈ flatC lw_giv := by decide +kernel
set_option maxHeartbeats 4000000 in
set_option maxRecDepth 100000 in
theorem lw_N {s : State} {args : Array Value} {A : Nat → Prop} {F tx ty : Nat → Nat} (hts : ∀ w ∈ lw_tbl, w.before args s = true) (hgv : lw_giv.before args s = true) (hA : ∀ a : Nat, a < s.heap.size → ¬ A a) (hS : vk_S 6 zLen zByt tx ty A s s.heap) (hev : ∀ i : Nat, i < 6 → (lw_tm i).eval args s none [] s = some (.ref (tx i))) (hF : ∀ i, i < 6 → F (200 + i) = tx i) (hG : ∀ i, i < 6 → F (220 + i) = ty i) : zN F A s s.heap := by
  have hs := flat_of_before _ hgv
  refine ⟨fun q hq => va_Nw.of rfl (hts _ (lw_nest q hq)), fun q hq => va_Nw.of rfl (hts _ (lw_cast q hq)), fun q hq => va_Nc.of (hs _ (lw_noc q hq)), ⟨fun i hi => ?_, fun i j hi hj e => ?_⟩, ?_, ?_, ?_, ?_⟩
  · have e1 := hF i hi
    have e2 := hG i hi
    show va_O _ (F (200 + i)) A s s.heap ∧ va_OF _ _ _ _ (F (200 + i)) A s s.heap ∧ va_OF _ _ _ (.ref (F (220 + i))) (F (200 + i)) A s s.heap ∧ va_T .byte (F (220 + i)) _ _ A s s.heap
    rw [e1, e2]
    exact hS.1 i hi
  · have e : F (200 + i) = F (200 + j) := e
    rw [hF i hi, hF j hj] at e
    exact hS.2 i j hi hj e
  · have h := lw_R hts hgv hev
    intro q hq
    have hq6 : q.2.2.2 < 6 := (by decide +kernel : ∀ q ∈ zStrs, q.2.2.2 < 6) q hq
    rw [hF _ hq6]
    exact h q hq
  · intro w hw
    exact pay_in (fun w hw => hts w (lw_xx w hw)) zXtra_good w hw #[] s (State.WarmedH.refl s)
  · exact va_Zof (hts (.laysStatic "java/lang/String" "COMPACT_STRINGS" "Z") (by decide +kernel)) (hts (.initialized "java/lang/String") (by decide +kernel)) (va_eqt (hs (Cond.eq (.static "java/lang/String" "COMPACT_STRINGS" "Z") (.int 1)) (by decide +kernel))) hA
  · exact va_Zqof (hts (.laysStatic "jdk/internal/util/Preconditions" "SIOOBE_FORMATTER" "Ljava/util/function/BiFunction;") (by decide +kernel)) (hts (.initialized "jdk/internal/util/Preconditions") (by decide +kernel)) (hs (Cond.isRef (.static "jdk/internal/util/Preconditions" "SIOOBE_FORMATTER" "Ljava/util/function/BiFunction;")) (by decide +kernel)) hA
