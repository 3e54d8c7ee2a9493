/-! ROWS for the class: persons of seven classes, shelves, lands; nullable references; nest mates; virtual calls -/
def zOKb (pk : Nat → Nat) (q : Nat) : Bool := decide (q < 18) && (pk q == 1 || pk q == 2 || pk q == 3 || pk q == 4 || pk q == 6 || pk q == 9 || pk q == 11)
theorem zOK_lt {pk : Nat → Nat} {q : Nat} (h : zOKb pk q = true) : q < 18 := by
  simp only [zOKb, Bool.and_eq_true, decide_eq_true_eq] at h
  exact h.1
theorem zOK_cases {pk : Nat → Nat} {q : Nat} (h : zOKb pk q = true) : pk q = 1 ∨ pk q = 2 ∨ pk q = 3 ∨ pk q = 4 ∨ pk q = 6 ∨ pk q = 9 ∨ pk q = 11 := by
  simp only [zOKb, Bool.and_eq_true, Bool.or_eq_true, beq_iff_eq] at h
  omega
theorem zOK_E {G : zG} {q : Nat} (h : zOKb (zpk G) q = true) (c : Nat) (hc : c < 4) : zE G (100 + 4 * q + c) = true := by
  have h1 := zOK_lt h
  have h2 := zOK_cases h
  have e : (100 + 4 * q + c - 100) / 4 = q := by omega
  simp only [zE, e, Bool.or_eq_true, Bool.and_eq_true, decide_eq_true_eq, Bool.not_eq_true', beq_eq_false_iff_ne]
  right
  exact ⟨⟨by omega, by omega⟩, by omega⟩
def zPf (F : Nat → Nat) (G : zG) (S : zSt) (k : Nat) : List Value := [.int (zsc S k 0), .int (zsc S k 1), .ref (zad F G 56), .ref (zad F G (k + 1)), .ref (zad F G (k + 2)), .ref (zad F G (k + 3)), .int (zsc S k 6), .int (zsc S k 7), .int (zsc S k 8)]
theorem zPB {Y : Nat → ClassId} {F : Nat → Nat} {G : zG} {S : zSt} (q : Nat) : zB Y F G S (100 + 4 * q) = .inr (zpk G q - 1, zPf F G S (100 + 4 * q)) := by
  have e : (100 + 4 * q - 100) / 4 = q := by omega
  unfold zB zBb
  rw [if_neg (show ¬ (100 + 4 * q = 0) by omega), if_neg (show ¬ (100 + 4 * q = 3) by omega), if_neg (show ¬ (100 + 4 * q < 19) by omega), if_neg (show ¬ (100 + 4 * q = 20) by omega), if_neg (show ¬ (100 + 4 * q = 21) by omega), if_neg (show ¬ (100 + 4 * q < 27) by omega), if_neg (show ¬ (100 + 4 * q = 27) by omega), if_neg (show ¬ (100 + 4 * q < 40) by omega), if_neg (show ¬ (100 + 4 * q < 56) by omega), if_neg (show ¬ (100 + 4 * q = 56) by omega), if_neg (show ¬ (100 + 4 * q = 57) by omega), if_neg (show ¬ (100 + 4 * q < 69) by omega), if_neg (show ¬ (100 + 4 * q = 70) by omega), if_neg (show ¬ (100 + 4 * q = 71) by omega), if_pos (show (100 + 4 * q) % 4 = 0 by omega), e]
  rfl
theorem zPR1 (q : Nat) : zRi (100 + 4 * q + 1) 48 := fun Y av pv sv rv lv => by
  unfold zBb
  rw [if_neg (show ¬ (100 + 4 * q + 1 = 0) by omega), if_neg (show ¬ (100 + 4 * q + 1 = 3) by omega), if_neg (show ¬ (100 + 4 * q + 1 < 19) by omega), if_neg (show ¬ (100 + 4 * q + 1 = 20) by omega), if_neg (show ¬ (100 + 4 * q + 1 = 21) by omega), if_neg (show ¬ (100 + 4 * q + 1 < 27) by omega), if_neg (show ¬ (100 + 4 * q + 1 = 27) by omega), if_neg (show ¬ (100 + 4 * q + 1 < 40) by omega), if_neg (show ¬ (100 + 4 * q + 1 < 56) by omega), if_neg (show ¬ (100 + 4 * q + 1 = 56) by omega), if_neg (show ¬ (100 + 4 * q + 1 = 57) by omega), if_neg (show ¬ (100 + 4 * q + 1 < 69) by omega), if_neg (show ¬ (100 + 4 * q + 1 = 70) by omega), if_neg (show ¬ (100 + 4 * q + 1 = 71) by omega), if_neg (show ¬ ((100 + 4 * q + 1) % 4 = 0) by omega), if_pos (show (100 + 4 * q + 1) % 4 = 1 by omega)]
theorem zPR2 (q : Nat) : zRi (100 + 4 * q + 2) 6 := fun Y av pv sv rv lv => by
  unfold zBb
  rw [if_neg (show ¬ (100 + 4 * q + 2 = 0) by omega), if_neg (show ¬ (100 + 4 * q + 2 = 3) by omega), if_neg (show ¬ (100 + 4 * q + 2 < 19) by omega), if_neg (show ¬ (100 + 4 * q + 2 = 20) by omega), if_neg (show ¬ (100 + 4 * q + 2 = 21) by omega), if_neg (show ¬ (100 + 4 * q + 2 < 27) by omega), if_neg (show ¬ (100 + 4 * q + 2 = 27) by omega), if_neg (show ¬ (100 + 4 * q + 2 < 40) by omega), if_neg (show ¬ (100 + 4 * q + 2 < 56) by omega), if_neg (show ¬ (100 + 4 * q + 2 = 56) by omega), if_neg (show ¬ (100 + 4 * q + 2 = 57) by omega), if_neg (show ¬ (100 + 4 * q + 2 < 69) by omega), if_neg (show ¬ (100 + 4 * q + 2 = 70) by omega), if_neg (show ¬ (100 + 4 * q + 2 = 71) by omega), if_neg (show ¬ ((100 + 4 * q + 2) % 4 = 0) by omega), if_neg (show ¬ ((100 + 4 * q + 2) % 4 = 1) by omega)]
theorem zPR3 (q : Nat) : zRi (100 + 4 * q + 3) 6 := fun Y av pv sv rv lv => by
  unfold zBb
  rw [if_neg (show ¬ (100 + 4 * q + 3 = 0) by omega), if_neg (show ¬ (100 + 4 * q + 3 = 3) by omega), if_neg (show ¬ (100 + 4 * q + 3 < 19) by omega), if_neg (show ¬ (100 + 4 * q + 3 = 20) by omega), if_neg (show ¬ (100 + 4 * q + 3 = 21) by omega), if_neg (show ¬ (100 + 4 * q + 3 < 27) by omega), if_neg (show ¬ (100 + 4 * q + 3 = 27) by omega), if_neg (show ¬ (100 + 4 * q + 3 < 40) by omega), if_neg (show ¬ (100 + 4 * q + 3 < 56) by omega), if_neg (show ¬ (100 + 4 * q + 3 = 56) by omega), if_neg (show ¬ (100 + 4 * q + 3 = 57) by omega), if_neg (show ¬ (100 + 4 * q + 3 < 69) by omega), if_neg (show ¬ (100 + 4 * q + 3 = 70) by omega), if_neg (show ¬ (100 + 4 * q + 3 = 71) by omega), if_neg (show ¬ ((100 + 4 * q + 3) % 4 = 0) by omega), if_neg (show ¬ ((100 + 4 * q + 3) % 4 = 1) by omega)]
theorem zsh_E {G : zG} {s1 : Nat} (h : s1 < 8) : zE G (40 + 2 * s1) = true := by
  simp only [zE, Bool.or_eq_true, Bool.and_eq_true, decide_eq_true_eq]
  left; left; left; left; right
  omega
theorem zsh_E1 {G : zG} {s1 : Nat} (h : s1 < 8) : zE G (40 + 2 * s1 + 1) = true := by
  simp only [zE, Bool.or_eq_true, Bool.and_eq_true, decide_eq_true_eq]
  left; left; left; left; right
  omega
theorem zsh_B {Y : Nat → ClassId} {F : Nat → Nat} {G : zG} {S : zSt} {s1 : Nat} (h : s1 < 8) : zB Y F G S (40 + 2 * s1) = .inr (7, [.ref (zad F G (40 + 2 * s1 + 1)), .int (zsc S (40 + 2 * s1) 1), .int (zsc S (40 + 2 * s1) 2)]) := by
  match s1, h with
  | 0, _ => rfl
  | 1, _ => rfl
  | 2, _ => rfl
  | 3, _ => rfl
  | 4, _ => rfl
  | 5, _ => rfl
  | 6, _ => rfl
  | 7, _ => rfl
theorem zsh_R {s1 : Nat} (h : s1 < 8) : zRl (40 + 2 * s1 + 1) 160 := by
  match s1, h with
  | 0, _ => exact fun _ _ _ _ _ _ => rfl
  | 1, _ => exact fun _ _ _ _ _ _ => rfl
  | 2, _ => exact fun _ _ _ _ _ _ => rfl
  | 3, _ => exact fun _ _ _ _ _ _ => rfl
  | 4, _ => exact fun _ _ _ _ _ _ => rfl
  | 5, _ => exact fun _ _ _ _ _ _ => rfl
  | 6, _ => exact fun _ _ _ _ _ _ => rfl
  | 7, _ => exact fun _ _ _ _ _ _ => rfl
theorem zld_E {G : zG} {i1 : Nat} (h : i1 < 3) : zE G (60 + 3 * i1) = true := by
  match i1, h with
  | 0, _ => rfl
  | 1, _ => rfl
  | 2, _ => rfl
theorem zld_E1 {G : zG} {i1 : Nat} (h : i1 < 3) : zE G (60 + 3 * i1 + 1) = true := by
  match i1, h with
  | 0, _ => rfl
  | 1, _ => rfl
  | 2, _ => rfl
theorem zld_E2 {G : zG} {i1 : Nat} (h : i1 < 3) : zE G (60 + 3 * i1 + 2) = true := by
  match i1, h with
  | 0, _ => rfl
  | 1, _ => rfl
  | 2, _ => rfl
theorem zld_B {Y : Nat → ClassId} {F : Nat → Nat} {G : zG} {S : zSt} {i1 : Nat} (h : i1 < 3) : zB Y F G S (60 + 3 * i1) = .inr (4, [.ref (zad F G (60 + 3 * i1 + 1)), .ref (zad F G (60 + 3 * i1 + 2)), .ref (zad F G 56), .int (zsc S (60 + 3 * i1) 3), .int (zsc S (60 + 3 * i1) 4), .int (zsc S (60 + 3 * i1) 5)]) := by
  match i1, h with
  | 0, _ => rfl
  | 1, _ => rfl
  | 2, _ => rfl
/-- who stands in place q, if anybody -/
def zwho (pk : Nat → Nat) (q : Nat) : Option Nat := if pk q = 0 then none else some q
abbrev zpa (F : Nat → Nat) (G : zG) (q : Nat) : Nat := zad F G (100 + 4 * q)
abbrev zsa (F : Nat → Nat) (G : zG) (q : Nat) : Nat := zad F G (40 + 2 * q)
theorem zld_BP {Y : Nat → ClassId} {F : Nat → Nat} {G : zG} {S : zSt} {i1 : Nat} (h : i1 < 3) : zB Y F G S (60 + 3 * i1 + 1) = .inl (Y 2, 6, .inr (.inr (.inr (.inr (fun j => (zwho (zpk G) (6 * i1 + j)).map (zpa F G)))))) := by
  have e : zB Y F G S (60 + 3 * i1 + 1) = .inl (Y 2, 6, .inr (.inr (.inr (.inr (fun j => if zpk G (2 * (60 + 3 * i1 + 1 - 61) + j) = 0 then none else some (zad F G (100 + 4 * (2 * (60 + 3 * i1 + 1 - 61) + j)))))))) := by
    match i1, h with
    | 0, _ => rfl
    | 1, _ => rfl
    | 2, _ => rfl
  rw [e, show 2 * (60 + 3 * i1 + 1 - 61) = 6 * i1 by omega]
  congr 8
  funext j
  unfold zwho
  by_cases hz : zpk G (6 * i1 + j) = 0
  · rw [if_pos hz, if_pos hz]; rfl
  · rw [if_neg hz, if_neg hz]; rfl
theorem zld_R2 {i1 : Nat} (h : i1 < 3) : zRi (60 + 3 * i1 + 2) 6 := by
  match i1, h with
  | 0, _ => exact fun _ _ _ _ _ _ => rfl
  | 1, _ => exact fun _ _ _ _ _ _ => rfl
  | 2, _ => exact fun _ _ _ _ _ _ => rfl
/-- by whether somebody is there -/
def zm {α : Type} (o : Option Nat) (x : α) (f : Nat → α) : α := match o with
  | none => x
  | some q => f q
/-- a copying that may be -/
def zcp (sp dp n : Int32) (n0 n1 : Nat) : Bool := !(decide (sp < 0)) && (!(decide (dp < 0)) && (!(decide (n < 0)) && (decide (sp.toNatClampNeg + n.toNatClampNeg ≤ n0) && decide (dp.toNatClampNeg + n.toNatClampNeg ≤ n1))))
theorem zcp_of {sp dp n : Int32} {n0 n1 : Nat} (h : zcp sp dp n n0 n1 = true) : ¬ sp < 0 ∧ ¬ dp < 0 ∧ ¬ n < 0 ∧ sp.toNatClampNeg + n.toNatClampNeg ≤ n0 ∧ dp.toNatClampNeg + n.toNatClampNeg ≤ n1 := by
  simpa only [zcp, Bool.and_eq_true, Bool.not_eq_true', decide_eq_false_iff_not, decide_eq_true_eq] using h
theorem zm_n {α : Type} {x : Option α} {f : Nat → Option α} {r : α} (h : zm none x f = some r) : x = some r := h
theorem zm_s {α : Type} {x : Option α} {f : Nat → Option α} {r : α} {q : Nat} (h : zm (some q) x f = some r) : f q = some r := h
theorem zin_lt {i : Int32} {n : Nat} (h : zin i n = true) : i.toNatClampNeg < n := Nat.not_le.mp fun q => zin_in h (Or.inr q)
theorem zsh_P {Y : Nat → ClassId} {F : Nat → Nat} {G : zG} {S : zSt} {s1 f : Nat} {v : Int32} (h : s1 < 8) (hf : f = 1 ∨ f = 2) : zB Y F G (zP S (40 + 2 * s1) f v) (40 + 2 * s1) = .inr (7, List.set [.ref (zad F G (40 + 2 * s1 + 1)), .int (zsc S (40 + 2 * s1) 1), .int (zsc S (40 + 2 * s1) 2)] f (.int v)) := by
  rw [zsh_B h]
  rcases hf with rfl | rfl <;> simp only [zP_sc'] <;> rfl
theorem zld_P {Y : Nat → ClassId} {F : Nat → Nat} {G : zG} {S : zSt} {i1 f : Nat} {v : Int32} (h : i1 < 3) (hf : f = 3 ∨ f = 4 ∨ f = 5) : zB Y F G (zP S (60 + 3 * i1) f v) (60 + 3 * i1) = .inr (4, List.set [.ref (zad F G (60 + 3 * i1 + 1)), .ref (zad F G (60 + 3 * i1 + 2)), .ref (zad F G 56), .int (zsc S (60 + 3 * i1) 3), .int (zsc S (60 + 3 * i1) 4), .int (zsc S (60 + 3 * i1) 5)] f (.int v)) := by
  rw [zld_B h]
  rcases hf with rfl | rfl | rfl <;> simp only [zP_sc'] <;> rfl
theorem zbb_E {G : zG} {t : Nat} (h : t < 7) : zE G (28 + t) = true := by
  simp only [zE, Bool.or_eq_true, Bool.and_eq_true, decide_eq_true_eq]
  left; left; left; left; left; right
  omega
theorem zbb_R {t : Nat} (h : t < 7) : zRi (28 + t) 64 := by
  match t, h with
  | 0, _ => exact fun _ _ _ _ _ _ => rfl
  | 1, _ => exact fun _ _ _ _ _ _ => rfl
  | 2, _ => exact fun _ _ _ _ _ _ => rfl
  | 3, _ => exact fun _ _ _ _ _ _ => rfl
  | 4, _ => exact fun _ _ _ _ _ _ => rfl
  | 5, _ => exact fun _ _ _ _ _ _ => rfl
  | 6, _ => exact fun _ _ _ _ _ _ => rfl
theorem zrd_B {Y : Nat → ClassId} {F : Nat → Nat} {G : zG} {S : zSt} : zB Y F G S 70 = .inr (6, [.ref (zad F G 63), .ref (zad F G 71), .int (zsc S 70 2), .int (zsc S 70 3), .int (zsc S 70 4), .int (zsc S 70 5), .int (zsc S 70 6), .int (zsc S 70 7), .int (zsc S 70 8), .int (zsc S 70 9)]) := rfl
theorem TX0_eq : TX0 = TX5 := rfl
theorem TX1_eq : TX1 = TX5 := rfl
theorem TX2_eq : TX2 = TX5 := rfl
theorem TX3_eq : TX3 = TX5 := rfl
theorem TX8_eq : TX8 = TX5 := rfl
theorem TX10_eq : TX10 = TX5 := rfl
theorem TX5_own : ∀ f, f < 9 → (TX5 f).1 = "CarbonCopies$Person" := by decide +kernel
abbrev wsPers : List Cond := wsX00 ++ wsX10 ++ wsX20 ++ wsX30 ++ wsX50 ++ wsX80 ++ wsX100
section ZR4
variable {p : Program} {l : Launch} {e : Env} {R : Room} {s : State} {m : MethodId} {args : Array Value} {below : List Frame} {meth : Method} {c : Code} {H : Heap} {locs : List Loc} {cells slots : Nat} {Q : State → Prop}
variable {cc : ByteArray} {nL : Nat} {ret : Option FieldType} {own : String} {ws : List Cond} {pc : Nat} {ls : Array Slot} {rest : List Value} {D : va_G} {Y : Nat → ClassId} {F : Nat → Nat} {A : Nat → Prop} {G : zG} {S : zSt}
theorem z_getU (C0 : zCx p s m args meth c D Y F A own cc nL ret ws) {C ref : String} {T : u_T} {N : Nat} (hin : ∀ w ∈ u_ws C T N, w ∈ ws) (hw : zH D Y F A G S H) {k ci : Nat} {fs : List Value} (hE : zE G k = true) {a : Nat} (ha : zad F G k = a) (hB : zB Y F G S k = .inr (ci, fs)) (hc : vwCl[ci]? = some (C, T, N)) (f : Nat) (hf : f < N) {v : Value} (hv : fs[f]? = some v) (i : Nat) {index : Nat} (hlink : ws[i]? = some (Cond.fieldLink own index ref (T f).2.1 (T f).2.2.1)) (hsame : ref = (T f).1 ∨ ∃ j : Nat, ws[j]? = some (Cond.sameField ref (T f).1 (T f).2.1 (T f).2.2.1)) (hdg : decode cc pc = .ok (.getfield index, 3))
    (kk : W p l e R s m args below meth c H locs cells slots Q (F0 m (pc + 3) ls (v :: rest))) : W p l e R s m args below meth c H locs cells slots Q (F0 m pc ls (.ref a :: rest)) := by
  obtain ⟨hx, hb, hml, hr, hown, hts, hK, hA, hlk, hN⟩ := C0
  subst ha
  have hP := hw.one hE
  rw [hB] at hP
  refine va_get hx hb hts hin hown hK hP 0 rfl hc f hf (hts _ (List.mem_of_getElem? hlink)) (fun x h => ?_) hv hdg kk
  rcases hsame with e | ⟨j, hj⟩
  · rw [e]; exact h
  · exact u_same (hts _ (List.mem_of_getElem? hj)) x h
theorem z_putU (C0 : zCx p s m args meth c D Y F A own cc nL ret ws) {C ref : String} {T : u_T} {N : Nat} (hin : ∀ w ∈ u_ws C T N, w ∈ ws) (tyv : Nat → FieldType) (hty : ∀ k, k < N → parseFieldDescriptor (T k).2.2.1 = some (tyv k)) (hnm : ∀ a, a < N → ∀ b, b < N → a ≠ b → (T a).2.1 ≠ (T b).2.1) (hw : zH D Y F A G S H) (hS : va_S A s.heap H locs) {k ci : Nat} {fs : List Value} (hE : zE G k = true) {a : Nat} (ha : zad F G k = a) (hB : zB Y F G S k = .inr (ci, fs)) (hc : vwCl[ci]? = some (C, T, N)) (f : Nat) (hf : f < N) (i : Nat) {index : Nat} (hlink : ws[i]? = some (Cond.fieldLink own index ref (T f).2.1 (T f).2.2.1)) (hsame : ref = (T f).1) (hfin : (T f).2.2.2 = false) {v : Int32} (hd : parseFieldDescriptor (T f).2.2.1 = some .int) (hl : f < fs.length) (hB' : zB Y F G (zP S k f v) k = .inr (ci, fs.set f (.int v))) (hdg : decode cc pc = .ok (.putfield index, 3))
    (kk : ∀ (H1 : Heap) (locs1 : List Loc), zH D Y F A G (zP S k f v) H1 → va_S A s.heap H1 locs1 → W p l e R s m args below meth c H1 locs1 cells slots Q (F0 m (pc + 3) ls rest)) : W p l e R s m args below meth c H locs cells slots Q (F0 m pc ls (.int v :: .ref a :: rest)) := by
  subst hsame
  exact z_put C0 hin tyv hty hnm hw hS hE ha hB hc f hf i hlink hfin hd rfl rfl hl hB' hdg kk
theorem z_getP (C0 : zCx p s m args meth c D Y F A own cc nL ret ws) {ref : String} (hin : ∀ w ∈ wsPers, w ∈ ws) (hw : zH D Y F A G S H) {q : Nat} (hq : zOKb (zpk G) q = true) (f : Nat) (hf : f < 9) {v : Value} (hv : (zPf F G S (100 + 4 * q))[f]? = some v) (i : Nat) {index : Nat} (hlink : ws[i]? = some (Cond.fieldLink own index ref (TX5 f).2.1 (TX5 f).2.2.1)) (hsame : ref = "CarbonCopies$Person" ∨ ∃ j : Nat, ws[j]? = some (Cond.sameField ref "CarbonCopies$Person" (TX5 f).2.1 (TX5 f).2.2.1)) (hdg : decode cc pc = .ok (.getfield index, 3))
    (kk : W p l e R s m args below meth c H locs cells slots Q (F0 m (pc + 3) ls (v :: rest))) : W p l e R s m args below meth c H locs cells slots Q (F0 m pc ls (.ref (zad F G (100 + 4 * q)) :: rest)) := by
  have hE := zOK_E hq 0 (by omega)
  have hs2 : ref = (TX5 f).1 ∨ ∃ j : Nat, ws[j]? = some (Cond.sameField ref (TX5 f).1 (TX5 f).2.1 (TX5 f).2.2.1) := by rw [TX5_own f hf]; exact hsame
  rcases zOK_cases hq with h1 | h1 | h1 | h1 | h1 | h1 | h1
  · exact z_getU C0 (C := RX0) (T := TX0) (N := 9) (fun w h => hin w (List.mem_append_left _ (List.mem_append_left _ (List.mem_append_left _ (List.mem_append_left _ (List.mem_append_left _ (List.mem_append_left _ h))))))) hw (k := 100 + 4 * q) (ci := 0) hE rfl ((zPB q).trans (by rw [h1])) rfl f hf hv i hlink hs2 hdg kk
  · exact z_getU C0 (C := RX1) (T := TX1) (N := 9) (fun w h => hin w (List.mem_append_left _ (List.mem_append_left _ (List.mem_append_left _ (List.mem_append_left _ (List.mem_append_left _ (List.mem_append_right _ h))))))) hw (k := 100 + 4 * q) (ci := 1) hE rfl ((zPB q).trans (by rw [h1])) rfl f hf hv i hlink hs2 hdg kk
  · exact z_getU C0 (C := RX2) (T := TX2) (N := 9) (fun w h => hin w (List.mem_append_left _ (List.mem_append_left _ (List.mem_append_left _ (List.mem_append_left _ (List.mem_append_right _ h)))))) hw (k := 100 + 4 * q) (ci := 2) hE rfl ((zPB q).trans (by rw [h1])) rfl f hf hv i hlink hs2 hdg kk
  · exact z_getU C0 (C := RX3) (T := TX3) (N := 9) (fun w h => hin w (List.mem_append_left _ (List.mem_append_left _ (List.mem_append_left _ (List.mem_append_right _ h))))) hw (k := 100 + 4 * q) (ci := 3) hE rfl ((zPB q).trans (by rw [h1])) rfl f hf hv i hlink hs2 hdg kk
  · exact z_getU C0 (C := RX5) (T := TX5) (N := 9) (fun w h => hin w (List.mem_append_left _ (List.mem_append_left _ (List.mem_append_right _ h)))) hw (k := 100 + 4 * q) (ci := 5) hE rfl ((zPB q).trans (by rw [h1])) rfl f hf hv i hlink hs2 hdg kk
  · exact z_getU C0 (C := RX8) (T := TX8) (N := 9) (fun w h => hin w (List.mem_append_left _ (List.mem_append_right _ h))) hw (k := 100 + 4 * q) (ci := 8) hE rfl ((zPB q).trans (by rw [h1])) rfl f hf hv i hlink hs2 hdg kk
  · exact z_getU C0 (C := RX10) (T := TX10) (N := 9) (fun w h => hin w (List.mem_append_right _ h)) hw (k := 100 + 4 * q) (ci := 10) hE rfl ((zPB q).trans (by rw [h1])) rfl f hf hv i hlink hs2 hdg kk
theorem zPf_set {S : zSt} {k f : Nat} {v : Int32} (hf : f = 6 ∨ f = 7 ∨ f = 8) : zPf F G (zP S k f v) k = (zPf F G S k).set f (.int v) := by
  unfold zPf
  rcases hf with rfl | rfl | rfl <;> simp only [zP_sc'] <;> rfl
theorem z_putP (C0 : zCx p s m args meth c D Y F A own cc nL ret ws) {ref : String} (hin : ∀ w ∈ wsPers, w ∈ ws) (hw : zH D Y F A G S H) (hS : va_S A s.heap H locs) {q : Nat} (hq : zOKb (zpk G) q = true) (f : Nat) (hf : f = 6 ∨ f = 7 ∨ f = 8) (i : Nat) {index : Nat} (hlink : ws[i]? = some (Cond.fieldLink own index ref (TX5 f).2.1 (TX5 f).2.2.1)) (hsame : ref = "CarbonCopies$Person") {v : Int32} (hdg : decode cc pc = .ok (.putfield index, 3))
    (kk : ∀ (H1 : Heap) (locs1 : List Loc), zH D Y F A G (zP S (100 + 4 * q) f v) H1 → va_S A s.heap H1 locs1 → W p l e R s m args below meth c H1 locs1 cells slots Q (F0 m (pc + 3) ls rest)) : W p l e R s m args below meth c H locs cells slots Q (F0 m pc ls (.int v :: .ref (zad F G (100 + 4 * q)) :: rest)) := by
  have hE := zOK_E hq 0 (by omega)
  have hf9 : f < 9 := by omega
  have hs2 : ref = (TX5 f).1 := by rw [TX5_own f hf9]; exact hsame
  have hfin : (TX5 f).2.2.2 = false := by rcases hf with rfl | rfl | rfl <;> rfl
  have hd : parseFieldDescriptor (TX5 f).2.2.1 = some .int := by rcases hf with rfl | rfl | rfl <;> decide +kernel
  have hl : f < (zPf F G S (100 + 4 * q)).length := hf9
  rcases zOK_cases hq with h1 | h1 | h1 | h1 | h1 | h1 | h1
  · exact z_putU C0 (C := RX0) (T := TX0) (N := 9) (fun w h => hin w (List.mem_append_left _ (List.mem_append_left _ (List.mem_append_left _ (List.mem_append_left _ (List.mem_append_left _ (List.mem_append_left _ h))))))) tyX0 tyX0_ok nmX0 hw hS (k := 100 + 4 * q) (ci := 0) hE rfl ((zPB q).trans (by rw [h1])) rfl f hf9 i hlink hs2 hfin hd hl ((zPB q).trans (by rw [h1, zPf_set hf])) hdg kk
  · exact z_putU C0 (C := RX1) (T := TX1) (N := 9) (fun w h => hin w (List.mem_append_left _ (List.mem_append_left _ (List.mem_append_left _ (List.mem_append_left _ (List.mem_append_left _ (List.mem_append_right _ h))))))) tyX1 tyX1_ok nmX1 hw hS (k := 100 + 4 * q) (ci := 1) hE rfl ((zPB q).trans (by rw [h1])) rfl f hf9 i hlink hs2 hfin hd hl ((zPB q).trans (by rw [h1, zPf_set hf])) hdg kk
  · exact z_putU C0 (C := RX2) (T := TX2) (N := 9) (fun w h => hin w (List.mem_append_left _ (List.mem_append_left _ (List.mem_append_left _ (List.mem_append_left _ (List.mem_append_right _ h)))))) tyX2 tyX2_ok nmX2 hw hS (k := 100 + 4 * q) (ci := 2) hE rfl ((zPB q).trans (by rw [h1])) rfl f hf9 i hlink hs2 hfin hd hl ((zPB q).trans (by rw [h1, zPf_set hf])) hdg kk
  · exact z_putU C0 (C := RX3) (T := TX3) (N := 9) (fun w h => hin w (List.mem_append_left _ (List.mem_append_left _ (List.mem_append_left _ (List.mem_append_right _ h))))) tyX3 tyX3_ok nmX3 hw hS (k := 100 + 4 * q) (ci := 3) hE rfl ((zPB q).trans (by rw [h1])) rfl f hf9 i hlink hs2 hfin hd hl ((zPB q).trans (by rw [h1, zPf_set hf])) hdg kk
  · exact z_putU C0 (C := RX5) (T := TX5) (N := 9) (fun w h => hin w (List.mem_append_left _ (List.mem_append_left _ (List.mem_append_right _ h)))) tyX5 tyX5_ok nmX5 hw hS (k := 100 + 4 * q) (ci := 5) hE rfl ((zPB q).trans (by rw [h1])) rfl f hf9 i hlink hs2 hfin hd hl ((zPB q).trans (by rw [h1, zPf_set hf])) hdg kk
  · exact z_putU C0 (C := RX8) (T := TX8) (N := 9) (fun w h => hin w (List.mem_append_left _ (List.mem_append_right _ h))) tyX8 tyX8_ok nmX8 hw hS (k := 100 + 4 * q) (ci := 8) hE rfl ((zPB q).trans (by rw [h1])) rfl f hf9 i hlink hs2 hfin hd hl ((zPB q).trans (by rw [h1, zPf_set hf])) hdg kk
  · exact z_putU C0 (C := RX10) (T := TX10) (N := 9) (fun w h => hin w (List.mem_append_right _ h)) tyX10 tyX10_ok nmX10 hw hS (k := 100 + 4 * q) (ci := 10) hE rfl ((zPB q).trans (by rw [h1])) rfl f hf9 i hlink hs2 hfin hd hl ((zPB q).trans (by rw [h1, zPf_set hf])) hdg kk
/-- the receiver, of whatever class -/
theorem z_prec (C0 : zCx p s m args meth c D Y F A own cc nL ret ws) (hw : zH D Y F A G S H) {q : Nat} (hq : zOKb (zpk G) q = true) {C : String} {T : u_T} {N ci : Nat} (h1 : zpk G q = ci + 1) (hc : vwCl[ci]? = some (C, T, N)) : ∃ cell : Cell, H[zad F G (100 + 4 * q)]? = some cell ∧ cell.vm.isStatics = false ∧ s.vm.findClass C = some cell.cls := by
  obtain ⟨hx, hb, hml, hr, hown, hts, hK, hA, hlk, hN⟩ := C0
  have hP := hw.one (zOK_E hq 0 (by omega))
  have hB : zB Y F G S (100 + 4 * q + 0) = .inr (ci, zPf F G S (100 + 4 * q)) := (zPB q).trans (by rw [h1]; rfl)
  rw [hB] at hP
  exact va_recv hK hP hc (q0 := 0) rfl
theorem z_pat (C0 : zCx p s m args meth c D Y F A own cc nL ret ws) {C : String} {T : u_T} {N ci : Nat} (hc : vwCl[ci]? = some (C, T, N)) : ClassAt s C (D.1 ci) := (C0.2.2.2.2.2.2.1.1 ci _ hc).2
/-- behind a run whose callee changed only what the state says -/
theorem z_goi (C0 : zCx p s m args meth c D Y F A own cc nL ret ws) (hw : zH D Y F A G S H) (hS : va_S A s.heap H locs) {res : Int32 × zSt} {st : List Value} {arr : Array Value} (hr : va_Run p l e R s m args below meth c H locs cells slots 0 0 (F0 m pc ls st) rest (zQi D Y F (zAo F G H.size) G res arr) (zAo F G H.size))
    (kk : ∀ (H1 : Heap) (locs1 : List Loc), zH D Y F A G res.2 H1 → va_S A s.heap H1 locs1 → W p l e R s m args below meth c H1 locs1 cells slots Q (F0 m (pc + 3) ls (.int res.1 :: rest))) : W p l e R s m args below meth c H locs cells slots Q (F0 m pc ls st) := by
  obtain ⟨hx, hb, hml, hrt, hown, hts, hK, hA, hlk, hN⟩ := C0
  have hsub := zAo_sub hw hS hA
  refine va_calli hr hS (fun q _ h => hsub q h) hsub (fun r u t H1 locs1 ht hvm hp hU _ _ hS1 => ?_)
  subst hp
  subst ht
  exact kk _ locs1 (hU.1.weaken hsub) hS1
theorem z_gov (C0 : zCx p s m args meth c D Y F A own cc nL ret ws) (hw : zH D Y F A G S H) (hS : va_S A s.heap H locs) {res : zSt} {st : List Value} {arr : Array Value} (hr : va_Run p l e R s m args below meth c H locs cells slots 0 0 (F0 m pc ls st) rest (zQv D Y F (zAo F G H.size) G res arr) (zAo F G H.size))
    (kk : ∀ (H1 : Heap) (locs1 : List Loc), zH D Y F A G res H1 → va_S A s.heap H1 locs1 → W p l e R s m args below meth c H1 locs1 cells slots Q (F0 m (pc + 3) ls rest)) : W p l e R s m args below meth c H locs cells slots Q (F0 m pc ls st) := by
  obtain ⟨hx, hb, hml, hrt, hown, hts, hK, hA, hlk, hN⟩ := C0
  have hsub := zAo_sub hw hS hA
  refine va_callv hr hS (fun q _ h => hsub q h) hsub (fun u t H1 locs1 ht hvm hp hU _ _ hS1 => ?_)
  subst hp
  subst ht
  exact kk _ locs1 (hU.1.weaken hsub) hS1
theorem z_goq (C0 : zCx p s m args meth c D Y F A own cc nL ret ws) (hw : zH D Y F A G S H) (hS : va_S A s.heap H locs) {r0 : Option Nat} {st : List Value} {arr : Array Value} (hr : va_Run p l e R s m args below meth c H locs cells slots 0 0 (F0 m pc ls st) rest (zQq D Y F (zAo F G H.size) G S r0 arr) (zAo F G H.size))
    (kk : ∀ (H1 : Heap) (locs1 : List Loc), zH D Y F A G S H1 → va_S A s.heap H1 locs1 → W p l e R s m args below meth c H1 locs1 cells slots Q (F0 m (pc + 3) ls (va_rf r0 :: rest))) : W p l e R s m args below meth c H locs cells slots Q (F0 m pc ls st) := by
  obtain ⟨hx, hb, hml, hrt, hown, hts, hK, hA, hlk, hN⟩ := C0
  have hsub := zAo_sub hw hS hA
  refine va_callq hr hS (fun q _ h => hsub q h) hsub (fun r u t H1 locs1 ht hvm hp hU _ _ hS1 => ?_)
  obtain ⟨rfl, rfl⟩ := hp
  subst ht
  exact kk _ locs1 (hU.1.weaken hsub) hS1
/-- what a callee is given: the same world -/
theorem z_give (C0 : zCx p s m args meth c D Y F A own cc nL ret ws) (hw : zH D Y F A G S H) (hS : va_S A s.heap H locs) (av : List Value) : ∀ U : State, U.heap = H → s.WarmedH U.vm → zPc D Y F G S H.size av av.toArray U := by
  obtain ⟨hx, hb, hml, hrt, hown, hts, hK, hA, hlk, hN⟩ := C0
  have hsub := zAo_sub hw hS hA
  exact fun U hU hW => ⟨rfl, by rw [hU], by rw [hU]; exact hw.weaken (fun _ _ => trivial), va_K.moved hW.alike hK, zN_call hN hS hsub hW hU⟩
theorem z_fix (C0 : zCx p s m args meth c D Y F A own cc nL ret ws) : CallFix p m c cc nL s args ws own := ⟨C0.1, C0.2.1, C0.2.2.1, C0.2.2.2.2.1, C0.2.2.2.2.2.1⟩
theorem z_rv (C0 : zCx p s m args meth c D Y F A own cc nL ret ws) (hw : zH D Y F A G S H) {C : String} {T : u_T} {N k ci : Nat} {fs : List Value} (hE : zE G k = true) {a : Nat} (ha : zad F G k = a) (hB : zB Y F G S k = .inr (ci, fs)) (hc : vwCl[ci]? = some (C, T, N)) : ∃ cell : Cell, H[a]? = some cell ∧ cell.vm.isStatics = false ∧ s.vm.findClass C = some cell.cls := by
  obtain ⟨hx, hb, hml, hr, hown, hts, hK, hA, hlk, hN⟩ := C0
  subst ha
  have hP := hw.one hE
  rw [hB] at hP
  exact va_recv hK hP hc (q0 := 0) rfl
/-- a nullable answer -/
theorem z_retq {rtn : String} (C0 : zCx p s m args meth c D Y F A own cc nL (some (.object rtn)) ws) (hw : zH D Y F A G S H) (hS : va_S A s.heap H locs) {v : Value} {r0 : Option Nat} (hv : v = va_rf r0) (hdg : decode cc pc = .ok (.areturn, 1)) : W p l e R s m args below meth c H locs cells slots (MQ below (zQq D Y F A G S r0) args s cells slots A) (F0 m pc ls [v]) := by
  obtain ⟨hx, hb, hml, hr, hown, hts, hK, hA, hlk, hN⟩ := C0
  exact W.aret hx hb hr (Or.inl ⟨_, rfl⟩) (by rw [hv]; exact va_rf_or r0) (fun t ht hW => ⟨⟨r0, S, by rw [hv], ⟨rfl, rfl⟩, by unfold zU; rw [ht]; exact ⟨hw, va_K.moved hW.alike hK⟩⟩, hS.F ht⟩) hS.2.2 hdg (hlocks := hlk)
theorem z_topv {x y : Value} (h : x = y) (kk : W p l e R s m args below meth c H locs cells slots Q (F0 m pc ls (y :: rest))) : W p l e R s m args below meth c H locs cells slots Q (F0 m pc ls (x :: rest)) := h ▸ kk
/-- places of the arrays of references -/
theorem z_aald (C0 : zCx p s m args meth c D Y F A own cc nL ret ws) (hw : zH D Y F A G S H) {k t0 : Nat} {cA : ClassId} {C : String} {n : Nat} {f : Nat → Option Nat} (hE : zE G k = true) (hB : zB Y F G S k = .inl (cA, n, .inr (.inr (.inr (.inr f))))) (ht : (zT Y)[t0]? = some (cA, .object C)) {i : Int32} (hin : vp_in i n) {a : Nat} (ha : zad F G k = a) (hdg : decode cc pc = .ok (.aaload, 1))
    (kk : W p l e R s m args below meth c H locs cells slots Q (F0 m (pc + 1) ls (va_rf (f i.toNatClampNeg) :: rest))) : W p l e R s m args below meth c H locs cells slots Q (F0 m pc ls (.int i :: .ref a :: rest)) := by
  obtain ⟨hx, hb, hml, hr, hown, hts, hK, hA, hlk, hN⟩ := C0
  subst ha
  have hP := hw.one hE
  rw [hB] at hP
  exact va_aldq hx hb hK hP 0 t0 rfl ht hin hdg kk
def zis_X8 (pk : Nat → Nat) (q : Nat) : Int32 := if (pk q == 2 || pk q == 9) = true then 1 else 0
theorem z_inst_X8 (C0 : zCx p s m args meth c D Y F A own cc nL ret ws) (hw : zH D Y F A G S H) {q : Nat} (hq : zOKb (zpk G) q = true) {index : Nat} (hlink : (Cond.classLink own index RX8).before args s = true) (hdg : decode cc pc = .ok (.instanceof index, 3))
    (kk : W p l e R s m args below meth c H locs cells slots Q (F0 m (pc + 3) ls (.int (zis_X8 (zpk G) q) :: rest))) : W p l e R s m args below meth c H locs cells slots Q (F0 m pc ls (.ref (zad F G (100 + 4 * q)) :: rest)) := by
  rcases zOK_cases hq with zz | zz | zz | zz | zz | zz | zz
  · rw [show zis_X8 (zpk G) q = 0 by simp [zis_X8, zz]] at kk
    exact va_instNo (z_fix C0).1 (z_fix C0).2.1 C0.2.2.2.2.1 hlink (C0.2.2.2.2.2.2.2.2.2.2.2.1 (RX0, RX8) (List.mem_of_getElem? (i := 0) rfl)) (z_prec C0 hw hq (ci := 0) zz rfl) hdg kk
  · rw [show zis_X8 (zpk G) q = 1 by simp [zis_X8, zz]] at kk
    exact va_instY (z_fix C0).1 (z_fix C0).2.1 C0.2.2.2.2.1 hlink (C0.2.2.2.2.2.2.2.2.2.2.1 (RX1, RX8) (List.mem_of_getElem? (i := 1) rfl)) (z_prec C0 hw hq (ci := 1) zz rfl) hdg kk
  · rw [show zis_X8 (zpk G) q = 0 by simp [zis_X8, zz]] at kk
    exact va_instNo (z_fix C0).1 (z_fix C0).2.1 C0.2.2.2.2.1 hlink (C0.2.2.2.2.2.2.2.2.2.2.2.1 (RX2, RX8) (List.mem_of_getElem? (i := 8) rfl)) (z_prec C0 hw hq (ci := 2) zz rfl) hdg kk
  · rw [show zis_X8 (zpk G) q = 0 by simp [zis_X8, zz]] at kk
    exact va_instNo (z_fix C0).1 (z_fix C0).2.1 C0.2.2.2.2.1 hlink (C0.2.2.2.2.2.2.2.2.2.2.2.1 (RX3, RX8) (List.mem_of_getElem? (i := 13) rfl)) (z_prec C0 hw hq (ci := 3) zz rfl) hdg kk
  · rw [show zis_X8 (zpk G) q = 0 by simp [zis_X8, zz]] at kk
    exact va_instNo (z_fix C0).1 (z_fix C0).2.1 C0.2.2.2.2.1 hlink (C0.2.2.2.2.2.2.2.2.2.2.2.1 (RX5, RX8) (List.mem_of_getElem? (i := 18) rfl)) (z_prec C0 hw hq (ci := 5) zz rfl) hdg kk
  · rw [show zis_X8 (zpk G) q = 1 by simp [zis_X8, zz]] at kk
    exact va_instS (z_fix C0).1 (z_fix C0).2.1 C0.2.2.2.2.1 hlink (z_pat C0 (ci := 8) rfl) (z_prec C0 hw hq (ci := 8) zz rfl) hdg kk
  · rw [show zis_X8 (zpk G) q = 0 by simp [zis_X8, zz]] at kk
    exact va_instNo (z_fix C0).1 (z_fix C0).2.1 C0.2.2.2.2.1 hlink (C0.2.2.2.2.2.2.2.2.2.2.2.1 (RX10, RX8) (List.mem_of_getElem? (i := 29) rfl)) (z_prec C0 hw hq (ci := 10) zz rfl) hdg kk
def zis_X2 (pk : Nat → Nat) (q : Nat) : Int32 := if (pk q == 3 || pk q == 11) = true then 1 else 0
theorem z_inst_X2 (C0 : zCx p s m args meth c D Y F A own cc nL ret ws) (hw : zH D Y F A G S H) {q : Nat} (hq : zOKb (zpk G) q = true) {index : Nat} (hlink : (Cond.classLink own index RX2).before args s = true) (hdg : decode cc pc = .ok (.instanceof index, 3))
    (kk : W p l e R s m args below meth c H locs cells slots Q (F0 m (pc + 3) ls (.int (zis_X2 (zpk G) q) :: rest))) : W p l e R s m args below meth c H locs cells slots Q (F0 m pc ls (.ref (zad F G (100 + 4 * q)) :: rest)) := by
  rcases zOK_cases hq with zz | zz | zz | zz | zz | zz | zz
  · rw [show zis_X2 (zpk G) q = 0 by simp [zis_X2, zz]] at kk
    exact va_instNo (z_fix C0).1 (z_fix C0).2.1 C0.2.2.2.2.1 hlink (C0.2.2.2.2.2.2.2.2.2.2.2.1 (RX0, RX2) (List.mem_of_getElem? (i := 1) rfl)) (z_prec C0 hw hq (ci := 0) zz rfl) hdg kk
  · rw [show zis_X2 (zpk G) q = 0 by simp [zis_X2, zz]] at kk
    exact va_instNo (z_fix C0).1 (z_fix C0).2.1 C0.2.2.2.2.1 hlink (C0.2.2.2.2.2.2.2.2.2.2.2.1 (RX1, RX2) (List.mem_of_getElem? (i := 4) rfl)) (z_prec C0 hw hq (ci := 1) zz rfl) hdg kk
  · rw [show zis_X2 (zpk G) q = 1 by simp [zis_X2, zz]] at kk
    exact va_instS (z_fix C0).1 (z_fix C0).2.1 C0.2.2.2.2.1 hlink (z_pat C0 (ci := 2) rfl) (z_prec C0 hw hq (ci := 2) zz rfl) hdg kk
  · rw [show zis_X2 (zpk G) q = 0 by simp [zis_X2, zz]] at kk
    exact va_instNo (z_fix C0).1 (z_fix C0).2.1 C0.2.2.2.2.1 hlink (C0.2.2.2.2.2.2.2.2.2.2.2.1 (RX3, RX2) (List.mem_of_getElem? (i := 14) rfl)) (z_prec C0 hw hq (ci := 3) zz rfl) hdg kk
  · rw [show zis_X2 (zpk G) q = 0 by simp [zis_X2, zz]] at kk
    exact va_instNo (z_fix C0).1 (z_fix C0).2.1 C0.2.2.2.2.1 hlink (C0.2.2.2.2.2.2.2.2.2.2.2.1 (RX5, RX2) (List.mem_of_getElem? (i := 19) rfl)) (z_prec C0 hw hq (ci := 5) zz rfl) hdg kk
  · rw [show zis_X2 (zpk G) q = 0 by simp [zis_X2, zz]] at kk
    exact va_instNo (z_fix C0).1 (z_fix C0).2.1 C0.2.2.2.2.1 hlink (C0.2.2.2.2.2.2.2.2.2.2.2.1 (RX8, RX2) (List.mem_of_getElem? (i := 24) rfl)) (z_prec C0 hw hq (ci := 8) zz rfl) hdg kk
  · rw [show zis_X2 (zpk G) q = 1 by simp [zis_X2, zz]] at kk
    exact va_instY (z_fix C0).1 (z_fix C0).2.1 C0.2.2.2.2.1 hlink (C0.2.2.2.2.2.2.2.2.2.2.1 (RX10, RX2) (List.mem_of_getElem? (i := 2) rfl)) (z_prec C0 hw hq (ci := 10) zz rfl) hdg kk
def zis_X10 (pk : Nat → Nat) (q : Nat) : Int32 := if (pk q == 11) = true then 1 else 0
theorem z_inst_X10 (C0 : zCx p s m args meth c D Y F A own cc nL ret ws) (hw : zH D Y F A G S H) {q : Nat} (hq : zOKb (zpk G) q = true) {index : Nat} (hlink : (Cond.classLink own index RX10).before args s = true) (hdg : decode cc pc = .ok (.instanceof index, 3))
    (kk : W p l e R s m args below meth c H locs cells slots Q (F0 m (pc + 3) ls (.int (zis_X10 (zpk G) q) :: rest))) : W p l e R s m args below meth c H locs cells slots Q (F0 m pc ls (.ref (zad F G (100 + 4 * q)) :: rest)) := by
  rcases zOK_cases hq with zz | zz | zz | zz | zz | zz | zz
  · rw [show zis_X10 (zpk G) q = 0 by simp [zis_X10, zz]] at kk
    exact va_instNo (z_fix C0).1 (z_fix C0).2.1 C0.2.2.2.2.1 hlink (C0.2.2.2.2.2.2.2.2.2.2.2.1 (RX0, RX10) (List.mem_of_getElem? (i := 2) rfl)) (z_prec C0 hw hq (ci := 0) zz rfl) hdg kk
  · rw [show zis_X10 (zpk G) q = 0 by simp [zis_X10, zz]] at kk
    exact va_instNo (z_fix C0).1 (z_fix C0).2.1 C0.2.2.2.2.1 hlink (C0.2.2.2.2.2.2.2.2.2.2.2.1 (RX1, RX10) (List.mem_of_getElem? (i := 5) rfl)) (z_prec C0 hw hq (ci := 1) zz rfl) hdg kk
  · rw [show zis_X10 (zpk G) q = 0 by simp [zis_X10, zz]] at kk
    exact va_instNo (z_fix C0).1 (z_fix C0).2.1 C0.2.2.2.2.1 hlink (C0.2.2.2.2.2.2.2.2.2.2.2.1 (RX2, RX10) (List.mem_of_getElem? (i := 9) rfl)) (z_prec C0 hw hq (ci := 2) zz rfl) hdg kk
  · rw [show zis_X10 (zpk G) q = 0 by simp [zis_X10, zz]] at kk
    exact va_instNo (z_fix C0).1 (z_fix C0).2.1 C0.2.2.2.2.1 hlink (C0.2.2.2.2.2.2.2.2.2.2.2.1 (RX3, RX10) (List.mem_of_getElem? (i := 15) rfl)) (z_prec C0 hw hq (ci := 3) zz rfl) hdg kk
  · rw [show zis_X10 (zpk G) q = 0 by simp [zis_X10, zz]] at kk
    exact va_instNo (z_fix C0).1 (z_fix C0).2.1 C0.2.2.2.2.1 hlink (C0.2.2.2.2.2.2.2.2.2.2.2.1 (RX5, RX10) (List.mem_of_getElem? (i := 20) rfl)) (z_prec C0 hw hq (ci := 5) zz rfl) hdg kk
  · rw [show zis_X10 (zpk G) q = 0 by simp [zis_X10, zz]] at kk
    exact va_instNo (z_fix C0).1 (z_fix C0).2.1 C0.2.2.2.2.1 hlink (C0.2.2.2.2.2.2.2.2.2.2.2.1 (RX8, RX10) (List.mem_of_getElem? (i := 25) rfl)) (z_prec C0 hw hq (ci := 8) zz rfl) hdg kk
  · rw [show zis_X10 (zpk G) q = 1 by simp [zis_X10, zz]] at kk
    exact va_instS (z_fix C0).1 (z_fix C0).2.1 C0.2.2.2.2.1 hlink (z_pat C0 (ci := 10) rfl) (z_prec C0 hw hq (ci := 10) zz rfl) hdg kk
def zis_X3 (pk : Nat → Nat) (q : Nat) : Int32 := if (pk q == 1 || pk q == 4) = true then 1 else 0
theorem z_inst_X3 (C0 : zCx p s m args meth c D Y F A own cc nL ret ws) (hw : zH D Y F A G S H) {q : Nat} (hq : zOKb (zpk G) q = true) {index : Nat} (hlink : (Cond.classLink own index RX3).before args s = true) (hdg : decode cc pc = .ok (.instanceof index, 3))
    (kk : W p l e R s m args below meth c H locs cells slots Q (F0 m (pc + 3) ls (.int (zis_X3 (zpk G) q) :: rest))) : W p l e R s m args below meth c H locs cells slots Q (F0 m pc ls (.ref (zad F G (100 + 4 * q)) :: rest)) := by
  rcases zOK_cases hq with zz | zz | zz | zz | zz | zz | zz
  · rw [show zis_X3 (zpk G) q = 1 by simp [zis_X3, zz]] at kk
    exact va_instY (z_fix C0).1 (z_fix C0).2.1 C0.2.2.2.2.1 hlink (C0.2.2.2.2.2.2.2.2.2.2.1 (RX0, RX3) (List.mem_of_getElem? (i := 0) rfl)) (z_prec C0 hw hq (ci := 0) zz rfl) hdg kk
  · rw [show zis_X3 (zpk G) q = 0 by simp [zis_X3, zz]] at kk
    exact va_instNo (z_fix C0).1 (z_fix C0).2.1 C0.2.2.2.2.1 hlink (C0.2.2.2.2.2.2.2.2.2.2.2.1 (RX1, RX3) (List.mem_of_getElem? (i := 6) rfl)) (z_prec C0 hw hq (ci := 1) zz rfl) hdg kk
  · rw [show zis_X3 (zpk G) q = 0 by simp [zis_X3, zz]] at kk
    exact va_instNo (z_fix C0).1 (z_fix C0).2.1 C0.2.2.2.2.1 hlink (C0.2.2.2.2.2.2.2.2.2.2.2.1 (RX2, RX3) (List.mem_of_getElem? (i := 10) rfl)) (z_prec C0 hw hq (ci := 2) zz rfl) hdg kk
  · rw [show zis_X3 (zpk G) q = 1 by simp [zis_X3, zz]] at kk
    exact va_instS (z_fix C0).1 (z_fix C0).2.1 C0.2.2.2.2.1 hlink (z_pat C0 (ci := 3) rfl) (z_prec C0 hw hq (ci := 3) zz rfl) hdg kk
  · rw [show zis_X3 (zpk G) q = 0 by simp [zis_X3, zz]] at kk
    exact va_instNo (z_fix C0).1 (z_fix C0).2.1 C0.2.2.2.2.1 hlink (C0.2.2.2.2.2.2.2.2.2.2.2.1 (RX5, RX3) (List.mem_of_getElem? (i := 21) rfl)) (z_prec C0 hw hq (ci := 5) zz rfl) hdg kk
  · rw [show zis_X3 (zpk G) q = 0 by simp [zis_X3, zz]] at kk
    exact va_instNo (z_fix C0).1 (z_fix C0).2.1 C0.2.2.2.2.1 hlink (C0.2.2.2.2.2.2.2.2.2.2.2.1 (RX8, RX3) (List.mem_of_getElem? (i := 26) rfl)) (z_prec C0 hw hq (ci := 8) zz rfl) hdg kk
  · rw [show zis_X3 (zpk G) q = 0 by simp [zis_X3, zz]] at kk
    exact va_instNo (z_fix C0).1 (z_fix C0).2.1 C0.2.2.2.2.1 hlink (C0.2.2.2.2.2.2.2.2.2.2.2.1 (RX10, RX3) (List.mem_of_getElem? (i := 30) rfl)) (z_prec C0 hw hq (ci := 10) zz rfl) hdg kk
def zis_X0 (pk : Nat → Nat) (q : Nat) : Int32 := if (pk q == 1) = true then 1 else 0
theorem z_inst_X0 (C0 : zCx p s m args meth c D Y F A own cc nL ret ws) (hw : zH D Y F A G S H) {q : Nat} (hq : zOKb (zpk G) q = true) {index : Nat} (hlink : (Cond.classLink own index RX0).before args s = true) (hdg : decode cc pc = .ok (.instanceof index, 3))
    (kk : W p l e R s m args below meth c H locs cells slots Q (F0 m (pc + 3) ls (.int (zis_X0 (zpk G) q) :: rest))) : W p l e R s m args below meth c H locs cells slots Q (F0 m pc ls (.ref (zad F G (100 + 4 * q)) :: rest)) := by
  rcases zOK_cases hq with zz | zz | zz | zz | zz | zz | zz
  · rw [show zis_X0 (zpk G) q = 1 by simp [zis_X0, zz]] at kk
    exact va_instS (z_fix C0).1 (z_fix C0).2.1 C0.2.2.2.2.1 hlink (z_pat C0 (ci := 0) rfl) (z_prec C0 hw hq (ci := 0) zz rfl) hdg kk
  · rw [show zis_X0 (zpk G) q = 0 by simp [zis_X0, zz]] at kk
    exact va_instNo (z_fix C0).1 (z_fix C0).2.1 C0.2.2.2.2.1 hlink (C0.2.2.2.2.2.2.2.2.2.2.2.1 (RX1, RX0) (List.mem_of_getElem? (i := 7) rfl)) (z_prec C0 hw hq (ci := 1) zz rfl) hdg kk
  · rw [show zis_X0 (zpk G) q = 0 by simp [zis_X0, zz]] at kk
    exact va_instNo (z_fix C0).1 (z_fix C0).2.1 C0.2.2.2.2.1 hlink (C0.2.2.2.2.2.2.2.2.2.2.2.1 (RX2, RX0) (List.mem_of_getElem? (i := 11) rfl)) (z_prec C0 hw hq (ci := 2) zz rfl) hdg kk
  · rw [show zis_X0 (zpk G) q = 0 by simp [zis_X0, zz]] at kk
    exact va_instNo (z_fix C0).1 (z_fix C0).2.1 C0.2.2.2.2.1 hlink (C0.2.2.2.2.2.2.2.2.2.2.2.1 (RX3, RX0) (List.mem_of_getElem? (i := 16) rfl)) (z_prec C0 hw hq (ci := 3) zz rfl) hdg kk
  · rw [show zis_X0 (zpk G) q = 0 by simp [zis_X0, zz]] at kk
    exact va_instNo (z_fix C0).1 (z_fix C0).2.1 C0.2.2.2.2.1 hlink (C0.2.2.2.2.2.2.2.2.2.2.2.1 (RX5, RX0) (List.mem_of_getElem? (i := 22) rfl)) (z_prec C0 hw hq (ci := 5) zz rfl) hdg kk
  · rw [show zis_X0 (zpk G) q = 0 by simp [zis_X0, zz]] at kk
    exact va_instNo (z_fix C0).1 (z_fix C0).2.1 C0.2.2.2.2.1 hlink (C0.2.2.2.2.2.2.2.2.2.2.2.1 (RX8, RX0) (List.mem_of_getElem? (i := 27) rfl)) (z_prec C0 hw hq (ci := 8) zz rfl) hdg kk
  · rw [show zis_X0 (zpk G) q = 0 by simp [zis_X0, zz]] at kk
    exact va_instNo (z_fix C0).1 (z_fix C0).2.1 C0.2.2.2.2.1 hlink (C0.2.2.2.2.2.2.2.2.2.2.2.1 (RX10, RX0) (List.mem_of_getElem? (i := 31) rfl)) (z_prec C0 hw hq (ci := 10) zz rfl) hdg kk
def zis_X1 (pk : Nat → Nat) (q : Nat) : Int32 := if (pk q == 2) = true then 1 else 0
theorem z_inst_X1 (C0 : zCx p s m args meth c D Y F A own cc nL ret ws) (hw : zH D Y F A G S H) {q : Nat} (hq : zOKb (zpk G) q = true) {index : Nat} (hlink : (Cond.classLink own index RX1).before args s = true) (hdg : decode cc pc = .ok (.instanceof index, 3))
    (kk : W p l e R s m args below meth c H locs cells slots Q (F0 m (pc + 3) ls (.int (zis_X1 (zpk G) q) :: rest))) : W p l e R s m args below meth c H locs cells slots Q (F0 m pc ls (.ref (zad F G (100 + 4 * q)) :: rest)) := by
  rcases zOK_cases hq with zz | zz | zz | zz | zz | zz | zz
  · rw [show zis_X1 (zpk G) q = 0 by simp [zis_X1, zz]] at kk
    exact va_instNo (z_fix C0).1 (z_fix C0).2.1 C0.2.2.2.2.1 hlink (C0.2.2.2.2.2.2.2.2.2.2.2.1 (RX0, RX1) (List.mem_of_getElem? (i := 3) rfl)) (z_prec C0 hw hq (ci := 0) zz rfl) hdg kk
  · rw [show zis_X1 (zpk G) q = 1 by simp [zis_X1, zz]] at kk
    exact va_instS (z_fix C0).1 (z_fix C0).2.1 C0.2.2.2.2.1 hlink (z_pat C0 (ci := 1) rfl) (z_prec C0 hw hq (ci := 1) zz rfl) hdg kk
  · rw [show zis_X1 (zpk G) q = 0 by simp [zis_X1, zz]] at kk
    exact va_instNo (z_fix C0).1 (z_fix C0).2.1 C0.2.2.2.2.1 hlink (C0.2.2.2.2.2.2.2.2.2.2.2.1 (RX2, RX1) (List.mem_of_getElem? (i := 12) rfl)) (z_prec C0 hw hq (ci := 2) zz rfl) hdg kk
  · rw [show zis_X1 (zpk G) q = 0 by simp [zis_X1, zz]] at kk
    exact va_instNo (z_fix C0).1 (z_fix C0).2.1 C0.2.2.2.2.1 hlink (C0.2.2.2.2.2.2.2.2.2.2.2.1 (RX3, RX1) (List.mem_of_getElem? (i := 17) rfl)) (z_prec C0 hw hq (ci := 3) zz rfl) hdg kk
  · rw [show zis_X1 (zpk G) q = 0 by simp [zis_X1, zz]] at kk
    exact va_instNo (z_fix C0).1 (z_fix C0).2.1 C0.2.2.2.2.1 hlink (C0.2.2.2.2.2.2.2.2.2.2.2.1 (RX5, RX1) (List.mem_of_getElem? (i := 23) rfl)) (z_prec C0 hw hq (ci := 5) zz rfl) hdg kk
  · rw [show zis_X1 (zpk G) q = 0 by simp [zis_X1, zz]] at kk
    exact va_instNo (z_fix C0).1 (z_fix C0).2.1 C0.2.2.2.2.1 hlink (C0.2.2.2.2.2.2.2.2.2.2.2.1 (RX8, RX1) (List.mem_of_getElem? (i := 28) rfl)) (z_prec C0 hw hq (ci := 8) zz rfl) hdg kk
  · rw [show zis_X1 (zpk G) q = 0 by simp [zis_X1, zz]] at kk
    exact va_instNo (z_fix C0).1 (z_fix C0).2.1 C0.2.2.2.2.1 hlink (C0.2.2.2.2.2.2.2.2.2.2.2.1 (RX10, RX1) (List.mem_of_getElem? (i := 32) rfl)) (z_prec C0 hw hq (ci := 10) zz rfl) hdg kk
theorem z_alenl (C0 : zCx p s m args meth c D Y F A own cc nL ret ws) (hw : zH D Y F A G S H) (k : Nat) (hE : zE G k = true) {a : Nat} (ha : zad F G k = a) {n : Nat} (hR : zRl k n) {v : Int32} (hv : Int32.ofNat n = v) (hdg : decode cc pc = .ok (.arraylength, 1))
    (kk : W p l e R s m args below meth c H locs cells slots Q (F0 m (pc + 1) ls (.int v :: rest))) : W p l e R s m args below meth c H locs cells slots Q (F0 m pc ls (.ref a :: rest)) := by
  obtain ⟨hx, hb, hml, hr, hown, hts, hK, hA, hlk, hN⟩ := C0
  subst ha
  have hP := hw.one hE
  rw [show zB Y F G S k = .inl (Y 1, n, .inr (.inl (zlo S k))) from hR _ _ _ _ _ _] at hP
  exact va_alen hx hb hK hP 0 1 rfl rfl hv hdg kk
theorem z_gol (C0 : zCx p s m args meth c D Y F A own cc nL ret ws) (hw : zH D Y F A G S H) (hS : va_S A s.heap H locs) {res : Int64 × zSt} {st : List Value} {arr : Array Value} (hr : va_Run p l e R s m args below meth c H locs cells slots 0 0 (F0 m pc ls st) rest (zQl D Y F (zAo F G H.size) G res arr) (zAo F G H.size))
    (kk : ∀ (H1 : Heap) (locs1 : List Loc), zH D Y F A G res.2 H1 → va_S A s.heap H1 locs1 → W p l e R s m args below meth c H1 locs1 cells slots Q (F0 m (pc + 3) ls (.long res.1 :: rest))) : W p l e R s m args below meth c H locs cells slots Q (F0 m pc ls st) := by
  obtain ⟨hx, hb, hml, hrt, hown, hts, hK, hA, hlk, hN⟩ := C0
  have hsub := zAo_sub hw hS hA
  refine va_calll hr hS (fun q _ h => hsub q h) hsub (fun r u t H1 locs1 ht hvm hp hU _ _ hS1 => ?_)
  subst hp
  subst ht
  exact kk _ locs1 (hU.1.weaken hsub) hS1
/-- a row of the grid -/
theorem z_aaldI (C0 : zCx p s m args meth c D Y F A own cc nL ret ws) (hw : zH D Y F A G S H) {i : Int32} (hin : vp_in i 7) {a : Nat} (ha : zad F G 27 = a) (hdg : decode cc pc = .ok (.aaload, 1))
    (kk : W p l e R s m args below meth c H locs cells slots Q (F0 m (pc + 1) ls (va_rf (some (zad F G (28 + i.toNatClampNeg))) :: rest))) : W p l e R s m args below meth c H locs cells slots Q (F0 m pc ls (.int i :: .ref a :: rest)) := by
  obtain ⟨hx, hb, hml, hr, hown, hts, hK, hA, hlk, hN⟩ := C0
  subst ha
  have hP := hw.one (k := 27) rfl
  have hlt : i.toNatClampNeg < 7 := Nat.not_le.mp fun q => hin (Or.inr q)
  have f : Nat → Option Nat := fun j => some (zad F G (28 + j))
  exact W.aald (v := va_rf (some (zad F G (28 + i.toNatClampNeg)))) (ty := .array .int) hx hb (hP 0 _ rfl) ((hK.2 4 _ rfl).1 7 (fun j => va_rf (some (zad F G (28 + j))))) rfl (fun q => by cases q) (by show ¬ (i < 0 ∨ (arrV _ _ _).slots.size ≤ _); rw [arrV_size]; exact hin) (by show (arrV _ _ _).slots[_]? = _; rw [arrV_read _ _ hlt]) rfl rfl hdg kk
/-- super.goes(..) of CREASED: the body stands two classes above -/
theorem z_runSX {wsq : List Cond} (C0 : zCx p s m args meth c D Y F A RX1 cc nL ret wsq) {C : String} {cC : ClassId} (hat : ClassAt s C cC) {rm : Room} {Pc : Array Value → State → Prop} {Qc : Array Value → State → Outcome → State → Prop} {free : Addr → Prop} {b : Addr} {As : List Value} {g : JFrame} (hM : Met l yX5_goes wsX5_goes rm Pc Qc 0 0 free) (hR : rm.frames + 1 ≤ R.frames ∧ 8 + (2 + 11) + rm.locals ≤ R.locals) (hp : PreV s H C b Pc As) (hc0 : rm.cells = 0 := by rfl) (hs0 : rm.slots = 0 := by rfl)
    (hg : g.method = m) (hn : As.length = 1) (hsize : g.locals.size = nL) (hstack : g.stack = As.reverse ++ .ref b :: rest) (hW : 2 * g.monitorRoom + (rest.map fun v => v.category).sum ≤ 8) (hdg : decode cc g.pc = .ok (.invokespecial 30, 3)) (hf : cells + 0 ≤ R.cells ∧ slots + 0 ≤ R.slots) :
    va_Run p l e R s m args below meth c H locs cells slots 0 0 g rest (Qc (Value.ref b :: As).toArray) (free) := by
  obtain ⟨hx, hb, hml, hr, ho, hts, hK0, hA, hlk, hN⟩ := C0
  have hX := hN.2.2.2.2.2.1
  have wd : ∀ w ∈ zXtra, w.before args s = true := fun w hw => pay_in hX zXtra_good w hw args s (State.WarmedH.refl s)
  have hl1 := wd _ (List.mem_of_getElem? (i := 0) rfl)
  have hl2 := wd _ (List.mem_of_getElem? (i := 1) rfl)
  have hl3 := wd _ (List.mem_of_getElem? (i := 2) rfl)
  have hini := wd _ (List.mem_of_getElem? (i := 3) rfl)
  have hl4 := wd _ (List.mem_of_getElem? (i := 4) rfl)
  have hl5 := wd _ (List.mem_of_getElem? (i := 5) rfl)
  have hcode := wd _ (List.mem_of_getElem? (i := 6) rfl)
  have hK : Back l R p e below s args yX5_goes 3 8 (PreOf R 0 0 Pc) (PostOf Qc 0 0 free) := back_of (bytes := cX5_goes) (maxL := 2) (ret := some .int) hM hp.1 hc0 hs0 hR.1 hR.2 (fun w hw a' U hW => pay_in hX zXtra_good w (List.mem_append_right _ hw) a' U hW) (List.mem_of_getElem? (i := 0) rfl) (fun a' U hW => word_at hW (Or.inl (by first | rfl | simp [Cond.onTables, Cond.keeps, Cond.steady])) hini)
  obtain ⟨-, ⟨cellB, hcB, hoB, hclB⟩, hPc⟩ := hp
  obtain ⟨hfc, kB, hkB, -⟩ := hat
  cases hfc.symm.trans hclB
  intro T hT X
  obtain ⟨mk, methM, hnamed, hmethM, hstM, habM⟩ := Cond.instanceMethod_spec hl4
  obtain ⟨methM', cM, hmethM', -, -, -, -, -, -, hsigM⟩ := Cond.code_spec hnamed hcode
  cases hmethM.symm.trans hmethM'
  obtain ⟨ps, dk, kp, hps, hdk, hkp, hsuper, -, -, hnid⟩ := Cond.superclass_spec ho hl3
  obtain ⟨ps2, dk2, kp2, hps2, hdk2, hkp2, hsuper2, -, -, -⟩ := Cond.superclass_spec hps hl5
  have hpm : ps2 = mk.cls := Option.some.inj (hps2.symm.trans (findClass_of_methodNamed hnamed))
  have hsub : s.vm.isSubclass ps mk.cls = true := by
    rw [← hpm]
    obtain ⟨n1, hn1⟩ : ∃ n1, s.vm.classes.size = n1 + 1 := by
      have := (Array.getElem?_eq_some_iff.mp hkp2).1
      exact ⟨s.vm.classes.size - 1, by omega⟩
    have h9 : s.vm.isSubclassAux s.vm.classes.size ps2 ps2 = true := by rw [hn1]; simp [Vm.isSubclassAux]
    simp [Vm.isSubclass, Vm.isSubclassAux, hdk2, hsuper2, h9]
  have hlen : ∀ sig, parseMethodDescriptor yX5_goes.desc = some sig → As.length = sig.parameters.length := fun sig h => by
    have h2 : (parseMethodDescriptor yX5_goes.desc).map (fun d => d.parameters.length) = some 1 := by decide +kernel
    rw [h] at h2
    exact hn.trans (Option.some.inj h2).symm
  obtain ⟨vm₁, X₁, hstep₁⟩ := X.invokespecialUp hx ho hl1 hl2 (owner := "CarbonCopies$Person") hnamed hmethM hstM habM (by decide) hdk hnid hps hsuper hsub (a := b) (cell := cellB) (by rw [hT]; exact hcB)
    (fun z h => by rw [h] at hoB; cases hoB) hkB (g := g) hg (argsL := As) (rest := rest) (hlen _ hsigM) hstack (by rw [hb]; exact hdg)
  obtain ⟨v, ⟨U', l2, c2, s2⟩, X', ⟨g', mk', t, L, e1, e2, hq, h1, hL, h2, h3⟩, hsteps⟩ := hK m meth c ⟨T.setVm vm₁, locs, cells, slots⟩ { g with stack := rest } (.invokespecial 30) mk (Value.ref b :: As).toArray X₁ hg (hsize.trans hml.symm) (by rw [hb]; exact hdg) hW (X₁.named hnamed) ⟨hf.1, hf.2, hPc (T.setVm vm₁) hT X₁.warmed⟩
  dsimp only [Pt.U, Pt.locs, Pt.cells, Pt.slots] at X' e1 e2 h1 h2 h3 hsteps
  subst h1; subst h2; subst h3
  exact ⟨v, (T.setVm vm₁).calling g' mk' (Value.ref b :: As).toArray, t, U', L, hT, X', hL, e1, e2, hq, fun target h => hstep₁ _ (by rw [doInvoke_state]; exact hsteps.trans h)⟩
theorem z_copyl (C0 : zCx p s m args meth c D Y F A own cc nL ret ws) (hw : zH D Y F A G S H) (hS : va_S A s.heap H locs) (hsz : ls.size = nL) (i1 i2 i3 i4 : Nat) {index : Nat} (hl1 : ws[i1]? = some (Cond.methodLink own index arraycopyName)) (hl2 : ws[i2]? = some (Cond.native arraycopyName)) (hl3 : ws[i3]? = some (Cond.static arraycopyName)) (hl4 : ws[i4]? = some (Cond.initialized "java/lang/System")) (k0 k1 : Nat) {n0 n1 : Nat} (hE0 : zE G k0 = true) (hR0 : zRl k0 n0) (hE1 : zE G k1 = true) (hR1 : zRl k1 n1) {a0 a1 : Nat} (ha0 : zad F G k0 = a0) (ha1 : zad F G k1 = a1) {sp dp n : Int32} (hc : zcp sp dp n n0 n1 = true) (hframes : 1 ≤ R.frames) (hlocals : (rest.map fun v => v.category).sum + (nativeFrameWords "java/lang/System" "arraycopy" 5 + 11) ≤ R.locals) (hdg : decode cc pc = .ok (.invokestatic index, 3))
    (kk : ∀ (H1 : Heap) (locs1 : List Loc), zH D Y F A G (zL S k1 (va_cpy (zlo S k0) (zlo S k1) sp.toNatClampNeg dp.toNatClampNeg n.toNatClampNeg)) H1 → va_S A s.heap H1 locs1 → W p l e R s m args below meth c H1 locs1 cells slots Q (F0 m (pc + 3) ls rest)) : W p l e R s m args below meth c H locs cells slots Q (F0 m pc ls (.int n :: .int dp :: .ref a1 :: .int sp :: .ref a0 :: rest)) := by
  obtain ⟨hx, hb, hml, hr, hown, hts, hK, hA, hlk, hN⟩ := C0
  subst ha0
  subst ha1
  obtain ⟨q0, hq0, -⟩ := zAt (Y := Y) (F := F) (S := S) hE0
  obtain ⟨q1, hq1, hi⟩ := zAt (Y := Y) (F := F) (S := S) hE1
  rw [show zB Y F G S k0 = .inl (Y 1, n0, .inr (.inl (zlo S k0))) from hR0 _ _ _ _ _ _] at hq0
  rw [show zB Y F G S k1 = .inl (Y 1, n1, .inr (.inl (zlo S k1))) from hR1 _ _ _ _ _ _] at hq1
  obtain ⟨c1, c2, c3, c4, c5⟩ := zcp_of hc
  refine va_copyl hx hb (hml.trans hsz.symm) hown (hts _ (List.mem_of_getElem? hl1)) (hts _ (List.mem_of_getElem? hl2)) (hts _ (List.mem_of_getElem? hl3)) (hts _ (List.mem_of_getElem? hl4)) hK hw.1 hw.2 hS q0 q1 1 1 hq0 hq1 rfl rfl rfl c1 c2 c3 c4 c5 (fun _ _ => rfl) hframes hlocals hdg (fun H1 locs1 h1 h2 h3 => kk H1 locs1 ?_ h3)
  rw [zW_set (S' := zL S k1 (va_cpy (zlo S k0) (zlo S k1) sp.toNatClampNeg dp.toNatClampNeg n.toNatClampNeg)) hi zB_L ((hR1 _ _ _ _ _ _).trans (by rw [zL_lo']))] at h1 h2
  exact ⟨h1, h2⟩
theorem z_copyi (C0 : zCx p s m args meth c D Y F A own cc nL ret ws) (hw : zH D Y F A G S H) (hS : va_S A s.heap H locs) (hsz : ls.size = nL) (i1 i2 i3 i4 : Nat) {index : Nat} (hl1 : ws[i1]? = some (Cond.methodLink own index arraycopyName)) (hl2 : ws[i2]? = some (Cond.native arraycopyName)) (hl3 : ws[i3]? = some (Cond.static arraycopyName)) (hl4 : ws[i4]? = some (Cond.initialized "java/lang/System")) (k0 k1 : Nat) {n0 n1 : Nat} (hE0 : zE G k0 = true) (hR0 : zRi k0 n0) (hE1 : zE G k1 = true) (hR1 : zRi k1 n1) {a0 a1 : Nat} (ha0 : zad F G k0 = a0) (ha1 : zad F G k1 = a1) {sp dp n : Int32} (hc : zcp sp dp n n0 n1 = true) (hframes : 1 ≤ R.frames) (hlocals : (rest.map fun v => v.category).sum + (nativeFrameWords "java/lang/System" "arraycopy" 5 + 11) ≤ R.locals) (hdg : decode cc pc = .ok (.invokestatic index, 3))
    (kk : ∀ (H1 : Heap) (locs1 : List Loc), zH D Y F A G (zA S k1 (va_cpy (zar S k0) (zar S k1) sp.toNatClampNeg dp.toNatClampNeg n.toNatClampNeg)) H1 → va_S A s.heap H1 locs1 → W p l e R s m args below meth c H1 locs1 cells slots Q (F0 m (pc + 3) ls rest)) : W p l e R s m args below meth c H locs cells slots Q (F0 m pc ls (.int n :: .int dp :: .ref a1 :: .int sp :: .ref a0 :: rest)) := by
  obtain ⟨hx, hb, hml, hr, hown, hts, hK, hA, hlk, hN⟩ := C0
  subst ha0
  subst ha1
  obtain ⟨q0, hq0, -⟩ := zAt (Y := Y) (F := F) (S := S) hE0
  obtain ⟨q1, hq1, hi⟩ := zAt (Y := Y) (F := F) (S := S) hE1
  rw [show zB Y F G S k0 = .inl (Y 0, n0, .inl (zar S k0)) from hR0 _ _ _ _ _ _] at hq0
  rw [show zB Y F G S k1 = .inl (Y 0, n1, .inl (zar S k1)) from hR1 _ _ _ _ _ _] at hq1
  obtain ⟨c1, c2, c3, c4, c5⟩ := zcp_of hc
  refine va_copyi hx hb (hml.trans hsz.symm) hown (hts _ (List.mem_of_getElem? hl1)) (hts _ (List.mem_of_getElem? hl2)) (hts _ (List.mem_of_getElem? hl3)) (hts _ (List.mem_of_getElem? hl4)) hK hw.1 hw.2 hS q0 q1 0 0 hq0 hq1 rfl rfl rfl c1 c2 c3 c4 c5 (fun _ _ => rfl) hframes hlocals hdg (fun H1 locs1 h1 h2 h3 => kk H1 locs1 ?_ h3)
  rw [zW_set (S' := zA S k1 (va_cpy (zar S k0) (zar S k1) sp.toNatClampNeg dp.toNatClampNeg n.toNatClampNeg)) hi zB_A ((hR1 _ _ _ _ _ _).trans (by rw [zA_ar']))] at h1 h2
  exact ⟨h1, h2⟩
end ZR4
