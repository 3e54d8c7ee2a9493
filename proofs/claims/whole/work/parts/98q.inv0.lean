/-! AT THE START -/
def dZ : zD := (0, fun _ => 0, fun _ => 0, nI 10, nI 1, fun _ _ => nI 0)
theorem zh0 : ∀ s, s < 8 → zH0 s = -nI 1 := by decide
theorem inv_0 : Inv (zpk zG0) zS0 dZ := by
  refine ⟨⟨by decide, ⟨10, by decide, by decide, rfl⟩, fun p hp => absurd hp (Nat.not_lt_zero _)⟩, ⟨rfl, rfl, rfl, fun p hp => absurd hp (Nat.not_lt_zero _)⟩, ⟨rfl, rfl, rfl, fun p hp => absurd hp (Nat.not_lt_zero _)⟩, fun q _ => Or.inl rfl, fun s hs => ?_, ⟨0, by decide, rfl, rfl, fun _ _ => rfl⟩, fun _ _ => rfl, rfl, Or.inl ⟨rfl, rfl⟩⟩
  have z := zh0 s hs
  have e1 : zar zS0 1 = zH0 := rfl
  have e2 : zar zS0 2 = fun _ => 0 := rfl
  have e3 : zsc zS0 (40 + 2 * s) = fun f => if f = 1 then -1 else 0 := by
    show (if 40 + 2 * s = 0 then _ else if 40 + 2 * s = 20 then _ else if 40 ≤ 40 + 2 * s ∧ 40 + 2 * s < 56 then _ else _) = _
    rw [if_neg (by omega), if_neg (by omega), if_pos (by omega)]
  refine ⟨0, by decide, ?_, ?_, ?_, fun j _ => rfl, Or.inl ?_⟩
  · rw [e3, e1, z]; rfl
  · rw [e3]; rfl
  · rw [e2]; rfl
  · rw [e1, z]
