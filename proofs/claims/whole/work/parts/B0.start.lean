/-! THE START: the state behind the two constructors, and the relation there -/
section Start
def zb (X : Nat × (Nat → Int32)) : Sg := (fun _ _ => 0, fun _ _ => 0, fun _ _ => 0, (19, none), fun _ _ => none, X, [])
def z0 (X : Nat × (Nat → Int32)) : Sg := zlk 1 (zM0 (zD9 (zb X)))
variable (X : Nat × (Nat → Int32))
theorem TB_0 : TB (zT1 (zD1 (zb X))) (zM0 (zD9 (zb X))) 1 := by
  refine ⟨rfl, rfl, by decide, by decide, fun x hx => ?_, ⟨rfl, rfl, rfl⟩, fun x h0 h1 => by omega, fun x hx => ?_⟩
  · have : x = 0 := by omega
    subst this
    exact ⟨rfl, rfl, rfl⟩
  · have : x = 0 := by omega
    subst this
    have e0 : (zM0 (zD9 (zb X))).A 40 0 = 0 := rfl
    have e1 : (zM0 (zD9 (zb X))).A 41 0 = -1 := rfl
    rw [e0, e1]
    unfold kOK
    decide
theorem TR_0 : ∃ row, TR (z0 X) (z0 X) 1 row := by
  obtain ⟨row, h⟩ := TR_new (TB_0 X) (fun g _ => ⟨0, by decide, rfl⟩)
  refine ⟨row, h.c rfl rfl (fun a h1 h2 h3 => ?_) (fun a _ _ => rfl)⟩
  have : a = 7 ∨ a = 8 ∨ a = 9 ∨ a = 10 ∨ a = 11 ∨ a = 12 ∨ a = 13 ∨ a = 14 ∨ a = 16 := by omega
  rcases this with rfl | rfl | rfl | rfl | rfl | rfl | rfl | rfl | rfl <;> rfl
theorem RR_0 : RR 0 (z0 X) (z0 X) := by
  obtain ⟨row, h⟩ := TR_0 X
  have hr : row 0 = [] := List.length_eq_zero_iff.mp (by have := (h.2.2.1 0 (by decide)).1; omega)
  refine ⟨⟨1, row, h, 0, 0, 0, 0, 0, by decide, by decide, Or.inr ⟨rfl, hr⟩, Nat.le_refl 0, Nat.le_refl 0, rfl, rfl, ?_, rfl, rfl, rfl, rfl, rfl, rfl, rfl, rfl, rfl, Or.inl rfl, fun _ => rfl, fun h => absurd h (by decide)⟩, ⟨[], none, 0, 0, ?_⟩, ?_, ⟨0, ?_⟩, ⟨0, ?_⟩, ?_, ?_⟩
  · rw [hr]
    rfl
  · exact ⟨⟨rfl, by decide, fun x hx => by simp at hx, rfl, fun j hj => by simp at hj⟩, ⟨rfl, rfl⟩, rfl, rfl, rfl, ⟨by decide, by decide, fun i hi => by omega⟩⟩
  · exact ⟨fun j _ => rfl, ⟨4, by decide, by decide, rfl⟩, ⟨2, by decide, rfl⟩, ⟨0, by decide, rfl⟩, ⟨0, by decide, rfl⟩, ⟨2, by decide, rfl⟩⟩
  · exact ⟨rfl, rfl, by decide, fun W hW => by omega⟩
  · exact ⟨rfl, rfl, by decide, fun j hj => by omega⟩
  · exact fun j _ => ⟨rfl, 0, by decide, rfl⟩
  · exact ⟨rfl, fun x _ => ⟨0, by decide, rfl⟩⟩
end Start
