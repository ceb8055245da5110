def FU : Nat := 100000
theorem ite_t {β : Sort _} {cd : Prop} {dc : Decidable cd} {a b z : β} (h : @ite β cd dc a b = z) (q : cd) : a = z := by rw [if_pos q] at h; exact h
theorem ite_f {β : Sort _} {cd : Prop} {dc : Decidable cd} {a b z : β} (h : @ite β cd dc a b = z) (q : ¬ cd) : b = z := by rw [if_neg q] at h; exact h
theorem ite_n {β : Type _} {cd : Prop} {dc : Decidable cd} {b : Option β} {z : β} (h : @ite (Option β) cd dc none b = some z) : ¬ cd ∧ b = some z := by
  by_cases q : cd
  · rw [if_pos q] at h; cases h
  · rw [if_neg q] at h; exact ⟨q, h⟩
theorem ite_y {β : Type _} {cd : Prop} {dc : Decidable cd} {b : Option β} {z : β} (h : @ite (Option β) cd dc b none = some z) : cd ∧ b = some z := by
  by_cases q : cd
  · rw [if_pos q] at h; exact ⟨q, h⟩
  · rw [if_neg q] at h; cases h
theorem nam_s {α β : Type} {e : α} {k : α → β} {z : β} (h : nam e k = z) : ∃ x, x = e ∧ k x = z := ⟨e, rfl, h⟩
theorem nar_z {x : Int32} (h : x = 0 ∨ x = 1) : narrow .boolean (.int x) = .int x := by rcases h with rfl | rfl <;> rfl
theorem fit_z {x : Int32} (h : x = 0 ∨ x = 1) : fits .boolean (.int x) = true := by rcases h with rfl | rfl <;> rfl
