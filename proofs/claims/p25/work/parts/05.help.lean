def FU : Nat := 100000
theorem ite_t {β : Sort _} {cd : Prop} {dc : Decidable cd} {a b z : β} (h : @ite β cd dc a b = z) (q : cd) : a = z := by rw [if_pos q] at h; exact h
theorem ite_f {β : Sort _} {cd : Prop} {dc : Decidable cd} {a b z : β} (h : @ite β cd dc a b = z) (q : ¬ cd) : b = z := by rw [if_neg q] at h; exact h
theorem ite_n {β : Type _} {cd : Prop} {dc : Decidable cd} {b : Option β} {z : β} (h : @ite (Option β) cd dc none b = some z) : ¬ cd ∧ b = some z := by
  by_cases q : cd
  · rw [if_pos q] at h; cases h
  · rw [if_neg q] at h; exact ⟨q, h⟩
theorem ite_y {β : Type _} {cd : Prop} {dc : Decidable cd} {b : Option β} {z : β} (h : @ite (Option β) cd dc b none = some z) : cd ∧ b = some z := by
  by_cases q : cd
  · rw [if_pos q] at h; exact ⟨q, h⟩
  · rw [if_neg q] at h; cases h
theorem nam_s {α β : Type} {e : α} {k : α → β} {z : β} (h : nam e k = z) : ∃ x, x = e ∧ k x = z := ⟨e, rfl, h⟩
theorem nar_z {x : Int32} (h : x = 0 ∨ x = 1) : narrow .boolean (.int x) = .int x := by rcases h with rfl | rfl <;> rfl
theorem fit_z {x : Int32} (h : x = 0 ∨ x = 1) : fits .boolean (.int x) = true := by rcases h with rfl | rfl <;> rfl
theorem vc_X0 : vwCl[0]? = some (RX0, TX0, 4) := rfl
theorem pd_X0_2 : parseFieldDescriptor (TX0 2).2.2.1 = some .int := by decide +kernel
theorem vc_X1 : vwCl[1]? = some (RX1, TX1, 2) := rfl
theorem pd_X1_1 : parseFieldDescriptor (TX1 1).2.2.1 = some .int := by decide +kernel
theorem vc_X2 : vwCl[2]? = some (RX2, TX2, 1) := rfl
theorem pd_X2_0 : parseFieldDescriptor (TX2 0).2.2.1 = some .int := by decide +kernel
theorem vc_X3 : vwCl[3]? = some (RX3, TX3, 6) := rfl
theorem pd_X3_0 : parseFieldDescriptor (TX3 0).2.2.1 = some .int := by decide +kernel
theorem pd_X3_1 : parseFieldDescriptor (TX3 1).2.2.1 = some .boolean := by decide +kernel
theorem pd_X3_4 : parseFieldDescriptor (TX3 4).2.2.1 = some .int := by decide +kernel
theorem pd_X3_5 : parseFieldDescriptor (TX3 5).2.2.1 = some .int := by decide +kernel
theorem vc_X4 : vwCl[4]? = some (RX4, TX4, 3) := rfl
theorem pd_X4_1 : parseFieldDescriptor (TX4 1).2.2.1 = some .int := by decide +kernel
theorem vc_X5 : vwCl[5]? = some (RX5, TX5, 7) := rfl
theorem pd_X5_0 : parseFieldDescriptor (TX5 0).2.2.1 = some .int := by decide +kernel
theorem pd_X5_4 : parseFieldDescriptor (TX5 4).2.2.1 = some .int := by decide +kernel
theorem pd_X5_6 : parseFieldDescriptor (TX5 6).2.2.1 = some .int := by decide +kernel
theorem vc_X6 : vwCl[6]? = some (RX6, TX6, 4) := rfl
theorem pd_X6_0 : parseFieldDescriptor (TX6 0).2.2.1 = some .int := by decide +kernel
theorem pd_X6_1 : parseFieldDescriptor (TX6 1).2.2.1 = some .int := by decide +kernel
theorem pd_X6_2 : parseFieldDescriptor (TX6 2).2.2.1 = some .int := by decide +kernel
theorem pd_X6_3 : parseFieldDescriptor (TX6 3).2.2.1 = some .int := by decide +kernel
theorem vc_X7 : vwCl[7]? = some (RX7, TX7, 5) := rfl
theorem pd_X7_1 : parseFieldDescriptor (TX7 1).2.2.1 = some .int := by decide +kernel
theorem pd_X7_3 : parseFieldDescriptor (TX7 3).2.2.1 = some .int := by decide +kernel
theorem vc_X8 : vwCl[8]? = some (RX8, TX8, 1) := rfl
theorem vc_X9 : vwCl[9]? = some (RX9, TX9, 1) := rfl
theorem vc_X10 : vwCl[10]? = some (RX10, TX10, 15) := rfl
theorem pd_X10_11 : parseFieldDescriptor (TX10 11).2.2.1 = some .int := by decide +kernel
theorem pd_X10_12 : parseFieldDescriptor (TX10 12).2.2.1 = some .int := by decide +kernel
theorem pd_X10_13 : parseFieldDescriptor (TX10 13).2.2.1 = some .int := by decide +kernel
theorem pd_X10_14 : parseFieldDescriptor (TX10 14).2.2.1 = some .int := by decide +kernel
theorem vc_X11 : vwCl[11]? = some (RX11, TX11, 36) := rfl
theorem pd_X11_1 : parseFieldDescriptor (TX11 1).2.2.1 = some .int := by decide +kernel
theorem pd_X11_4 : parseFieldDescriptor (TX11 4).2.2.1 = some .int := by decide +kernel
theorem pd_X11_5 : parseFieldDescriptor (TX11 5).2.2.1 = some .int := by decide +kernel
theorem pd_X11_6 : parseFieldDescriptor (TX11 6).2.2.1 = some .int := by decide +kernel
theorem pd_X11_7 : parseFieldDescriptor (TX11 7).2.2.1 = some .int := by decide +kernel
theorem pd_X11_8 : parseFieldDescriptor (TX11 8).2.2.1 = some .int := by decide +kernel
theorem pd_X11_9 : parseFieldDescriptor (TX11 9).2.2.1 = some .int := by decide +kernel
theorem pd_X11_10 : parseFieldDescriptor (TX11 10).2.2.1 = some .int := by decide +kernel
theorem pd_X11_11 : parseFieldDescriptor (TX11 11).2.2.1 = some .int := by decide +kernel
theorem pd_X11_14 : parseFieldDescriptor (TX11 14).2.2.1 = some .int := by decide +kernel
theorem pd_X11_18 : parseFieldDescriptor (TX11 18).2.2.1 = some .int := by decide +kernel
theorem pd_X11_21 : parseFieldDescriptor (TX11 21).2.2.1 = some .int := by decide +kernel
theorem pd_X11_25 : parseFieldDescriptor (TX11 25).2.2.1 = some .int := by decide +kernel
theorem pd_X11_28 : parseFieldDescriptor (TX11 28).2.2.1 = some .int := by decide +kernel
theorem pd_X11_29 : parseFieldDescriptor (TX11 29).2.2.1 = some .int := by decide +kernel
theorem pd_X11_30 : parseFieldDescriptor (TX11 30).2.2.1 = some .int := by decide +kernel
theorem pd_X11_31 : parseFieldDescriptor (TX11 31).2.2.1 = some .int := by decide +kernel
theorem pd_X11_32 : parseFieldDescriptor (TX11 32).2.2.1 = some .int := by decide +kernel
theorem pd_X11_35 : parseFieldDescriptor (TX11 35).2.2.1 = some .long := by decide +kernel
