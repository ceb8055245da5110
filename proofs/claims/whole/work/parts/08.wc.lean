abbrev rm_X7_findWays : Room := { frames := 4, cells := 0, slots := 0, locals := 92 }
abbrev w_X7_findWays (cA : ClassId) (a_me a_q1 a_best a_order a_ways a_ways_lengths a_ways_lengths_cells a_q1_one a_q1_two a_q1_length a_q1_draught a_q1_one_cells a_q1_two_cells a_q1_length_cells : Nat) (u_leastRisk : Int32) (u_size : Int32) (u_q1_doors : Int32) (u_q1_shafts : Int32) (c_ways_lengths : A32) (c_q1_galleries : Int32) (c_q1_one : A32) (c_q1_two : A32) (c_q1_length : A32) : va_W := [(a_me, .inr (7, [.ref a_best, .int u_leastRisk, .ref a_order, .int u_size, .ref a_ways])), (a_ways, .inr (9, [.ref a_ways_lengths])), (a_ways_lengths, .inr (8, [.ref a_ways_lengths_cells])), (a_ways_lengths_cells, .inl (cA, 49, .inl c_ways_lengths)), (a_q1, .inr (5, [.int c_q1_galleries, .ref a_q1_one, .ref a_q1_two, .ref a_q1_length, .int u_q1_doors, .ref a_q1_draught, .int u_q1_shafts])), (a_q1_one, .inr (8, [.ref a_q1_one_cells])), (a_q1_one_cells, .inl (cA, 10, .inl c_q1_one)), (a_q1_two, .inr (8, [.ref a_q1_two_cells])), (a_q1_two_cells, .inl (cA, 10, .inl c_q1_two)), (a_q1_length, .inr (8, [.ref a_q1_length_cells])), (a_q1_length_cells, .inl (cA, 10, .inl c_q1_length))]
theorem hd_X7_findWays : yX7_findWays.cls ≠ "java/lang/invoke/MethodHandle" ∧ yX7_findWays.cls ≠ "java/lang/invoke/VarHandle" ∧ (parseMethodDescriptor yX7_findWays.desc).map (fun d => d.parameters.length) = some 2 := by decide +kernel
theorem iw_X7_findWays_X5 : ∀ w ∈ wsX50, w ∈ wsX7_findWays := fun w h => List.mem_cons_of_mem _ (List.mem_append_left _ (List.mem_append_left _ (List.mem_append_right _ h)))
theorem iw_X7_findWays_X7 : ∀ w ∈ wsX70, w ∈ wsX7_findWays := fun w h => List.mem_cons_of_mem _ (List.mem_append_left _ (List.mem_append_left _ (List.mem_append_left _ (List.mem_append_right _ h))))
theorem fl_X7_findWays_X7_4 : Cond.fieldLink RX7 26 RX7 (TX7 4).2.1 (TX7 4).2.2.1 ∈ wsX7_findWays := List.mem_of_getElem? (i := 1) rfl
theorem fl_X7_findWays_X5_0 : Cond.fieldLink RX7 65 RX5 (TX5 0).2.1 (TX5 0).2.2.1 ∈ wsX7_findWays := List.mem_of_getElem? (i := 2) rfl
theorem fl_X7_findWays_X5_1 : Cond.fieldLink RX7 74 RX5 (TX5 1).2.1 (TX5 1).2.2.1 ∈ wsX7_findWays := List.mem_of_getElem? (i := 3) rfl
theorem fl_X7_findWays_X5_2 : Cond.fieldLink RX7 81 RX5 (TX5 2).2.1 (TX5 2).2.2.1 ∈ wsX7_findWays := List.mem_of_getElem? (i := 4) rfl
theorem fl_X7_findWays_X5_3 : Cond.fieldLink RX7 84 RX5 (TX5 3).2.1 (TX5 3).2.2.1 ∈ wsX7_findWays := List.mem_of_getElem? (i := 5) rfl
set_option maxHeartbeats 4000000 in
set_option maxRecDepth 100000 in
theorem t_X7_findWays_b88 {l : Launch} {D : va_G} {cA : ClassId} {p : Program} {e : Env} {s : State} {m : MethodId} {args : Array Value} {below : List Frame} {meth : Method} {c : Code} {A : Nat → Prop} {Q : State → Prop} {z : A32} {a_me a_q1 a_best a_order a_ways a_ways_lengths a_ways_lengths_cells a_q1_one a_q1_two a_q1_length a_q1_draught a_q1_one_cells a_q1_two_cells a_q1_length_cells : Nat} {u_leastRisk : Int32} {u_size : Int32} {u_q1_doors : Int32} {u_q1_shafts : Int32}  {c_ways_lengths : A32} {c_q1_galleries : Int32} {c_q1_one : A32} {c_q1_two : A32} {c_q1_length : A32} {v2 : Int32} {v3 : Int32} {k9 : A32 → Int32 → Option (A32)} (X : GX p s m args c cX7_findWays RX7 wsX7_findWays D cA A 4) (hret : RtV p l e rm_X7_findWays s m args below meth c cX7_findWays D A 4 0 0 Q (w_X7_findWays cA a_me a_q1 a_best a_order a_ways a_ways_lengths a_ways_lengths_cells a_q1_one a_q1_two a_q1_length a_q1_draught a_q1_one_cells a_q1_two_cells a_q1_length_cells u_leastRisk u_size u_q1_doors u_q1_shafts z c_q1_galleries c_q1_one c_q1_two c_q1_length)) (hk9 : ∀ (c_ways_lengths : A32) (v3 : Int32), k9 c_ways_lengths v3 = some z → G p l e rm_X7_findWays s m args below meth c D A 4 0 0 Q 9 [(0, .ref a_me), (1, .ref a_q1), (2, .int v2), (3, .int v3)] [] (w_X7_findWays cA a_me a_q1 a_best a_order a_ways a_ways_lengths a_ways_lengths_cells a_q1_one a_q1_two a_q1_length a_q1_draught a_q1_one_cells a_q1_two_cells a_q1_length_cells u_leastRisk u_size u_q1_doors u_q1_shafts c_ways_lengths c_q1_galleries c_q1_one c_q1_two c_q1_length)) (h : f_X7_findWays_b88 k9 c_ways_lengths c_q1_galleries c_q1_one c_q1_two c_q1_length v2 v3 = some z) : G p l e rm_X7_findWays s m args below meth c D A 4 0 0 Q 88 [(0, .ref a_me), (1, .ref a_q1), (2, .int v2), (3, .int v3)] [] (w_X7_findWays cA a_me a_q1 a_best a_order a_ways a_ways_lengths a_ways_lengths_cells a_q1_one a_q1_two a_q1_length a_q1_draught a_q1_one_cells a_q1_two_cells a_q1_length_cells u_leastRisk u_size u_q1_doors u_q1_shafts c_ways_lengths c_q1_galleries c_q1_one c_q1_two c_q1_length) := by
  have h : (nam (v3 + 1) fun v3_1 => k9 c_ways_lengths v3_1 : Option (A32)) = some z := h
  obtain ⟨v3_1, ev3_1, h⟩ := nam_s h
  refine g_iinc (v := v3_1) (lv' := [(3, .int v3_1), (0, .ref a_me), (1, .ref a_q1), (2, .int v2)]) X 3 rfl (by rw [ev3_1]; rfl) (by decide) rfl dX7_findWays_88 rfl ?_
  refine g_goto (tgt := 9) X dX7_findWays_91 (by decide) ?_
  refine g_lvs [1, 2, 3, 0] rfl ?_
  exact hk9 _ _ h
set_option maxHeartbeats 4000000 in
set_option maxRecDepth 100000 in
theorem t_X7_findWays_b9 {l : Launch} {D : va_G} {cA : ClassId} {p : Program} {e : Env} {s : State} {m : MethodId} {args : Array Value} {below : List Frame} {meth : Method} {c : Code} {A : Nat → Prop} {Q : State → Prop} {z : A32} {a_me a_q1 a_best a_order a_ways a_ways_lengths a_ways_lengths_cells a_q1_one a_q1_two a_q1_length a_q1_draught a_q1_one_cells a_q1_two_cells a_q1_length_cells : Nat} {u_leastRisk : Int32} {u_size : Int32} {u_q1_doors : Int32} {u_q1_shafts : Int32}  {c_q1_galleries : Int32} {c_q1_one : A32} {c_q1_two : A32} {c_q1_length : A32} {v2 : Int32}  (X : GX p s m args c cX7_findWays RX7 wsX7_findWays D cA A 4) (hret : RtV p l e rm_X7_findWays s m args below meth c cX7_findWays D A 4 0 0 Q (w_X7_findWays cA a_me a_q1 a_best a_order a_ways a_ways_lengths a_ways_lengths_cells a_q1_one a_q1_two a_q1_length a_q1_draught a_q1_one_cells a_q1_two_cells a_q1_length_cells u_leastRisk u_size u_q1_doors u_q1_shafts z c_q1_galleries c_q1_one c_q1_two c_q1_length))  : ∀ (fu : Nat) (c_ways_lengths : A32) (v3 : Int32), f_X7_findWays_b9 c_q1_galleries c_q1_one c_q1_two c_q1_length v2 fu c_ways_lengths v3 = some z → G p l e rm_X7_findWays s m args below meth c D A 4 0 0 Q 9 [(0, .ref a_me), (1, .ref a_q1), (2, .int v2), (3, .int v3)] [] (w_X7_findWays cA a_me a_q1 a_best a_order a_ways a_ways_lengths a_ways_lengths_cells a_q1_one a_q1_two a_q1_length a_q1_draught a_q1_one_cells a_q1_two_cells a_q1_length_cells u_leastRisk u_size u_q1_doors u_q1_shafts c_ways_lengths c_q1_galleries c_q1_one c_q1_two c_q1_length) := by
  intro fu
  induction fu with
  | zero => intro c_ways_lengths v3 h; exact absurd (show (none : Option (A32)) = some z from h) (by simp)
  | succ fu ih =>
    intro c_ways_lengths v3 h
    have h : (if c_q1_galleries ≤ v3 then Option.bind (f_X9_joinWays c_ways_lengths) fun z_2 => some z_2 else Option.bind (f_X10_bit v2 v3) fun z_3 => if z_3 = 1 then Option.bind (f_X8_get 10 c_q1_one v3) fun z_5 => Option.bind (f_X8_get 10 c_q1_two v3) fun z_6 => Option.bind (f_X8_get 10 c_q1_length v3) fun z_7 => Option.bind (f_X9_link c_ways_lengths z_5 z_6 z_7) fun z_8 => Option.bind (f_X8_get 10 c_q1_two v3) fun z_9 => Option.bind (f_X8_get 10 c_q1_one v3) fun z_10 => Option.bind (f_X8_get 10 c_q1_length v3) fun z_11 => Option.bind (f_X9_link z_8 z_9 z_10 z_11) fun z_12 => f_X7_findWays_b88 (f_X7_findWays_b9 c_q1_galleries c_q1_one c_q1_two c_q1_length v2 fu) z_12 c_q1_galleries c_q1_one c_q1_two c_q1_length v2 v3 else f_X7_findWays_b88 (f_X7_findWays_b9 c_q1_galleries c_q1_one c_q1_two c_q1_length v2 fu) c_ways_lengths c_q1_galleries c_q1_one c_q1_two c_q1_length v2 v3 : Option (A32)) = some z := h
    refine g_iload_n X 3 rfl rfl dX7_findWays_9 rfl ?_
    refine g_aload_n X 1 rfl rfl dX7_findWays_10 rfl ?_
    refine g_getf (C := RX5) (T := TX5) (N := 7) (v := .int c_q1_galleries) X 4 rfl vc_X5 0 (by decide) iw_X7_findWays_X5 fl_X7_findWays_X5_0 rfl rfl dX7_findWays_11 rfl ?_
    refine g_icmp_ge (tgt := 94) X dX7_findWays_14 (by decide) rfl h (fun c_1 h => ?_) (fun c_1 h => ?_)
    · refine g_aload_n X 0 rfl rfl dX7_findWays_94 rfl ?_
      refine g_getf (C := RX7) (T := TX7) (N := 5) (v := .ref a_ways) X 0 rfl vc_X7 4 (by decide) iw_X7_findWays_X7 fl_X7_findWays_X7_4 rfl rfl dX7_findWays_95 rfl ?_
      obtain ⟨z_2, hz_2, h⟩ := bnd_s h
      refine g_callVV (rm := rm_X9_joinWays) (As := []) (W0 := (w_X9_joinWays cA a_ways a_ways_lengths a_ways_lengths_cells c_ways_lengths)) (W1 := (w_X9_joinWays cA a_ways a_ways_lengths a_ways_lengths_cells z_2)) (isC := [1, 2, 3]) (isR := [0, 4, 5, 6, 7, 8, 9, 10]) (perm := [0, 8, 9, 10, 1, 2, 3, 4, 5, 6, 7]) (ws' := (w_X7_findWays cA a_me a_q1 a_best a_order a_ways a_ways_lengths a_ways_lengths_cells a_q1_one a_q1_two a_q1_length a_q1_draught a_q1_one_cells a_q1_two_cells a_q1_length_cells u_leastRisk u_size u_q1_doors u_q1_shafts z_2 c_q1_galleries c_q1_one c_q1_two c_q1_length)) X (c_X9_joinWays l D cA a_ways a_ways_lengths a_ways_lengths_cells c_ways_lengths _ hz_2) 1 rfl rfl rfl gX7_findWays_X9_joinWays rfl rfl rfl ⟨rfl, hd_X9_joinWays⟩ ⟨Nat.le_of_ble_eq_true rfl, Nat.le_of_ble_eq_true rfl⟩ rfl rfl (Nat.le_of_ble_eq_true rfl) rfl (by decide) rfl (by decide) (by decide) ⟨Nat.zero_le _, Nat.zero_le _⟩ rfl (by decide) dX7_findWays_98 rfl ?_
      cases Option.some.inj h
      exact hret _ _ dX7_findWays_101
    · refine g_iload_n X 2 rfl rfl dX7_findWays_17 rfl ?_
      refine g_iload_n X 3 rfl rfl dX7_findWays_18 rfl ?_
      obtain ⟨z_3, hz_3, h⟩ := bnd_s h
      refine g_callSNI (rm := rm_X10_bit) (As := [.int v2, .int v3]) (r := z_3) (W0 := (w_X10_bit cA )) (W1 := (w_X10_bit cA )) (isC := []) (isR := [0, 1, 2, 3, 4, 5, 6, 7, 8, 9, 10]) (perm := [0, 1, 2, 3, 4, 5, 6, 7, 8, 9, 10]) (ws' := (w_X7_findWays cA a_me a_q1 a_best a_order a_ways a_ways_lengths a_ways_lengths_cells a_q1_one a_q1_two a_q1_length a_q1_draught a_q1_one_cells a_q1_two_cells a_q1_length_cells u_leastRisk u_size u_q1_doors u_q1_shafts c_ways_lengths c_q1_galleries c_q1_one c_q1_two c_q1_length)) X (c_X10_bit l D cA v2 v3 _ hz_3) gX7_findWays_X10_bit_n70 (by decide +kernel) (by decide +kernel) (by decide +kernel) rfl rfl rfl hd_X10_bit ⟨Nat.le_of_ble_eq_true rfl, Nat.le_of_ble_eq_true rfl⟩ rfl rfl (Nat.le_of_ble_eq_true rfl) rfl (by decide) rfl (by decide) (by decide) ⟨Nat.zero_le _, Nat.zero_le _⟩ rfl (by decide) dX7_findWays_19 rfl ?_
      refine g_iconst (v := 1) X dX7_findWays_22 (by decide) rfl ?_
      refine g_icmp_ne (tgt := 88) X dX7_findWays_23 (by decide) rfl h (fun c_4 h => ?_) (fun c_4 h => ?_)
      · exact t_X7_findWays_b88 X hret ih h
      · refine g_aload_n X 0 rfl rfl dX7_findWays_26 rfl ?_
        refine g_getf (C := RX7) (T := TX7) (N := 5) (v := .ref a_ways) X 0 rfl vc_X7 4 (by decide) iw_X7_findWays_X7 fl_X7_findWays_X7_4 rfl rfl dX7_findWays_27 rfl ?_
        refine g_aload_n X 1 rfl rfl dX7_findWays_30 rfl ?_
        refine g_getf (C := RX5) (T := TX5) (N := 7) (v := .ref a_q1_one) X 4 rfl vc_X5 1 (by decide) iw_X7_findWays_X5 fl_X7_findWays_X5_1 rfl rfl dX7_findWays_31 rfl ?_
        refine g_iload_n X 3 rfl rfl dX7_findWays_34 rfl ?_
        obtain ⟨z_5, hz_5, h⟩ := bnd_s h
        refine g_callVI (rm := rm_X8_get) (As := [.int v3]) (r := z_5) (W0 := (w_X8_get cA a_q1_one a_q1_one_cells 10 c_q1_one)) (W1 := (w_X8_get cA a_q1_one a_q1_one_cells 10 c_q1_one)) (isC := [5, 6]) (isR := [0, 1, 2, 3, 4, 7, 8, 9, 10]) (perm := [0, 1, 2, 3, 4, 9, 10, 5, 6, 7, 8]) (ws' := (w_X7_findWays cA a_me a_q1 a_best a_order a_ways a_ways_lengths a_ways_lengths_cells a_q1_one a_q1_two a_q1_length a_q1_draught a_q1_one_cells a_q1_two_cells a_q1_length_cells u_leastRisk u_size u_q1_doors u_q1_shafts c_ways_lengths c_q1_galleries c_q1_one c_q1_two c_q1_length)) X (c_X8_get l D cA a_q1_one a_q1_one_cells 10 c_q1_one v3 _ hz_5) 5 rfl rfl rfl gX7_findWays_X8_get rfl rfl rfl ⟨rfl, hd_X8_get⟩ ⟨Nat.le_of_ble_eq_true rfl, Nat.le_of_ble_eq_true rfl⟩ rfl rfl (Nat.le_of_ble_eq_true rfl) rfl (by decide) rfl (by decide) (by decide) ⟨Nat.zero_le _, Nat.zero_le _⟩ rfl (by decide) dX7_findWays_35 rfl ?_
        refine g_aload_n X 1 rfl rfl dX7_findWays_38 rfl ?_
        refine g_getf (C := RX5) (T := TX5) (N := 7) (v := .ref a_q1_two) X 4 rfl vc_X5 2 (by decide) iw_X7_findWays_X5 fl_X7_findWays_X5_2 rfl rfl dX7_findWays_39 rfl ?_
        refine g_iload_n X 3 rfl rfl dX7_findWays_42 rfl ?_
        obtain ⟨z_6, hz_6, h⟩ := bnd_s h
        refine g_callVI (rm := rm_X8_get) (As := [.int v3]) (r := z_6) (W0 := (w_X8_get cA a_q1_two a_q1_two_cells 10 c_q1_two)) (W1 := (w_X8_get cA a_q1_two a_q1_two_cells 10 c_q1_two)) (isC := [7, 8]) (isR := [0, 1, 2, 3, 4, 5, 6, 9, 10]) (perm := [0, 1, 2, 3, 4, 5, 6, 9, 10, 7, 8]) (ws' := (w_X7_findWays cA a_me a_q1 a_best a_order a_ways a_ways_lengths a_ways_lengths_cells a_q1_one a_q1_two a_q1_length a_q1_draught a_q1_one_cells a_q1_two_cells a_q1_length_cells u_leastRisk u_size u_q1_doors u_q1_shafts c_ways_lengths c_q1_galleries c_q1_one c_q1_two c_q1_length)) X (c_X8_get l D cA a_q1_two a_q1_two_cells 10 c_q1_two v3 _ hz_6) 7 rfl rfl rfl gX7_findWays_X8_get rfl rfl rfl ⟨rfl, hd_X8_get⟩ ⟨Nat.le_of_ble_eq_true rfl, Nat.le_of_ble_eq_true rfl⟩ rfl rfl (Nat.le_of_ble_eq_true rfl) rfl (by decide) rfl (by decide) (by decide) ⟨Nat.zero_le _, Nat.zero_le _⟩ rfl (by decide) dX7_findWays_43 rfl ?_
        refine g_aload_n X 1 rfl rfl dX7_findWays_46 rfl ?_
        refine g_getf (C := RX5) (T := TX5) (N := 7) (v := .ref a_q1_length) X 4 rfl vc_X5 3 (by decide) iw_X7_findWays_X5 fl_X7_findWays_X5_3 rfl rfl dX7_findWays_47 rfl ?_
        refine g_iload_n X 3 rfl rfl dX7_findWays_50 rfl ?_
        obtain ⟨z_7, hz_7, h⟩ := bnd_s h
        refine g_callVI (rm := rm_X8_get) (As := [.int v3]) (r := z_7) (W0 := (w_X8_get cA a_q1_length a_q1_length_cells 10 c_q1_length)) (W1 := (w_X8_get cA a_q1_length a_q1_length_cells 10 c_q1_length)) (isC := [9, 10]) (isR := [0, 1, 2, 3, 4, 5, 6, 7, 8]) (perm := [0, 1, 2, 3, 4, 5, 6, 7, 8, 9, 10]) (ws' := (w_X7_findWays cA a_me a_q1 a_best a_order a_ways a_ways_lengths a_ways_lengths_cells a_q1_one a_q1_two a_q1_length a_q1_draught a_q1_one_cells a_q1_two_cells a_q1_length_cells u_leastRisk u_size u_q1_doors u_q1_shafts c_ways_lengths c_q1_galleries c_q1_one c_q1_two c_q1_length)) X (c_X8_get l D cA a_q1_length a_q1_length_cells 10 c_q1_length v3 _ hz_7) 9 rfl rfl rfl gX7_findWays_X8_get rfl rfl rfl ⟨rfl, hd_X8_get⟩ ⟨Nat.le_of_ble_eq_true rfl, Nat.le_of_ble_eq_true rfl⟩ rfl rfl (Nat.le_of_ble_eq_true rfl) rfl (by decide) rfl (by decide) (by decide) ⟨Nat.zero_le _, Nat.zero_le _⟩ rfl (by decide) dX7_findWays_51 rfl ?_
        obtain ⟨z_8, hz_8, h⟩ := bnd_s h
        refine g_callVV (rm := rm_X9_link) (As := [.int z_5, .int z_6, .int z_7]) (W0 := (w_X9_link cA a_ways a_ways_lengths a_ways_lengths_cells c_ways_lengths)) (W1 := (w_X9_link cA a_ways a_ways_lengths a_ways_lengths_cells z_8)) (isC := [1, 2, 3]) (isR := [0, 4, 5, 6, 7, 8, 9, 10]) (perm := [0, 8, 9, 10, 1, 2, 3, 4, 5, 6, 7]) (ws' := (w_X7_findWays cA a_me a_q1 a_best a_order a_ways a_ways_lengths a_ways_lengths_cells a_q1_one a_q1_two a_q1_length a_q1_draught a_q1_one_cells a_q1_two_cells a_q1_length_cells u_leastRisk u_size u_q1_doors u_q1_shafts z_8 c_q1_galleries c_q1_one c_q1_two c_q1_length)) X (c_X9_link l D cA a_ways a_ways_lengths a_ways_lengths_cells c_ways_lengths z_5 z_6 z_7 _ hz_8) 1 rfl rfl rfl gX7_findWays_X9_link rfl rfl rfl ⟨rfl, hd_X9_link⟩ ⟨Nat.le_of_ble_eq_true rfl, Nat.le_of_ble_eq_true rfl⟩ rfl rfl (Nat.le_of_ble_eq_true rfl) rfl (by decide) rfl (by decide) (by decide) ⟨Nat.zero_le _, Nat.zero_le _⟩ rfl (by decide) dX7_findWays_54 rfl ?_
        refine g_aload_n X 0 rfl rfl dX7_findWays_57 rfl ?_
        refine g_getf (C := RX7) (T := TX7) (N := 5) (v := .ref a_ways) X 0 rfl vc_X7 4 (by decide) iw_X7_findWays_X7 fl_X7_findWays_X7_4 rfl rfl dX7_findWays_58 rfl ?_
        refine g_aload_n X 1 rfl rfl dX7_findWays_61 rfl ?_
        refine g_getf (C := RX5) (T := TX5) (N := 7) (v := .ref a_q1_two) X 4 rfl vc_X5 2 (by decide) iw_X7_findWays_X5 fl_X7_findWays_X5_2 rfl rfl dX7_findWays_62 rfl ?_
        refine g_iload_n X 3 rfl rfl dX7_findWays_65 rfl ?_
        obtain ⟨z_9, hz_9, h⟩ := bnd_s h
        refine g_callVI (rm := rm_X8_get) (As := [.int v3]) (r := z_9) (W0 := (w_X8_get cA a_q1_two a_q1_two_cells 10 c_q1_two)) (W1 := (w_X8_get cA a_q1_two a_q1_two_cells 10 c_q1_two)) (isC := [7, 8]) (isR := [0, 1, 2, 3, 4, 5, 6, 9, 10]) (perm := [0, 1, 2, 3, 4, 5, 6, 9, 10, 7, 8]) (ws' := (w_X7_findWays cA a_me a_q1 a_best a_order a_ways a_ways_lengths a_ways_lengths_cells a_q1_one a_q1_two a_q1_length a_q1_draught a_q1_one_cells a_q1_two_cells a_q1_length_cells u_leastRisk u_size u_q1_doors u_q1_shafts z_8 c_q1_galleries c_q1_one c_q1_two c_q1_length)) X (c_X8_get l D cA a_q1_two a_q1_two_cells 10 c_q1_two v3 _ hz_9) 7 rfl rfl rfl gX7_findWays_X8_get rfl rfl rfl ⟨rfl, hd_X8_get⟩ ⟨Nat.le_of_ble_eq_true rfl, Nat.le_of_ble_eq_true rfl⟩ rfl rfl (Nat.le_of_ble_eq_true rfl) rfl (by decide) rfl (by decide) (by decide) ⟨Nat.zero_le _, Nat.zero_le _⟩ rfl (by decide) dX7_findWays_66 rfl ?_
        refine g_aload_n X 1 rfl rfl dX7_findWays_69 rfl ?_
        refine g_getf (C := RX5) (T := TX5) (N := 7) (v := .ref a_q1_one) X 4 rfl vc_X5 1 (by decide) iw_X7_findWays_X5 fl_X7_findWays_X5_1 rfl rfl dX7_findWays_70 rfl ?_
        refine g_iload_n X 3 rfl rfl dX7_findWays_73 rfl ?_
        obtain ⟨z_10, hz_10, h⟩ := bnd_s h
        refine g_callVI (rm := rm_X8_get) (As := [.int v3]) (r := z_10) (W0 := (w_X8_get cA a_q1_one a_q1_one_cells 10 c_q1_one)) (W1 := (w_X8_get cA a_q1_one a_q1_one_cells 10 c_q1_one)) (isC := [5, 6]) (isR := [0, 1, 2, 3, 4, 7, 8, 9, 10]) (perm := [0, 1, 2, 3, 4, 9, 10, 5, 6, 7, 8]) (ws' := (w_X7_findWays cA a_me a_q1 a_best a_order a_ways a_ways_lengths a_ways_lengths_cells a_q1_one a_q1_two a_q1_length a_q1_draught a_q1_one_cells a_q1_two_cells a_q1_length_cells u_leastRisk u_size u_q1_doors u_q1_shafts z_8 c_q1_galleries c_q1_one c_q1_two c_q1_length)) X (c_X8_get l D cA a_q1_one a_q1_one_cells 10 c_q1_one v3 _ hz_10) 5 rfl rfl rfl gX7_findWays_X8_get rfl rfl rfl ⟨rfl, hd_X8_get⟩ ⟨Nat.le_of_ble_eq_true rfl, Nat.le_of_ble_eq_true rfl⟩ rfl rfl (Nat.le_of_ble_eq_true rfl) rfl (by decide) rfl (by decide) (by decide) ⟨Nat.zero_le _, Nat.zero_le _⟩ rfl (by decide) dX7_findWays_74 rfl ?_
        refine g_aload_n X 1 rfl rfl dX7_findWays_77 rfl ?_
        refine g_getf (C := RX5) (T := TX5) (N := 7) (v := .ref a_q1_length) X 4 rfl vc_X5 3 (by decide) iw_X7_findWays_X5 fl_X7_findWays_X5_3 rfl rfl dX7_findWays_78 rfl ?_
        refine g_iload_n X 3 rfl rfl dX7_findWays_81 rfl ?_
        obtain ⟨z_11, hz_11, h⟩ := bnd_s h
        refine g_callVI (rm := rm_X8_get) (As := [.int v3]) (r := z_11) (W0 := (w_X8_get cA a_q1_length a_q1_length_cells 10 c_q1_length)) (W1 := (w_X8_get cA a_q1_length a_q1_length_cells 10 c_q1_length)) (isC := [9, 10]) (isR := [0, 1, 2, 3, 4, 5, 6, 7, 8]) (perm := [0, 1, 2, 3, 4, 5, 6, 7, 8, 9, 10]) (ws' := (w_X7_findWays cA a_me a_q1 a_best a_order a_ways a_ways_lengths a_ways_lengths_cells a_q1_one a_q1_two a_q1_length a_q1_draught a_q1_one_cells a_q1_two_cells a_q1_length_cells u_leastRisk u_size u_q1_doors u_q1_shafts z_8 c_q1_galleries c_q1_one c_q1_two c_q1_length)) X (c_X8_get l D cA a_q1_length a_q1_length_cells 10 c_q1_length v3 _ hz_11) 9 rfl rfl rfl gX7_findWays_X8_get rfl rfl rfl ⟨rfl, hd_X8_get⟩ ⟨Nat.le_of_ble_eq_true rfl, Nat.le_of_ble_eq_true rfl⟩ rfl rfl (Nat.le_of_ble_eq_true rfl) rfl (by decide) rfl (by decide) (by decide) ⟨Nat.zero_le _, Nat.zero_le _⟩ rfl (by decide) dX7_findWays_82 rfl ?_
        obtain ⟨z_12, hz_12, h⟩ := bnd_s h
        refine g_callVV (rm := rm_X9_link) (As := [.int z_9, .int z_10, .int z_11]) (W0 := (w_X9_link cA a_ways a_ways_lengths a_ways_lengths_cells z_8)) (W1 := (w_X9_link cA a_ways a_ways_lengths a_ways_lengths_cells z_12)) (isC := [1, 2, 3]) (isR := [0, 4, 5, 6, 7, 8, 9, 10]) (perm := [0, 8, 9, 10, 1, 2, 3, 4, 5, 6, 7]) (ws' := (w_X7_findWays cA a_me a_q1 a_best a_order a_ways a_ways_lengths a_ways_lengths_cells a_q1_one a_q1_two a_q1_length a_q1_draught a_q1_one_cells a_q1_two_cells a_q1_length_cells u_leastRisk u_size u_q1_doors u_q1_shafts z_12 c_q1_galleries c_q1_one c_q1_two c_q1_length)) X (c_X9_link l D cA a_ways a_ways_lengths a_ways_lengths_cells z_8 z_9 z_10 z_11 _ hz_12) 1 rfl rfl rfl gX7_findWays_X9_link rfl rfl rfl ⟨rfl, hd_X9_link⟩ ⟨Nat.le_of_ble_eq_true rfl, Nat.le_of_ble_eq_true rfl⟩ rfl rfl (Nat.le_of_ble_eq_true rfl) rfl (by decide) rfl (by decide) (by decide) ⟨Nat.zero_le _, Nat.zero_le _⟩ rfl (by decide) dX7_findWays_85 rfl ?_
        exact t_X7_findWays_b88 X hret ih h
set_option maxHeartbeats 4000000 in
set_option maxRecDepth 100000 in
theorem c_X7_findWays (l : Launch) (D : va_G) (cA : ClassId) (a_me a_q1 a_best a_order a_ways a_ways_lengths a_ways_lengths_cells a_q1_one a_q1_two a_q1_length a_q1_draught a_q1_one_cells a_q1_two_cells a_q1_length_cells : Nat) (u_leastRisk : Int32) (u_size : Int32) (u_q1_doors : Int32) (u_q1_shafts : Int32) (c_ways_lengths : A32) (c_q1_galleries : Int32) (c_q1_one : A32) (c_q1_two : A32) (c_q1_length : A32) (v2 : Int32) (z : A32) (h : f_X7_findWays c_ways_lengths c_q1_galleries c_q1_one c_q1_two c_q1_length v2 = some z) : CtV l yX7_findWays wsX7_findWays rm_X7_findWays D cA [.ref a_me, .ref a_q1, .int v2] (w_X7_findWays cA a_me a_q1 a_best a_order a_ways a_ways_lengths a_ways_lengths_cells a_q1_one a_q1_two a_q1_length a_q1_draught a_q1_one_cells a_q1_two_cells a_q1_length_cells u_leastRisk u_size u_q1_doors u_q1_shafts c_ways_lengths c_q1_galleries c_q1_one c_q1_two c_q1_length) Unit (fun _ => (w_X7_findWays cA a_me a_q1 a_best a_order a_ways a_ways_lengths a_ways_lengths_cells a_q1_one a_q1_two a_q1_length a_q1_draught a_q1_one_cells a_q1_two_cells a_q1_length_cells u_leastRisk u_size u_q1_doors u_q1_shafts z c_q1_galleries c_q1_one c_q1_two c_q1_length)) 0 0 := by
  refine ct_V (maxL := 4) (cc := cX7_findWays) (by decide) rfl (Nat.le_of_ble_eq_true rfl) rfl (fun p e s m args below meth c A Q X _ hret => ?_)
  have hret := hret ()
  have h : (Option.bind (f_X9_clear c_ways_lengths) fun z_1 => f_X7_findWays_b9 c_q1_galleries c_q1_one c_q1_two c_q1_length v2 FU z_1 0 : Option (A32)) = some z := h
  refine g_aload_n X 0 rfl rfl dX7_findWays_0 rfl ?_
  refine g_getf (C := RX7) (T := TX7) (N := 5) (v := .ref a_ways) X 0 rfl vc_X7 4 (by decide) iw_X7_findWays_X7 fl_X7_findWays_X7_4 rfl rfl dX7_findWays_1 rfl ?_
  obtain ⟨z_1, hz_1, h⟩ := bnd_s h
  refine g_callVV (rm := rm_X9_clear) (As := []) (W0 := (w_X9_clear cA a_ways a_ways_lengths a_ways_lengths_cells c_ways_lengths)) (W1 := (w_X9_clear cA a_ways a_ways_lengths a_ways_lengths_cells z_1)) (isC := [1, 2, 3]) (isR := [0, 4, 5, 6, 7, 8, 9, 10]) (perm := [0, 8, 9, 10, 1, 2, 3, 4, 5, 6, 7]) (ws' := (w_X7_findWays cA a_me a_q1 a_best a_order a_ways a_ways_lengths a_ways_lengths_cells a_q1_one a_q1_two a_q1_length a_q1_draught a_q1_one_cells a_q1_two_cells a_q1_length_cells u_leastRisk u_size u_q1_doors u_q1_shafts z_1 c_q1_galleries c_q1_one c_q1_two c_q1_length)) X (c_X9_clear l D cA a_ways a_ways_lengths a_ways_lengths_cells c_ways_lengths _ hz_1) 1 rfl rfl rfl gX7_findWays_X9_clear rfl rfl rfl ⟨rfl, hd_X9_clear⟩ ⟨Nat.le_of_ble_eq_true rfl, Nat.le_of_ble_eq_true rfl⟩ rfl rfl (Nat.le_of_ble_eq_true rfl) rfl (by decide) rfl (by decide) (by decide) ⟨Nat.zero_le _, Nat.zero_le _⟩ rfl (by decide) dX7_findWays_4 rfl ?_
  refine g_iconst (v := 0) X dX7_findWays_7 (by decide) rfl ?_
  refine g_istore_n (lv' := [(3, .int 0), (0, .ref a_me), (1, .ref a_q1), (2, .int v2)]) X rfl (by decide) rfl dX7_findWays_8 rfl ?_
  refine g_lvs [1, 2, 3, 0] rfl ?_
  exact t_X7_findWays_b9 X hret _ _ _ h
abbrev rm_X7_startOrder : Room := { frames := 2, cells := 0, slots := 0, locals := 43 }
abbrev w_X7_startOrder (cA : ClassId) (a_me a_best a_order a_ways a_order_cells a_ways_lengths a_ways_lengths_cells : Nat) (u_leastRisk : Int32) (c_size : Int32) (c_order : A32) (c_ways_lengths : A32) : va_W := [(a_me, .inr (7, [.ref a_best, .int u_leastRisk, .ref a_order, .int c_size, .ref a_ways])), (a_order, .inr (8, [.ref a_order_cells])), (a_order_cells, .inl (cA, 5, .inl c_order)), (a_ways, .inr (9, [.ref a_ways_lengths])), (a_ways_lengths, .inr (8, [.ref a_ways_lengths_cells])), (a_ways_lengths_cells, .inl (cA, 49, .inl c_ways_lengths))]
theorem hd_X7_startOrder : yX7_startOrder.cls ≠ "java/lang/invoke/MethodHandle" ∧ yX7_startOrder.cls ≠ "java/lang/invoke/VarHandle" ∧ (parseMethodDescriptor yX7_startOrder.desc).map (fun d => d.parameters.length) = some 2 := by decide +kernel
theorem iw_X7_startOrder_X7 : ∀ w ∈ wsX70, w ∈ wsX7_startOrder := fun w h => List.mem_cons_of_mem _ (List.mem_append_left _ (List.mem_append_left _ (List.mem_append_right _ h)))
theorem fl_X7_startOrder_X7_3 : Cond.fieldLink RX7 94 RX7 (TX7 3).2.1 (TX7 3).2.2.1 ∈ wsX7_startOrder := List.mem_of_getElem? (i := 1) rfl
theorem fl_X7_startOrder_X7_4 : Cond.fieldLink RX7 26 RX7 (TX7 4).2.1 (TX7 4).2.2.1 ∈ wsX7_startOrder := List.mem_of_getElem? (i := 2) rfl
theorem fl_X7_startOrder_X7_2 : Cond.fieldLink RX7 20 RX7 (TX7 2).2.1 (TX7 2).2.2.1 ∈ wsX7_startOrder := List.mem_of_getElem? (i := 3) rfl
set_option maxHeartbeats 4000000 in
set_option maxRecDepth 100000 in
theorem t_X7_startOrder_b59 {l : Launch} {D : va_G} {cA : ClassId} {p : Program} {e : Env} {s : State} {m : MethodId} {args : Array Value} {below : List Frame} {meth : Method} {c : Code} {A : Nat → Prop} {Q : State → Prop} {z : Int32 × Int32 × A32} {a_me a_best a_order a_ways a_order_cells a_ways_lengths a_ways_lengths_cells : Nat} {u_leastRisk : Int32}  {c_size : Int32} {c_order : A32} {c_ways_lengths : A32} {v1 : Int32} {v2 : Int32} {v3 : Int32} {k7 : Int32 → A32 → Int32 → Option (Int32 × Int32 × A32)} (X : GX p s m args c cX7_startOrder RX7 wsX7_startOrder D cA A 4) (hret : RtI p l e rm_X7_startOrder s m args below meth c cX7_startOrder D A 4 0 0 Q .boolean z.1 (w_X7_startOrder cA a_me a_best a_order a_ways a_order_cells a_ways_lengths a_ways_lengths_cells u_leastRisk z.2.1 z.2.2 c_ways_lengths)) (hk7 : ∀ (c_size : Int32) (c_order : A32) (v3 : Int32), k7 c_size c_order v3 = some z → G p l e rm_X7_startOrder s m args below meth c D A 4 0 0 Q 7 [(0, .ref a_me), (1, .int v1), (2, .int v2), (3, .int v3)] [] (w_X7_startOrder cA a_me a_best a_order a_ways a_order_cells a_ways_lengths a_ways_lengths_cells u_leastRisk c_size c_order c_ways_lengths)) (h : f_X7_startOrder_b59 k7 c_size c_order c_ways_lengths v1 v2 v3 = some z) : G p l e rm_X7_startOrder s m args below meth c D A 4 0 0 Q 59 [(0, .ref a_me), (1, .int v1), (2, .int v2), (3, .int v3)] [] (w_X7_startOrder cA a_me a_best a_order a_ways a_order_cells a_ways_lengths a_ways_lengths_cells u_leastRisk c_size c_order c_ways_lengths) := by
  have h : (nam (v3 + 1) fun v3_1 => k7 c_size c_order v3_1 : Option (Int32 × Int32 × A32)) = some z := h
  obtain ⟨v3_1, ev3_1, h⟩ := nam_s h
  refine g_iinc (v := v3_1) (lv' := [(3, .int v3_1), (0, .ref a_me), (1, .int v1), (2, .int v2)]) X 3 rfl (by rw [ev3_1]; rfl) (by decide) rfl dX7_startOrder_59 rfl ?_
  refine g_goto (tgt := 7) X dX7_startOrder_62 (by decide) ?_
  refine g_lvs [1, 2, 3, 0] rfl ?_
  exact hk7 _ _ _ h
set_option maxHeartbeats 4000000 in
set_option maxRecDepth 100000 in
theorem t_X7_startOrder_b7 {l : Launch} {D : va_G} {cA : ClassId} {p : Program} {e : Env} {s : State} {m : MethodId} {args : Array Value} {below : List Frame} {meth : Method} {c : Code} {A : Nat → Prop} {Q : State → Prop} {z : Int32 × Int32 × A32} {a_me a_best a_order a_ways a_order_cells a_ways_lengths a_ways_lengths_cells : Nat} {u_leastRisk : Int32}  {c_ways_lengths : A32} {v1 : Int32} {v2 : Int32}  (X : GX p s m args c cX7_startOrder RX7 wsX7_startOrder D cA A 4) (hret : RtI p l e rm_X7_startOrder s m args below meth c cX7_startOrder D A 4 0 0 Q .boolean z.1 (w_X7_startOrder cA a_me a_best a_order a_ways a_order_cells a_ways_lengths a_ways_lengths_cells u_leastRisk z.2.1 z.2.2 c_ways_lengths))  : ∀ (fu : Nat) (c_size : Int32) (c_order : A32) (v3 : Int32), f_X7_startOrder_b7 c_ways_lengths v1 v2 fu c_size c_order v3 = some z → G p l e rm_X7_startOrder s m args below meth c D A 4 0 0 Q 7 [(0, .ref a_me), (1, .int v1), (2, .int v2), (3, .int v3)] [] (w_X7_startOrder cA a_me a_best a_order a_ways a_order_cells a_ways_lengths a_ways_lengths_cells u_leastRisk c_size c_order c_ways_lengths) := by
  intro fu
  induction fu with
  | zero => intro c_size c_order v3 h; exact absurd (show (none : Option (Int32 × Int32 × A32)) = some z from h) (by simp)
  | succ fu ih =>
    intro c_size c_order v3 h
    have h : (if 7 ≤ v3 then some (1, c_size, c_order) else Option.bind (f_X10_bit v2 v3) fun z_2 => if z_2 = 1 then Option.bind (f_X9_between c_ways_lengths v1 v3) fun z_4 => if z_4 = (-1) then some (0, c_size, c_order) else Option.bind (f_X8_set 5 c_order c_size v3) fun z_6 => nam (c_size + 1) fun w_7 => f_X7_startOrder_b59 (f_X7_startOrder_b7 c_ways_lengths v1 v2 fu) w_7 z_6 c_ways_lengths v1 v2 v3 else f_X7_startOrder_b59 (f_X7_startOrder_b7 c_ways_lengths v1 v2 fu) c_size c_order c_ways_lengths v1 v2 v3 : Option (Int32 × Int32 × A32)) = some z := h
    refine g_iload_n X 3 rfl rfl dX7_startOrder_7 rfl ?_
    refine g_bipush (v := 7) X dX7_startOrder_8 (by decide) rfl ?_
    refine g_icmp_ge (tgt := 65) X dX7_startOrder_10 (by decide) rfl h (fun c_1 h => ?_) (fun c_1 h => ?_)
    · refine g_iconst (v := 1) X dX7_startOrder_65 (by decide) rfl ?_
      cases Option.some.inj h
      exact hret _ _ dX7_startOrder_66 (nar_z (Or.inr rfl))
    · refine g_iload_n X 2 rfl rfl dX7_startOrder_13 rfl ?_
      refine g_iload_n X 3 rfl rfl dX7_startOrder_14 rfl ?_
      obtain ⟨z_2, hz_2, h⟩ := bnd_s h
      refine g_callSNI (rm := rm_X10_bit) (As := [.int v2, .int v3]) (r := z_2) (W0 := (w_X10_bit cA )) (W1 := (w_X10_bit cA )) (isC := []) (isR := [0, 1, 2, 3, 4, 5]) (perm := [0, 1, 2, 3, 4, 5]) (ws' := (w_X7_startOrder cA a_me a_best a_order a_ways a_order_cells a_ways_lengths a_ways_lengths_cells u_leastRisk c_size c_order c_ways_lengths)) X (c_X10_bit l D cA v2 v3 _ hz_2) gX7_startOrder_X10_bit_n70 (by decide +kernel) (by decide +kernel) (by decide +kernel) rfl rfl rfl hd_X10_bit ⟨Nat.le_of_ble_eq_true rfl, Nat.le_of_ble_eq_true rfl⟩ rfl rfl (Nat.le_of_ble_eq_true rfl) rfl (by decide) rfl (by decide) (by decide) ⟨Nat.zero_le _, Nat.zero_le _⟩ rfl (by decide) dX7_startOrder_15 rfl ?_
      refine g_iconst (v := 1) X dX7_startOrder_18 (by decide) rfl ?_
      refine g_icmp_ne (tgt := 59) X dX7_startOrder_19 (by decide) rfl h (fun c_3 h => ?_) (fun c_3 h => ?_)
      · exact t_X7_startOrder_b59 X hret ih h
      · refine g_aload_n X 0 rfl rfl dX7_startOrder_22 rfl ?_
        refine g_getf (C := RX7) (T := TX7) (N := 5) (v := .ref a_ways) X 0 rfl vc_X7 4 (by decide) iw_X7_startOrder_X7 fl_X7_startOrder_X7_4 rfl rfl dX7_startOrder_23 rfl ?_
        refine g_iload_n X 1 rfl rfl dX7_startOrder_26 rfl ?_
        refine g_iload_n X 3 rfl rfl dX7_startOrder_27 rfl ?_
        obtain ⟨z_4, hz_4, h⟩ := bnd_s h
        refine g_callVI (rm := rm_X9_between) (As := [.int v1, .int v3]) (r := z_4) (W0 := (w_X9_between cA a_ways a_ways_lengths a_ways_lengths_cells c_ways_lengths)) (W1 := (w_X9_between cA a_ways a_ways_lengths a_ways_lengths_cells c_ways_lengths)) (isC := [3, 4, 5]) (isR := [0, 1, 2]) (perm := [0, 1, 2, 3, 4, 5]) (ws' := (w_X7_startOrder cA a_me a_best a_order a_ways a_order_cells a_ways_lengths a_ways_lengths_cells u_leastRisk c_size c_order c_ways_lengths)) X (c_X9_between l D cA a_ways a_ways_lengths a_ways_lengths_cells c_ways_lengths v1 v3 _ hz_4) 3 rfl rfl rfl gX7_startOrder_X9_between rfl rfl rfl ⟨rfl, hd_X9_between⟩ ⟨Nat.le_of_ble_eq_true rfl, Nat.le_of_ble_eq_true rfl⟩ rfl rfl (Nat.le_of_ble_eq_true rfl) rfl (by decide) rfl (by decide) (by decide) ⟨Nat.zero_le _, Nat.zero_le _⟩ rfl (by decide) dX7_startOrder_28 rfl ?_
        refine g_iconst (v := (-1)) X dX7_startOrder_31 (by decide) rfl ?_
        refine g_icmp_ne (tgt := 37) X dX7_startOrder_32 (by decide) rfl h (fun c_5 h => ?_) (fun c_5 h => ?_)
        · refine g_aload_n X 0 rfl rfl dX7_startOrder_37 rfl ?_
          refine g_getf (C := RX7) (T := TX7) (N := 5) (v := .ref a_order) X 0 rfl vc_X7 2 (by decide) iw_X7_startOrder_X7 fl_X7_startOrder_X7_2 rfl rfl dX7_startOrder_38 rfl ?_
          refine g_aload_n X 0 rfl rfl dX7_startOrder_41 rfl ?_
          refine g_getf (C := RX7) (T := TX7) (N := 5) (v := .int c_size) X 0 rfl vc_X7 3 (by decide) iw_X7_startOrder_X7 fl_X7_startOrder_X7_3 rfl rfl dX7_startOrder_42 rfl ?_
          refine g_iload_n X 3 rfl rfl dX7_startOrder_45 rfl ?_
          obtain ⟨z_6, hz_6, h⟩ := bnd_s h
          refine g_callVV (rm := rm_X8_set) (As := [.int c_size, .int v3]) (W0 := (w_X8_set cA a_order a_order_cells 5 c_order)) (W1 := (w_X8_set cA a_order a_order_cells 5 z_6)) (isC := [1, 2]) (isR := [0, 3, 4, 5]) (perm := [0, 4, 5, 1, 2, 3]) (ws' := (w_X7_startOrder cA a_me a_best a_order a_ways a_order_cells a_ways_lengths a_ways_lengths_cells u_leastRisk c_size z_6 c_ways_lengths)) X (c_X8_set l D cA a_order a_order_cells 5 c_order c_size v3 _ hz_6) 1 rfl rfl rfl gX7_startOrder_X8_set rfl rfl rfl ⟨rfl, hd_X8_set⟩ ⟨Nat.le_of_ble_eq_true rfl, Nat.le_of_ble_eq_true rfl⟩ rfl rfl (Nat.le_of_ble_eq_true rfl) rfl (by decide) rfl (by decide) (by decide) ⟨Nat.zero_le _, Nat.zero_le _⟩ rfl (by decide) dX7_startOrder_46 rfl ?_
          refine g_aload_n X 0 rfl rfl dX7_startOrder_49 rfl ?_
          refine g_dup X dX7_startOrder_50 rfl rfl ?_
          refine g_getf (C := RX7) (T := TX7) (N := 5) (v := .int c_size) X 0 rfl vc_X7 3 (by decide) iw_X7_startOrder_X7 fl_X7_startOrder_X7_3 rfl rfl dX7_startOrder_51 rfl ?_
          refine g_iconst (v := 1) X dX7_startOrder_54 (by decide) rfl ?_
          refine g_iadd X dX7_startOrder_55 rfl ?_
          refine g_nami h (fun w_7 h => ?_)
          refine g_putf (C := RX7) (T := TX7) (N := 5) (ty := .int) (ws' := (w_X7_startOrder cA a_me a_best a_order a_ways a_order_cells a_ways_lengths a_ways_lengths_cells u_leastRisk w_7 z_6 c_ways_lengths)) X 0 tyX7 tyX7_ok nmX7 rfl vc_X7 3 (by decide) iw_X7_startOrder_X7 fl_X7_startOrder_X7_3 rfl rfl pd_X7_3 rfl rfl (Nat.le_of_ble_eq_true rfl) rfl dX7_startOrder_56 rfl ?_
          exact t_X7_startOrder_b59 X hret ih h
        · refine g_iconst (v := 0) X dX7_startOrder_35 (by decide) rfl ?_
          cases Option.some.inj h
          exact hret _ _ dX7_startOrder_36 (nar_z (Or.inl rfl))
set_option maxHeartbeats 4000000 in
set_option maxRecDepth 100000 in
theorem c_X7_startOrder (l : Launch) (D : va_G) (cA : ClassId) (a_me a_best a_order a_ways a_order_cells a_ways_lengths a_ways_lengths_cells : Nat) (u_leastRisk : Int32) (c_size : Int32) (c_order : A32) (c_ways_lengths : A32) (v1 : Int32) (v2 : Int32) (z : Int32 × Int32 × A32) (h : f_X7_startOrder c_size c_order c_ways_lengths v1 v2 = some z) : CtI l yX7_startOrder wsX7_startOrder rm_X7_startOrder D cA [.ref a_me, .int v1, .int v2] (w_X7_startOrder cA a_me a_best a_order a_ways a_order_cells a_ways_lengths a_ways_lengths_cells u_leastRisk c_size c_order c_ways_lengths) z.1 (w_X7_startOrder cA a_me a_best a_order a_ways a_order_cells a_ways_lengths a_ways_lengths_cells u_leastRisk z.2.1 z.2.2 c_ways_lengths) := by
  refine ct_I (maxL := 4) (ty := .boolean) (cc := cX7_startOrder) (by decide) rfl (Nat.le_of_ble_eq_true rfl) rfl (fun p e s m args below meth c A Q X hret => ?_)
  have h : (f_X7_startOrder_b7 c_ways_lengths v1 v2 FU 0 c_order 0 : Option (Int32 × Int32 × A32)) = some z := h
  refine g_aload_n X 0 rfl rfl dX7_startOrder_0 rfl ?_
  refine g_iconst (v := 0) X dX7_startOrder_1 (by decide) rfl ?_
  refine g_putf (C := RX7) (T := TX7) (N := 5) (ty := .int) (ws' := (w_X7_startOrder cA a_me a_best a_order a_ways a_order_cells a_ways_lengths a_ways_lengths_cells u_leastRisk 0 c_order c_ways_lengths)) X 0 tyX7 tyX7_ok nmX7 rfl vc_X7 3 (by decide) iw_X7_startOrder_X7 fl_X7_startOrder_X7_3 rfl rfl pd_X7_3 rfl rfl (Nat.le_of_ble_eq_true rfl) rfl dX7_startOrder_2 rfl ?_
  refine g_iconst (v := 0) X dX7_startOrder_5 (by decide) rfl ?_
  refine g_istore_n (lv' := [(3, .int 0), (0, .ref a_me), (1, .int v1), (2, .int v2)]) X rfl (by decide) rfl dX7_startOrder_6 rfl ?_
  refine g_lvs [1, 2, 3, 0] rfl ?_
  exact t_X7_startOrder_b7 X hret _ _ _ _ h
abbrev rm_X7_riskOfOrder : Room := { frames := 2, cells := 0, slots := 0, locals := 43 }
abbrev w_X7_riskOfOrder (cA : ClassId) (a_me a_q2 a_best a_order a_ways a_order_cells a_ways_lengths a_ways_lengths_cells a_q2_cells : Nat) (u_leastRisk : Int32) (n_q2 : Nat) (c_size : Int32) (c_order : A32) (c_ways_lengths : A32) (c_q2 : A32) : va_W := [(a_me, .inr (7, [.ref a_best, .int u_leastRisk, .ref a_order, .int c_size, .ref a_ways])), (a_order, .inr (8, [.ref a_order_cells])), (a_order_cells, .inl (cA, 5, .inl c_order)), (a_ways, .inr (9, [.ref a_ways_lengths])), (a_ways_lengths, .inr (8, [.ref a_ways_lengths_cells])), (a_ways_lengths_cells, .inl (cA, 49, .inl c_ways_lengths)), (a_q2, .inr (8, [.ref a_q2_cells])), (a_q2_cells, .inl (cA, n_q2, .inl c_q2))]
theorem hd_X7_riskOfOrder : yX7_riskOfOrder.cls ≠ "java/lang/invoke/MethodHandle" ∧ yX7_riskOfOrder.cls ≠ "java/lang/invoke/VarHandle" ∧ (parseMethodDescriptor yX7_riskOfOrder.desc).map (fun d => d.parameters.length) = some 2 := by decide +kernel
theorem iw_X7_riskOfOrder_X7 : ∀ w ∈ wsX70, w ∈ wsX7_riskOfOrder := fun w h => List.mem_cons_of_mem _ (List.mem_append_left _ (List.mem_append_left _ (List.mem_append_right _ h)))
theorem fl_X7_riskOfOrder_X7_3 : Cond.fieldLink RX7 94 RX7 (TX7 3).2.1 (TX7 3).2.2.1 ∈ wsX7_riskOfOrder := List.mem_of_getElem? (i := 1) rfl
theorem fl_X7_riskOfOrder_X7_2 : Cond.fieldLink RX7 20 RX7 (TX7 2).2.1 (TX7 2).2.2.1 ∈ wsX7_riskOfOrder := List.mem_of_getElem? (i := 2) rfl
theorem fl_X7_riskOfOrder_X7_4 : Cond.fieldLink RX7 26 RX7 (TX7 4).2.1 (TX7 4).2.2.1 ∈ wsX7_riskOfOrder := List.mem_of_getElem? (i := 3) rfl
set_option maxHeartbeats 4000000 in
set_option maxRecDepth 100000 in
theorem t_X7_riskOfOrder_b11 {l : Launch} {D : va_G} {cA : ClassId} {p : Program} {e : Env} {s : State} {m : MethodId} {args : Array Value} {below : List Frame} {meth : Method} {c : Code} {A : Nat → Prop} {Q : State → Prop} {z : Int32} {a_me a_q2 a_best a_order a_ways a_order_cells a_ways_lengths a_ways_lengths_cells a_q2_cells : Nat} {u_leastRisk : Int32}  {n_q2 : Nat} {c_size : Int32} {c_order : A32} {c_ways_lengths : A32} {c_q2 : A32}  (X : GX p s m args c cX7_riskOfOrder RX7 wsX7_riskOfOrder D cA A 8) (hret : RtI p l e rm_X7_riskOfOrder s m args below meth c cX7_riskOfOrder D A 8 0 0 Q .int z (w_X7_riskOfOrder cA a_me a_q2 a_best a_order a_ways a_order_cells a_ways_lengths a_ways_lengths_cells a_q2_cells u_leastRisk n_q2 c_size c_order c_ways_lengths c_q2))  : ∀ (fu : Nat) (v3 : Int32) (v4 : Int32) (v5 : Int32) (v6 : Int32), f_X7_riskOfOrder_b11 n_q2 c_size c_order c_ways_lengths c_q2 fu v3 v4 v5 v6 = some z → G p l e rm_X7_riskOfOrder s m args below meth c D A 8 0 0 Q 11 [(0, .ref a_me), (2, .ref a_q2), (3, .int v3), (4, .int v4), (5, .int v5), (6, .int v6)] [] (w_X7_riskOfOrder cA a_me a_q2 a_best a_order a_ways a_order_cells a_ways_lengths a_ways_lengths_cells a_q2_cells u_leastRisk n_q2 c_size c_order c_ways_lengths c_q2) := by
  intro fu
  induction fu with
  | zero => intro v3 v4 v5 v6 h; exact absurd (show (none : Option (Int32)) = some z from h) (by simp)
  | succ fu ih =>
    intro v3 v4 v5 v6 h
    have h : (if c_size ≤ v6 then some v3 else Option.bind (f_X8_get 5 c_order v6) fun z_2 => Option.bind (f_X9_between c_ways_lengths v5 z_2) fun z_3 => nam (v4 + z_3) fun v4_4 => Option.bind (f_X8_get n_q2 c_q2 z_2) fun z_5 => nam (v3 + ((z_5 + 1) * v4_4)) fun v3_6 => nam (v6 + 1) fun v6_7 => (f_X7_riskOfOrder_b11 n_q2 c_size c_order c_ways_lengths c_q2 fu) v3_6 v4_4 z_2 v6_7 : Option (Int32)) = some z := h
    refine g_iload X 5 rfl dX7_riskOfOrder_11 rfl ?_
    refine g_aload_n X 0 rfl rfl dX7_riskOfOrder_13 rfl ?_
    refine g_getf (C := RX7) (T := TX7) (N := 5) (v := .int c_size) X 0 rfl vc_X7 3 (by decide) iw_X7_riskOfOrder_X7 fl_X7_riskOfOrder_X7_3 rfl rfl dX7_riskOfOrder_14 rfl ?_
    refine g_icmp_ge (tgt := 71) X dX7_riskOfOrder_17 (by decide) rfl h (fun c_1 h => ?_) (fun c_1 h => ?_)
    · refine g_iload_n X 2 rfl rfl dX7_riskOfOrder_71 rfl ?_
      cases Option.some.inj h
      exact hret _ _ dX7_riskOfOrder_72 rfl
    · refine g_aload_n X 0 rfl rfl dX7_riskOfOrder_20 rfl ?_
      refine g_getf (C := RX7) (T := TX7) (N := 5) (v := .ref a_order) X 0 rfl vc_X7 2 (by decide) iw_X7_riskOfOrder_X7 fl_X7_riskOfOrder_X7_2 rfl rfl dX7_riskOfOrder_21 rfl ?_
      refine g_iload X 5 rfl dX7_riskOfOrder_24 rfl ?_
      obtain ⟨z_2, hz_2, h⟩ := bnd_s h
      refine g_callVI (rm := rm_X8_get) (As := [.int v6]) (r := z_2) (W0 := (w_X8_get cA a_order a_order_cells 5 c_order)) (W1 := (w_X8_get cA a_order a_order_cells 5 c_order)) (isC := [1, 2]) (isR := [0, 3, 4, 5, 6, 7]) (perm := [0, 6, 7, 1, 2, 3, 4, 5]) (ws' := (w_X7_riskOfOrder cA a_me a_q2 a_best a_order a_ways a_order_cells a_ways_lengths a_ways_lengths_cells a_q2_cells u_leastRisk n_q2 c_size c_order c_ways_lengths c_q2)) X (c_X8_get l D cA a_order a_order_cells 5 c_order v6 _ hz_2) 1 rfl rfl rfl gX7_riskOfOrder_X8_get rfl rfl rfl ⟨rfl, hd_X8_get⟩ ⟨Nat.le_of_ble_eq_true rfl, Nat.le_of_ble_eq_true rfl⟩ rfl rfl (Nat.le_of_ble_eq_true rfl) rfl (by decide) rfl (by decide) (by decide) ⟨Nat.zero_le _, Nat.zero_le _⟩ rfl (by decide) dX7_riskOfOrder_26 rfl ?_
      refine g_istore (lv' := [(7, .int z_2), (0, .ref a_me), (2, .ref a_q2), (3, .int v3), (4, .int v4), (5, .int v5), (6, .int v6)]) X (by decide) rfl dX7_riskOfOrder_29 rfl ?_
      refine g_iload X 4 rfl dX7_riskOfOrder_31 rfl ?_
      refine g_aload_n X 1 rfl rfl dX7_riskOfOrder_33 rfl ?_
      refine g_getf (C := RX7) (T := TX7) (N := 5) (v := .ref a_ways) X 0 rfl vc_X7 4 (by decide) iw_X7_riskOfOrder_X7 fl_X7_riskOfOrder_X7_4 rfl rfl dX7_riskOfOrder_34 rfl ?_
      refine g_iload X 5 rfl dX7_riskOfOrder_37 rfl ?_
      refine g_iload X 0 rfl dX7_riskOfOrder_39 rfl ?_
      obtain ⟨z_3, hz_3, h⟩ := bnd_s h
      refine g_callVI (rm := rm_X9_between) (As := [.int v5, .int z_2]) (r := z_3) (W0 := (w_X9_between cA a_ways a_ways_lengths a_ways_lengths_cells c_ways_lengths)) (W1 := (w_X9_between cA a_ways a_ways_lengths a_ways_lengths_cells c_ways_lengths)) (isC := [3, 4, 5]) (isR := [0, 1, 2, 6, 7]) (perm := [0, 1, 2, 5, 6, 7, 3, 4]) (ws' := (w_X7_riskOfOrder cA a_me a_q2 a_best a_order a_ways a_order_cells a_ways_lengths a_ways_lengths_cells a_q2_cells u_leastRisk n_q2 c_size c_order c_ways_lengths c_q2)) X (c_X9_between l D cA a_ways a_ways_lengths a_ways_lengths_cells c_ways_lengths v5 z_2 _ hz_3) 3 rfl rfl rfl gX7_riskOfOrder_X9_between rfl rfl rfl ⟨rfl, hd_X9_between⟩ ⟨Nat.le_of_ble_eq_true rfl, Nat.le_of_ble_eq_true rfl⟩ rfl rfl (Nat.le_of_ble_eq_true rfl) rfl (by decide) rfl (by decide) (by decide) ⟨Nat.zero_le _, Nat.zero_le _⟩ rfl (by decide) dX7_riskOfOrder_41 rfl ?_
      refine g_iadd X dX7_riskOfOrder_44 rfl ?_
      refine g_nami h (fun v4_4 h => ?_)
      refine g_istore (lv' := [(4, .int v4_4), (7, .int z_2), (0, .ref a_me), (2, .ref a_q2), (3, .int v3), (5, .int v5), (6, .int v6)]) X (by decide) rfl dX7_riskOfOrder_45 rfl ?_
      refine g_iload_n X 4 rfl rfl dX7_riskOfOrder_47 rfl ?_
      refine g_aload_n X 3 rfl rfl dX7_riskOfOrder_48 rfl ?_
      refine g_iload X 1 rfl dX7_riskOfOrder_49 rfl ?_
      obtain ⟨z_5, hz_5, h⟩ := bnd_s h
      refine g_callVI (rm := rm_X8_get) (As := [.int z_2]) (r := z_5) (W0 := (w_X8_get cA a_q2 a_q2_cells n_q2 c_q2)) (W1 := (w_X8_get cA a_q2 a_q2_cells n_q2 c_q2)) (isC := [6, 7]) (isR := [0, 1, 2, 3, 4, 5]) (perm := [0, 1, 2, 3, 4, 5, 6, 7]) (ws' := (w_X7_riskOfOrder cA a_me a_q2 a_best a_order a_ways a_order_cells a_ways_lengths a_ways_lengths_cells a_q2_cells u_leastRisk n_q2 c_size c_order c_ways_lengths c_q2)) X (c_X8_get l D cA a_q2 a_q2_cells n_q2 c_q2 z_2 _ hz_5) 6 rfl rfl rfl gX7_riskOfOrder_X8_get rfl rfl rfl ⟨rfl, hd_X8_get⟩ ⟨Nat.le_of_ble_eq_true rfl, Nat.le_of_ble_eq_true rfl⟩ rfl rfl (Nat.le_of_ble_eq_true rfl) rfl (by decide) rfl (by decide) (by decide) ⟨Nat.zero_le _, Nat.zero_le _⟩ rfl (by decide) dX7_riskOfOrder_51 rfl ?_
      refine g_iconst (v := 1) X dX7_riskOfOrder_54 (by decide) rfl ?_
      refine g_iadd X dX7_riskOfOrder_55 rfl ?_
      refine g_iload X 0 rfl dX7_riskOfOrder_56 rfl ?_
      refine g_imul X dX7_riskOfOrder_58 rfl ?_
      refine g_iadd X dX7_riskOfOrder_59 rfl ?_
      refine g_nami h (fun v3_6 h => ?_)
      refine g_istore_n (lv' := [(3, .int v3_6), (4, .int v4_4), (7, .int z_2), (0, .ref a_me), (2, .ref a_q2), (5, .int v5), (6, .int v6)]) X rfl (by decide) rfl dX7_riskOfOrder_60 rfl ?_
      refine g_iload X 2 rfl dX7_riskOfOrder_61 rfl ?_
      refine g_istore (lv' := [(5, .int z_2), (3, .int v3_6), (4, .int v4_4), (7, .int z_2), (0, .ref a_me), (2, .ref a_q2), (6, .int v6)]) X (by decide) rfl dX7_riskOfOrder_63 rfl ?_
      obtain ⟨v6_7, ev6_7, h⟩ := nam_s h
      refine g_iinc (v := v6_7) (lv' := [(6, .int v6_7), (5, .int z_2), (3, .int v3_6), (4, .int v4_4), (7, .int z_2), (0, .ref a_me), (2, .ref a_q2)]) X 6 rfl (by rw [ev6_7]; rfl) (by decide) rfl dX7_riskOfOrder_65 rfl ?_
      refine g_goto (tgt := 11) X dX7_riskOfOrder_68 (by decide) ?_
      refine g_lvs [5, 6, 2, 3, 1, 0] rfl ?_
      exact ih _ _ _ _ h
set_option maxHeartbeats 4000000 in
set_option maxRecDepth 100000 in
theorem c_X7_riskOfOrder (l : Launch) (D : va_G) (cA : ClassId) (a_me a_q2 a_best a_order a_ways a_order_cells a_ways_lengths a_ways_lengths_cells a_q2_cells : Nat) (u_leastRisk : Int32) (n_q2 : Nat) (c_size : Int32) (c_order : A32) (c_ways_lengths : A32) (c_q2 : A32) (v1 : Int32) (z : Int32) (h : f_X7_riskOfOrder n_q2 c_size c_order c_ways_lengths c_q2 v1 = some z) : CtI l yX7_riskOfOrder wsX7_riskOfOrder rm_X7_riskOfOrder D cA [.ref a_me, .int v1, .ref a_q2] (w_X7_riskOfOrder cA a_me a_q2 a_best a_order a_ways a_order_cells a_ways_lengths a_ways_lengths_cells a_q2_cells u_leastRisk n_q2 c_size c_order c_ways_lengths c_q2) z (w_X7_riskOfOrder cA a_me a_q2 a_best a_order a_ways a_order_cells a_ways_lengths a_ways_lengths_cells a_q2_cells u_leastRisk n_q2 c_size c_order c_ways_lengths c_q2) := by
  refine ct_I (maxL := 8) (ty := .int) (cc := cX7_riskOfOrder) (by decide) rfl (Nat.le_of_ble_eq_true rfl) rfl (fun p e s m args below meth c A Q X hret => ?_)
  have h : (f_X7_riskOfOrder_b11 n_q2 c_size c_order c_ways_lengths c_q2 FU 0 0 v1 0 : Option (Int32)) = some z := h
  refine g_iconst (v := 0) X dX7_riskOfOrder_0 (by decide) rfl ?_
  refine g_istore_n (lv' := [(3, .int 0), (0, .ref a_me), (1, .int v1), (2, .ref a_q2)]) X rfl (by decide) rfl dX7_riskOfOrder_1 rfl ?_
  refine g_iconst (v := 0) X dX7_riskOfOrder_2 (by decide) rfl ?_
  refine g_istore (lv' := [(4, .int 0), (3, .int 0), (0, .ref a_me), (1, .int v1), (2, .ref a_q2)]) X (by decide) rfl dX7_riskOfOrder_3 rfl ?_
  refine g_iload_n X 3 rfl rfl dX7_riskOfOrder_5 rfl ?_
  refine g_istore (lv' := [(5, .int v1), (4, .int 0), (3, .int 0), (0, .ref a_me), (1, .int v1), (2, .ref a_q2)]) X (by decide) rfl dX7_riskOfOrder_6 rfl ?_
  refine g_iconst (v := 0) X dX7_riskOfOrder_8 (by decide) rfl ?_
  refine g_istore (lv' := [(6, .int 0), (5, .int v1), (4, .int 0), (3, .int 0), (0, .ref a_me), (1, .int v1), (2, .ref a_q2)]) X (by decide) rfl dX7_riskOfOrder_9 rfl ?_
  refine g_lvs [4, 6, 3, 2, 1, 0] rfl ?_
  exact t_X7_riskOfOrder_b11 X hret _ _ _ _ _ h
abbrev rm_X7_swap : Room := { frames := 1, cells := 0, slots := 0, locals := 22 }
abbrev w_X7_swap (cA : ClassId) (a_me a_best a_order a_ways a_order_cells : Nat) (u_leastRisk : Int32) (u_size : Int32) (c_order : A32) : va_W := [(a_me, .inr (7, [.ref a_best, .int u_leastRisk, .ref a_order, .int u_size, .ref a_ways])), (a_order, .inr (8, [.ref a_order_cells])), (a_order_cells, .inl (cA, 5, .inl c_order))]
theorem hd_X7_swap : yX7_swap.cls ≠ "java/lang/invoke/MethodHandle" ∧ yX7_swap.cls ≠ "java/lang/invoke/VarHandle" ∧ (parseMethodDescriptor yX7_swap.desc).map (fun d => d.parameters.length) = some 2 := by decide +kernel
theorem iw_X7_swap_X7 : ∀ w ∈ wsX70, w ∈ wsX7_swap := fun w h => List.mem_cons_of_mem _ (List.mem_append_left _ (List.mem_append_right _ h))
theorem fl_X7_swap_X7_2 : Cond.fieldLink RX7 20 RX7 (TX7 2).2.1 (TX7 2).2.2.1 ∈ wsX7_swap := List.mem_of_getElem? (i := 1) rfl
set_option maxHeartbeats 4000000 in
set_option maxRecDepth 100000 in
theorem c_X7_swap (l : Launch) (D : va_G) (cA : ClassId) (a_me a_best a_order a_ways a_order_cells : Nat) (u_leastRisk : Int32) (u_size : Int32) (c_order : A32) (v1 : Int32) (v2 : Int32) (z : A32) (h : f_X7_swap c_order v1 v2 = some z) : CtV l yX7_swap wsX7_swap rm_X7_swap D cA [.ref a_me, .int v1, .int v2] (w_X7_swap cA a_me a_best a_order a_ways a_order_cells u_leastRisk u_size c_order) Unit (fun _ => (w_X7_swap cA a_me a_best a_order a_ways a_order_cells u_leastRisk u_size z)) 0 0 := by
  refine ct_V (maxL := 4) (cc := cX7_swap) (by decide) rfl (Nat.le_of_ble_eq_true rfl) rfl (fun p e s m args below meth c A Q X _ hret => ?_)
  have hret := hret ()
  have h : (Option.bind (f_X8_get 5 c_order v1) fun z_1 => Option.bind (f_X8_get 5 c_order v2) fun z_2 => Option.bind (f_X8_set 5 c_order v1 z_2) fun z_3 => Option.bind (f_X8_set 5 z_3 v2 z_1) fun z_4 => some z_4 : Option (A32)) = some z := h
  refine g_aload_n X 0 rfl rfl dX7_swap_0 rfl ?_
  refine g_getf (C := RX7) (T := TX7) (N := 5) (v := .ref a_order) X 0 rfl vc_X7 2 (by decide) iw_X7_swap_X7 fl_X7_swap_X7_2 rfl rfl dX7_swap_1 rfl ?_
  refine g_iload_n X 1 rfl rfl dX7_swap_4 rfl ?_
  obtain ⟨z_1, hz_1, h⟩ := bnd_s h
  refine g_callVI (rm := rm_X8_get) (As := [.int v1]) (r := z_1) (W0 := (w_X8_get cA a_order a_order_cells 5 c_order)) (W1 := (w_X8_get cA a_order a_order_cells 5 c_order)) (isC := [1, 2]) (isR := [0]) (perm := [0, 1, 2]) (ws' := (w_X7_swap cA a_me a_best a_order a_ways a_order_cells u_leastRisk u_size c_order)) X (c_X8_get l D cA a_order a_order_cells 5 c_order v1 _ hz_1) 1 rfl rfl rfl gX7_swap_X8_get rfl rfl rfl ⟨rfl, hd_X8_get⟩ ⟨Nat.le_of_ble_eq_true rfl, Nat.le_of_ble_eq_true rfl⟩ rfl rfl (Nat.le_of_ble_eq_true rfl) rfl (by decide) rfl (by decide) (by decide) ⟨Nat.zero_le _, Nat.zero_le _⟩ rfl (by decide) dX7_swap_5 rfl ?_
  refine g_istore_n (lv' := [(3, .int z_1), (0, .ref a_me), (1, .int v1), (2, .int v2)]) X rfl (by decide) rfl dX7_swap_8 rfl ?_
  refine g_aload_n X 1 rfl rfl dX7_swap_9 rfl ?_
  refine g_getf (C := RX7) (T := TX7) (N := 5) (v := .ref a_order) X 0 rfl vc_X7 2 (by decide) iw_X7_swap_X7 fl_X7_swap_X7_2 rfl rfl dX7_swap_10 rfl ?_
  refine g_iload_n X 2 rfl rfl dX7_swap_13 rfl ?_
  refine g_aload_n X 1 rfl rfl dX7_swap_14 rfl ?_
  refine g_getf (C := RX7) (T := TX7) (N := 5) (v := .ref a_order) X 0 rfl vc_X7 2 (by decide) iw_X7_swap_X7 fl_X7_swap_X7_2 rfl rfl dX7_swap_15 rfl ?_
  refine g_iload_n X 3 rfl rfl dX7_swap_18 rfl ?_
  obtain ⟨z_2, hz_2, h⟩ := bnd_s h
  refine g_callVI (rm := rm_X8_get) (As := [.int v2]) (r := z_2) (W0 := (w_X8_get cA a_order a_order_cells 5 c_order)) (W1 := (w_X8_get cA a_order a_order_cells 5 c_order)) (isC := [1, 2]) (isR := [0]) (perm := [0, 1, 2]) (ws' := (w_X7_swap cA a_me a_best a_order a_ways a_order_cells u_leastRisk u_size c_order)) X (c_X8_get l D cA a_order a_order_cells 5 c_order v2 _ hz_2) 1 rfl rfl rfl gX7_swap_X8_get rfl rfl rfl ⟨rfl, hd_X8_get⟩ ⟨Nat.le_of_ble_eq_true rfl, Nat.le_of_ble_eq_true rfl⟩ rfl rfl (Nat.le_of_ble_eq_true rfl) rfl (by decide) rfl (by decide) (by decide) ⟨Nat.zero_le _, Nat.zero_le _⟩ rfl (by decide) dX7_swap_19 rfl ?_
  obtain ⟨z_3, hz_3, h⟩ := bnd_s h
  refine g_callVV (rm := rm_X8_set) (As := [.int v1, .int z_2]) (W0 := (w_X8_set cA a_order a_order_cells 5 c_order)) (W1 := (w_X8_set cA a_order a_order_cells 5 z_3)) (isC := [1, 2]) (isR := [0]) (perm := [0, 1, 2]) (ws' := (w_X7_swap cA a_me a_best a_order a_ways a_order_cells u_leastRisk u_size z_3)) X (c_X8_set l D cA a_order a_order_cells 5 c_order v1 z_2 _ hz_3) 1 rfl rfl rfl gX7_swap_X8_set rfl rfl rfl ⟨rfl, hd_X8_set⟩ ⟨Nat.le_of_ble_eq_true rfl, Nat.le_of_ble_eq_true rfl⟩ rfl rfl (Nat.le_of_ble_eq_true rfl) rfl (by decide) rfl (by decide) (by decide) ⟨Nat.zero_le _, Nat.zero_le _⟩ rfl (by decide) dX7_swap_22 rfl ?_
  refine g_aload_n X 1 rfl rfl dX7_swap_25 rfl ?_
  refine g_getf (C := RX7) (T := TX7) (N := 5) (v := .ref a_order) X 0 rfl vc_X7 2 (by decide) iw_X7_swap_X7 fl_X7_swap_X7_2 rfl rfl dX7_swap_26 rfl ?_
  refine g_iload_n X 3 rfl rfl dX7_swap_29 rfl ?_
  refine g_iload_n X 0 rfl rfl dX7_swap_30 rfl ?_
  obtain ⟨z_4, hz_4, h⟩ := bnd_s h
  refine g_callVV (rm := rm_X8_set) (As := [.int v2, .int z_1]) (W0 := (w_X8_set cA a_order a_order_cells 5 z_3)) (W1 := (w_X8_set cA a_order a_order_cells 5 z_4)) (isC := [1, 2]) (isR := [0]) (perm := [0, 1, 2]) (ws' := (w_X7_swap cA a_me a_best a_order a_ways a_order_cells u_leastRisk u_size z_4)) X (c_X8_set l D cA a_order a_order_cells 5 z_3 v2 z_1 _ hz_4) 1 rfl rfl rfl gX7_swap_X8_set rfl rfl rfl ⟨rfl, hd_X8_set⟩ ⟨Nat.le_of_ble_eq_true rfl, Nat.le_of_ble_eq_true rfl⟩ rfl rfl (Nat.le_of_ble_eq_true rfl) rfl (by decide) rfl (by decide) (by decide) ⟨Nat.zero_le _, Nat.zero_le _⟩ rfl (by decide) dX7_swap_31 rfl ?_
  cases Option.some.inj h
  exact hret _ _ dX7_swap_34
abbrev rm_X7_stepOrder : Room := { frames := 2, cells := 0, slots := 0, locals := 45 }
abbrev w_X7_stepOrder (cA : ClassId) (a_me a_best a_order a_ways a_order_cells : Nat) (u_leastRisk : Int32) (c_size : Int32) (c_order : A32) : va_W := [(a_me, .inr (7, [.ref a_best, .int u_leastRisk, .ref a_order, .int c_size, .ref a_ways])), (a_order, .inr (8, [.ref a_order_cells])), (a_order_cells, .inl (cA, 5, .inl c_order))]
theorem hd_X7_stepOrder : yX7_stepOrder.cls ≠ "java/lang/invoke/MethodHandle" ∧ yX7_stepOrder.cls ≠ "java/lang/invoke/VarHandle" ∧ (parseMethodDescriptor yX7_stepOrder.desc).map (fun d => d.parameters.length) = some 0 := by decide +kernel
theorem iw_X7_stepOrder_X7 : ∀ w ∈ wsX70, w ∈ wsX7_stepOrder := fun w h => List.mem_cons_of_mem _ (List.mem_append_left _ (List.mem_append_right _ h))
theorem fl_X7_stepOrder_X7_3 : Cond.fieldLink RX7 94 RX7 (TX7 3).2.1 (TX7 3).2.2.1 ∈ wsX7_stepOrder := List.mem_of_getElem? (i := 1) rfl
theorem fl_X7_stepOrder_X7_2 : Cond.fieldLink RX7 20 RX7 (TX7 2).2.1 (TX7 2).2.2.1 ∈ wsX7_stepOrder := List.mem_of_getElem? (i := 2) rfl
set_option maxHeartbeats 4000000 in
set_option maxRecDepth 100000 in
theorem t_X7_stepOrder_b99 {l : Launch} {D : va_G} {cA : ClassId} {p : Program} {e : Env} {s : State} {m : MethodId} {args : Array Value} {below : List Frame} {meth : Method} {c : Code} {A : Nat → Prop} {Q : State → Prop} {z : Int32 × A32} {a_me a_best a_order a_ways a_order_cells : Nat} {u_leastRisk : Int32} {c_size : Int32}   (X : GX p s m args c cX7_stepOrder RX7 wsX7_stepOrder D cA A 5) (hret : RtI p l e rm_X7_stepOrder s m args below meth c cX7_stepOrder D A 5 0 0 Q .boolean z.1 (w_X7_stepOrder cA a_me a_best a_order a_ways a_order_cells u_leastRisk c_size z.2))  : ∀ (fu : Nat) (c_order : A32) (v3 : Int32) (v4 : Int32), f_X7_stepOrder_b99  fu c_order v3 v4 = some z → G p l e rm_X7_stepOrder s m args below meth c D A 5 0 0 Q 99 [(0, .ref a_me), (3, .int v3), (4, .int v4)] [] (w_X7_stepOrder cA a_me a_best a_order a_ways a_order_cells u_leastRisk c_size c_order) := by
  intro fu
  induction fu with
  | zero => intro c_order v3 v4 h; exact absurd (show (none : Option (Int32 × A32)) = some z from h) (by simp)
  | succ fu ih =>
    intro c_order v3 v4 h
    have h : (if v4 ≤ v3 then some (1, c_order) else Option.bind (f_X7_swap c_order v3 v4) fun z_2 => nam (v3 + 1) fun v3_3 => nam (v4 + (-1)) fun v4_4 => (f_X7_stepOrder_b99  fu) z_2 v3_3 v4_4 : Option (Int32 × A32)) = some z := h
    refine g_iload_n X 1 rfl rfl dX7_stepOrder_99 rfl ?_
    refine g_iload X 2 rfl dX7_stepOrder_100 rfl ?_
    refine g_icmp_ge (tgt := 121) X dX7_stepOrder_102 (by decide) rfl h (fun c_1 h => ?_) (fun c_1 h => ?_)
    · refine g_iconst (v := 1) X dX7_stepOrder_121 (by decide) rfl ?_
      cases Option.some.inj h
      exact hret _ _ dX7_stepOrder_122 (nar_z (Or.inr rfl))
    · refine g_aload_n X 0 rfl rfl dX7_stepOrder_105 rfl ?_
      refine g_iload_n X 1 rfl rfl dX7_stepOrder_106 rfl ?_
      refine g_iload X 2 rfl dX7_stepOrder_107 rfl ?_
      obtain ⟨z_2, hz_2, h⟩ := bnd_s h
      refine g_callVV (rm := rm_X7_swap) (As := [.int v3, .int v4]) (W0 := (w_X7_swap cA a_me a_best a_order a_ways a_order_cells u_leastRisk c_size c_order)) (W1 := (w_X7_swap cA a_me a_best a_order a_ways a_order_cells u_leastRisk c_size z_2)) (isC := [0, 1, 2]) (isR := []) (perm := [0, 1, 2]) (ws' := (w_X7_stepOrder cA a_me a_best a_order a_ways a_order_cells u_leastRisk c_size z_2)) X (c_X7_swap l D cA a_me a_best a_order a_ways a_order_cells u_leastRisk c_size c_order v3 v4 _ hz_2) 0 rfl rfl rfl gX7_stepOrder_X7_swap rfl rfl rfl ⟨rfl, hd_X7_swap⟩ ⟨Nat.le_of_ble_eq_true rfl, Nat.le_of_ble_eq_true rfl⟩ rfl rfl (Nat.le_of_ble_eq_true rfl) rfl (by decide) rfl (by decide) (by decide) ⟨Nat.zero_le _, Nat.zero_le _⟩ rfl (by decide) dX7_stepOrder_109 rfl ?_
      obtain ⟨v3_3, ev3_3, h⟩ := nam_s h
      refine g_iinc (v := v3_3) (lv' := [(3, .int v3_3), (0, .ref a_me), (4, .int v4)]) X 1 rfl (by rw [ev3_3]; rfl) (by decide) rfl dX7_stepOrder_112 rfl ?_
      obtain ⟨v4_4, ev4_4, h⟩ := nam_s h
      refine g_iinc (v := v4_4) (lv' := [(4, .int v4_4), (3, .int v3_3), (0, .ref a_me)]) X 2 rfl (by rw [ev4_4]; rfl) (by decide) rfl dX7_stepOrder_115 rfl ?_
      refine g_goto (tgt := 99) X dX7_stepOrder_118 (by decide) ?_
      refine g_lvs [2, 1, 0] rfl ?_
      exact ih _ _ _ h
set_option maxHeartbeats 4000000 in
set_option maxRecDepth 100000 in
theorem t_X7_stepOrder_b81 {l : Launch} {D : va_G} {cA : ClassId} {p : Program} {e : Env} {s : State} {m : MethodId} {args : Array Value} {below : List Frame} {meth : Method} {c : Code} {A : Nat → Prop} {Q : State → Prop} {z : Int32 × A32} {a_me a_best a_order a_ways a_order_cells : Nat} {u_leastRisk : Int32}  {c_size : Int32} {c_order : A32} {v1 : Int32} {v2 : Int32}  (X : GX p s m args c cX7_stepOrder RX7 wsX7_stepOrder D cA A 5) (hret : RtI p l e rm_X7_stepOrder s m args below meth c cX7_stepOrder D A 5 0 0 Q .boolean z.1 (w_X7_stepOrder cA a_me a_best a_order a_ways a_order_cells u_leastRisk c_size z.2))  (h : f_X7_stepOrder_b81 c_size c_order v1 v2 = some z) : G p l e rm_X7_stepOrder s m args below meth c D A 5 0 0 Q 81 [(0, .ref a_me), (1, .int v1), (2, .int v2)] [] (w_X7_stepOrder cA a_me a_best a_order a_ways a_order_cells u_leastRisk c_size c_order) := by
  have h : (Option.bind (f_X7_swap c_order v1 v2) fun z_1 => nam (v1 + 1) fun v3_2 => nam (c_size - 1) fun v4_3 => f_X7_stepOrder_b99 FU z_1 v3_2 v4_3 : Option (Int32 × A32)) = some z := h
  refine g_aload_n X 0 rfl rfl dX7_stepOrder_81 rfl ?_
  refine g_iload_n X 1 rfl rfl dX7_stepOrder_82 rfl ?_
  refine g_iload_n X 2 rfl rfl dX7_stepOrder_83 rfl ?_
  obtain ⟨z_1, hz_1, h⟩ := bnd_s h
  refine g_callVV (rm := rm_X7_swap) (As := [.int v1, .int v2]) (W0 := (w_X7_swap cA a_me a_best a_order a_ways a_order_cells u_leastRisk c_size c_order)) (W1 := (w_X7_swap cA a_me a_best a_order a_ways a_order_cells u_leastRisk c_size z_1)) (isC := [0, 1, 2]) (isR := []) (perm := [0, 1, 2]) (ws' := (w_X7_stepOrder cA a_me a_best a_order a_ways a_order_cells u_leastRisk c_size z_1)) X (c_X7_swap l D cA a_me a_best a_order a_ways a_order_cells u_leastRisk c_size c_order v1 v2 _ hz_1) 0 rfl rfl rfl gX7_stepOrder_X7_swap rfl rfl rfl ⟨rfl, hd_X7_swap⟩ ⟨Nat.le_of_ble_eq_true rfl, Nat.le_of_ble_eq_true rfl⟩ rfl rfl (Nat.le_of_ble_eq_true rfl) rfl (by decide) rfl (by decide) (by decide) ⟨Nat.zero_le _, Nat.zero_le _⟩ rfl (by decide) dX7_stepOrder_84 rfl ?_
  refine g_iload_n X 1 rfl rfl dX7_stepOrder_87 rfl ?_
  refine g_iconst (v := 1) X dX7_stepOrder_88 (by decide) rfl ?_
  refine g_iadd X dX7_stepOrder_89 rfl ?_
  refine g_nami h (fun v3_2 h => ?_)
  refine g_istore_n (lv' := [(3, .int v3_2), (0, .ref a_me), (1, .int v1), (2, .int v2)]) X rfl (by decide) rfl dX7_stepOrder_90 rfl ?_
  refine g_aload_n X 1 rfl rfl dX7_stepOrder_91 rfl ?_
  refine g_getf (C := RX7) (T := TX7) (N := 5) (v := .int c_size) X 0 rfl vc_X7 3 (by decide) iw_X7_stepOrder_X7 fl_X7_stepOrder_X7_3 rfl rfl dX7_stepOrder_92 rfl ?_
  refine g_iconst (v := 1) X dX7_stepOrder_95 (by decide) rfl ?_
  refine g_isub X dX7_stepOrder_96 rfl ?_
  refine g_nami h (fun v4_3 h => ?_)
  refine g_istore (lv' := [(4, .int v4_3), (3, .int v3_2), (0, .ref a_me), (1, .int v1), (2, .int v2)]) X (by decide) rfl dX7_stepOrder_97 rfl ?_
  refine g_lvs [2, 1, 0] rfl ?_
  exact t_X7_stepOrder_b99 X hret _ _ _ _ h
set_option maxHeartbeats 4000000 in
set_option maxRecDepth 100000 in
theorem t_X7_stepOrder_b51 {l : Launch} {D : va_G} {cA : ClassId} {p : Program} {e : Env} {s : State} {m : MethodId} {args : Array Value} {below : List Frame} {meth : Method} {c : Code} {A : Nat → Prop} {Q : State → Prop} {z : Int32 × A32} {a_me a_best a_order a_ways a_order_cells : Nat} {u_leastRisk : Int32}  {c_size : Int32} {c_order : A32} {v1 : Int32}  (X : GX p s m args c cX7_stepOrder RX7 wsX7_stepOrder D cA A 5) (hret : RtI p l e rm_X7_stepOrder s m args below meth c cX7_stepOrder D A 5 0 0 Q .boolean z.1 (w_X7_stepOrder cA a_me a_best a_order a_ways a_order_cells u_leastRisk c_size z.2))  : ∀ (fu : Nat) (v2 : Int32), f_X7_stepOrder_b51 c_size c_order v1 fu v2 = some z → G p l e rm_X7_stepOrder s m args below meth c D A 5 0 0 Q 51 [(0, .ref a_me), (1, .int v1), (2, .int v2)] [] (w_X7_stepOrder cA a_me a_best a_order a_ways a_order_cells u_leastRisk c_size c_order) := by
  intro fu
  induction fu with
  | zero => intro v2 h; exact absurd (show (none : Option (Int32 × A32)) = some z from h) (by simp)
  | succ fu ih =>
    intro v2 h
    have h : (if v2 ≤ v1 then f_X7_stepOrder_b81 c_size c_order v1 v2 else Option.bind (f_X8_get 5 c_order v2) fun z_2 => Option.bind (f_X8_get 5 c_order v1) fun z_3 => if z_3 ≤ z_2 then f_X7_stepOrder_b81 c_size c_order v1 v2 else nam (v2 + (-1)) fun v2_5 => (f_X7_stepOrder_b51 c_size c_order v1 fu) v2_5 : Option (Int32 × A32)) = some z := h
    refine g_iload_n X 2 rfl rfl dX7_stepOrder_51 rfl ?_
    refine g_iload_n X 1 rfl rfl dX7_stepOrder_52 rfl ?_
    refine g_icmp_le (tgt := 81) X dX7_stepOrder_53 (by decide) rfl h (fun c_1 h => ?_) (fun c_1 h => ?_)
    · exact t_X7_stepOrder_b81 X hret h
    · refine g_aload_n X 0 rfl rfl dX7_stepOrder_56 rfl ?_
      refine g_getf (C := RX7) (T := TX7) (N := 5) (v := .ref a_order) X 0 rfl vc_X7 2 (by decide) iw_X7_stepOrder_X7 fl_X7_stepOrder_X7_2 rfl rfl dX7_stepOrder_57 rfl ?_
      refine g_iload_n X 2 rfl rfl dX7_stepOrder_60 rfl ?_
      obtain ⟨z_2, hz_2, h⟩ := bnd_s h
      refine g_callVI (rm := rm_X8_get) (As := [.int v2]) (r := z_2) (W0 := (w_X8_get cA a_order a_order_cells 5 c_order)) (W1 := (w_X8_get cA a_order a_order_cells 5 c_order)) (isC := [1, 2]) (isR := [0]) (perm := [0, 1, 2]) (ws' := (w_X7_stepOrder cA a_me a_best a_order a_ways a_order_cells u_leastRisk c_size c_order)) X (c_X8_get l D cA a_order a_order_cells 5 c_order v2 _ hz_2) 1 rfl rfl rfl gX7_stepOrder_X8_get rfl rfl rfl ⟨rfl, hd_X8_get⟩ ⟨Nat.le_of_ble_eq_true rfl, Nat.le_of_ble_eq_true rfl⟩ rfl rfl (Nat.le_of_ble_eq_true rfl) rfl (by decide) rfl (by decide) (by decide) ⟨Nat.zero_le _, Nat.zero_le _⟩ rfl (by decide) dX7_stepOrder_61 rfl ?_
      refine g_aload_n X 0 rfl rfl dX7_stepOrder_64 rfl ?_
      refine g_getf (C := RX7) (T := TX7) (N := 5) (v := .ref a_order) X 0 rfl vc_X7 2 (by decide) iw_X7_stepOrder_X7 fl_X7_stepOrder_X7_2 rfl rfl dX7_stepOrder_65 rfl ?_
      refine g_iload_n X 1 rfl rfl dX7_stepOrder_68 rfl ?_
      obtain ⟨z_3, hz_3, h⟩ := bnd_s h
      refine g_callVI (rm := rm_X8_get) (As := [.int v1]) (r := z_3) (W0 := (w_X8_get cA a_order a_order_cells 5 c_order)) (W1 := (w_X8_get cA a_order a_order_cells 5 c_order)) (isC := [1, 2]) (isR := [0]) (perm := [0, 1, 2]) (ws' := (w_X7_stepOrder cA a_me a_best a_order a_ways a_order_cells u_leastRisk c_size c_order)) X (c_X8_get l D cA a_order a_order_cells 5 c_order v1 _ hz_3) 1 rfl rfl rfl gX7_stepOrder_X8_get rfl rfl rfl ⟨rfl, hd_X8_get⟩ ⟨Nat.le_of_ble_eq_true rfl, Nat.le_of_ble_eq_true rfl⟩ rfl rfl (Nat.le_of_ble_eq_true rfl) rfl (by decide) rfl (by decide) (by decide) ⟨Nat.zero_le _, Nat.zero_le _⟩ rfl (by decide) dX7_stepOrder_69 rfl ?_
      refine g_icmp_ge (tgt := 81) X dX7_stepOrder_72 (by decide) rfl h (fun c_4 h => ?_) (fun c_4 h => ?_)
      · exact t_X7_stepOrder_b81 X hret h
      · obtain ⟨v2_5, ev2_5, h⟩ := nam_s h
        refine g_iinc (v := v2_5) (lv' := [(2, .int v2_5), (0, .ref a_me), (1, .int v1)]) X 2 rfl (by rw [ev2_5]; rfl) (by decide) rfl dX7_stepOrder_75 rfl ?_
        refine g_goto (tgt := 51) X dX7_stepOrder_78 (by decide) ?_
        refine g_lvs [1, 2, 0] rfl ?_
        exact ih _ h
set_option maxHeartbeats 4000000 in
set_option maxRecDepth 100000 in
theorem t_X7_stepOrder_b38 {l : Launch} {D : va_G} {cA : ClassId} {p : Program} {e : Env} {s : State} {m : MethodId} {args : Array Value} {below : List Frame} {meth : Method} {c : Code} {A : Nat → Prop} {Q : State → Prop} {z : Int32 × A32} {a_me a_best a_order a_ways a_order_cells : Nat} {u_leastRisk : Int32}  {c_size : Int32} {c_order : A32} {v1 : Int32}  (X : GX p s m args c cX7_stepOrder RX7 wsX7_stepOrder D cA A 5) (hret : RtI p l e rm_X7_stepOrder s m args below meth c cX7_stepOrder D A 5 0 0 Q .boolean z.1 (w_X7_stepOrder cA a_me a_best a_order a_ways a_order_cells u_leastRisk c_size z.2))  (h : f_X7_stepOrder_b38 c_size c_order v1 = some z) : G p l e rm_X7_stepOrder s m args below meth c D A 5 0 0 Q 38 [(0, .ref a_me), (1, .int v1)] [] (w_X7_stepOrder cA a_me a_best a_order a_ways a_order_cells u_leastRisk c_size c_order) := by
  have h : (if 0 ≤ v1 then nam (c_size - 1) fun v2_2 => f_X7_stepOrder_b51 c_size c_order v1 FU v2_2 else some (0, c_order) : Option (Int32 × A32)) = some z := h
  refine g_iload_n X 1 rfl rfl dX7_stepOrder_38 rfl ?_
  refine g_if_ge (tgt := 44) X dX7_stepOrder_39 (by decide) rfl h (fun c_1 h => ?_) (fun c_1 h => ?_)
  · refine g_aload_n X 0 rfl rfl dX7_stepOrder_44 rfl ?_
    refine g_getf (C := RX7) (T := TX7) (N := 5) (v := .int c_size) X 0 rfl vc_X7 3 (by decide) iw_X7_stepOrder_X7 fl_X7_stepOrder_X7_3 rfl rfl dX7_stepOrder_45 rfl ?_
    refine g_iconst (v := 1) X dX7_stepOrder_48 (by decide) rfl ?_
    refine g_isub X dX7_stepOrder_49 rfl ?_
    refine g_nami h (fun v2_2 h => ?_)
    refine g_istore_n (lv' := [(2, .int v2_2), (0, .ref a_me), (1, .int v1)]) X rfl (by decide) rfl dX7_stepOrder_50 rfl ?_
    refine g_lvs [1, 2, 0] rfl ?_
    exact t_X7_stepOrder_b51 X hret _ _ h
  · refine g_iconst (v := 0) X dX7_stepOrder_42 (by decide) rfl ?_
    cases Option.some.inj h
    exact hret _ _ dX7_stepOrder_43 (nar_z (Or.inl rfl))
set_option maxHeartbeats 4000000 in
set_option maxRecDepth 100000 in
theorem t_X7_stepOrder_b7 {l : Launch} {D : va_G} {cA : ClassId} {p : Program} {e : Env} {s : State} {m : MethodId} {args : Array Value} {below : List Frame} {meth : Method} {c : Code} {A : Nat → Prop} {Q : State → Prop} {z : Int32 × A32} {a_me a_best a_order a_ways a_order_cells : Nat} {u_leastRisk : Int32}  {c_size : Int32} {c_order : A32}  (X : GX p s m args c cX7_stepOrder RX7 wsX7_stepOrder D cA A 5) (hret : RtI p l e rm_X7_stepOrder s m args below meth c cX7_stepOrder D A 5 0 0 Q .boolean z.1 (w_X7_stepOrder cA a_me a_best a_order a_ways a_order_cells u_leastRisk c_size z.2))  : ∀ (fu : Nat) (v1 : Int32), f_X7_stepOrder_b7 c_size c_order fu v1 = some z → G p l e rm_X7_stepOrder s m args below meth c D A 5 0 0 Q 7 [(0, .ref a_me), (1, .int v1)] [] (w_X7_stepOrder cA a_me a_best a_order a_ways a_order_cells u_leastRisk c_size c_order) := by
  intro fu
  induction fu with
  | zero => intro v1 h; exact absurd (show (none : Option (Int32 × A32)) = some z from h) (by simp)
  | succ fu ih =>
    intro v1 h
    have h : (if v1 < 0 then f_X7_stepOrder_b38 c_size c_order v1 else Option.bind (f_X8_get 5 c_order v1) fun z_2 => Option.bind (f_X8_get 5 c_order (v1 + 1)) fun z_3 => if z_2 ≤ z_3 then f_X7_stepOrder_b38 c_size c_order v1 else nam (v1 + (-1)) fun v1_5 => (f_X7_stepOrder_b7 c_size c_order fu) v1_5 : Option (Int32 × A32)) = some z := h
    refine g_iload_n X 1 rfl rfl dX7_stepOrder_7 rfl ?_
    refine g_if_lt (tgt := 38) X dX7_stepOrder_8 (by decide) rfl h (fun c_1 h => ?_) (fun c_1 h => ?_)
    · exact t_X7_stepOrder_b38 X hret h
    · refine g_aload_n X 0 rfl rfl dX7_stepOrder_11 rfl ?_
      refine g_getf (C := RX7) (T := TX7) (N := 5) (v := .ref a_order) X 0 rfl vc_X7 2 (by decide) iw_X7_stepOrder_X7 fl_X7_stepOrder_X7_2 rfl rfl dX7_stepOrder_12 rfl ?_
      refine g_iload_n X 1 rfl rfl dX7_stepOrder_15 rfl ?_
      obtain ⟨z_2, hz_2, h⟩ := bnd_s h
      refine g_callVI (rm := rm_X8_get) (As := [.int v1]) (r := z_2) (W0 := (w_X8_get cA a_order a_order_cells 5 c_order)) (W1 := (w_X8_get cA a_order a_order_cells 5 c_order)) (isC := [1, 2]) (isR := [0]) (perm := [0, 1, 2]) (ws' := (w_X7_stepOrder cA a_me a_best a_order a_ways a_order_cells u_leastRisk c_size c_order)) X (c_X8_get l D cA a_order a_order_cells 5 c_order v1 _ hz_2) 1 rfl rfl rfl gX7_stepOrder_X8_get rfl rfl rfl ⟨rfl, hd_X8_get⟩ ⟨Nat.le_of_ble_eq_true rfl, Nat.le_of_ble_eq_true rfl⟩ rfl rfl (Nat.le_of_ble_eq_true rfl) rfl (by decide) rfl (by decide) (by decide) ⟨Nat.zero_le _, Nat.zero_le _⟩ rfl (by decide) dX7_stepOrder_16 rfl ?_
      refine g_aload_n X 0 rfl rfl dX7_stepOrder_19 rfl ?_
      refine g_getf (C := RX7) (T := TX7) (N := 5) (v := .ref a_order) X 0 rfl vc_X7 2 (by decide) iw_X7_stepOrder_X7 fl_X7_stepOrder_X7_2 rfl rfl dX7_stepOrder_20 rfl ?_
      refine g_iload_n X 1 rfl rfl dX7_stepOrder_23 rfl ?_
      refine g_iconst (v := 1) X dX7_stepOrder_24 (by decide) rfl ?_
      refine g_iadd X dX7_stepOrder_25 rfl ?_
      obtain ⟨z_3, hz_3, h⟩ := bnd_s h
      refine g_callVI (rm := rm_X8_get) (As := [.int (v1 + 1)]) (r := z_3) (W0 := (w_X8_get cA a_order a_order_cells 5 c_order)) (W1 := (w_X8_get cA a_order a_order_cells 5 c_order)) (isC := [1, 2]) (isR := [0]) (perm := [0, 1, 2]) (ws' := (w_X7_stepOrder cA a_me a_best a_order a_ways a_order_cells u_leastRisk c_size c_order)) X (c_X8_get l D cA a_order a_order_cells 5 c_order (v1 + 1) _ hz_3) 1 rfl rfl rfl gX7_stepOrder_X8_get rfl rfl rfl ⟨rfl, hd_X8_get⟩ ⟨Nat.le_of_ble_eq_true rfl, Nat.le_of_ble_eq_true rfl⟩ rfl rfl (Nat.le_of_ble_eq_true rfl) rfl (by decide) rfl (by decide) (by decide) ⟨Nat.zero_le _, Nat.zero_le _⟩ rfl (by decide) dX7_stepOrder_26 rfl ?_
      refine g_icmp_le (tgt := 38) X dX7_stepOrder_29 (by decide) rfl h (fun c_4 h => ?_) (fun c_4 h => ?_)
      · exact t_X7_stepOrder_b38 X hret h
      · obtain ⟨v1_5, ev1_5, h⟩ := nam_s h
        refine g_iinc (v := v1_5) (lv' := [(1, .int v1_5), (0, .ref a_me)]) X 1 rfl (by rw [ev1_5]; rfl) (by decide) rfl dX7_stepOrder_32 rfl ?_
        refine g_goto (tgt := 7) X dX7_stepOrder_35 (by decide) ?_
        refine g_lvs [1, 0] rfl ?_
        exact ih _ h
set_option maxHeartbeats 4000000 in
set_option maxRecDepth 100000 in
theorem c_X7_stepOrder (l : Launch) (D : va_G) (cA : ClassId) (a_me a_best a_order a_ways a_order_cells : Nat) (u_leastRisk : Int32) (c_size : Int32) (c_order : A32) (z : Int32 × A32) (h : f_X7_stepOrder c_size c_order = some z) : CtI l yX7_stepOrder wsX7_stepOrder rm_X7_stepOrder D cA [.ref a_me] (w_X7_stepOrder cA a_me a_best a_order a_ways a_order_cells u_leastRisk c_size c_order) z.1 (w_X7_stepOrder cA a_me a_best a_order a_ways a_order_cells u_leastRisk c_size z.2) := by
  refine ct_I (maxL := 5) (ty := .boolean) (cc := cX7_stepOrder) (by decide) rfl (Nat.le_of_ble_eq_true rfl) rfl (fun p e s m args below meth c A Q X hret => ?_)
  have h : (nam (c_size - 2) fun v1_1 => f_X7_stepOrder_b7 c_size c_order FU v1_1 : Option (Int32 × A32)) = some z := h
  refine g_aload_n X 0 rfl rfl dX7_stepOrder_0 rfl ?_
  refine g_getf (C := RX7) (T := TX7) (N := 5) (v := .int c_size) X 0 rfl vc_X7 3 (by decide) iw_X7_stepOrder_X7 fl_X7_stepOrder_X7_3 rfl rfl dX7_stepOrder_1 rfl ?_
  refine g_iconst (v := 2) X dX7_stepOrder_4 (by decide) rfl ?_
  refine g_isub X dX7_stepOrder_5 rfl ?_
  refine g_nami h (fun v1_1 h => ?_)
  refine g_istore_n (lv' := [(1, .int v1_1), (0, .ref a_me)]) X rfl (by decide) rfl dX7_stepOrder_6 rfl ?_
  refine g_lvs [1, 0] rfl ?_
  exact t_X7_stepOrder_b7 X hret _ _ h
abbrev rm_X7_findBest : Room := { frames := 5, cells := 0, slots := 0, locals := 115 }
abbrev w_X7_findBest (cA : ClassId) (a_me a_q1 a_q2 a_best a_order a_ways a_best_cells a_order_cells a_ways_lengths a_ways_lengths_cells a_q1_one a_q1_two a_q1_length a_q1_draught a_q1_one_cells a_q1_two_cells a_q1_length_cells a_q2_gas a_q2_place a_q2_gas_cells : Nat) (u_q1_doors : Int32) (u_q1_shafts : Int32) (u_q2_moon : Int32) (u_q2_out : Int32) (u_q2_gone : Int32) (c_leastRisk : Int32) (c_size : Int32) (c_best : A32) (c_order : A32) (c_ways_lengths : A32) (c_q1_galleries : Int32) (c_q1_one : A32) (c_q1_two : A32) (c_q1_length : A32) (c_q2_open : Int32) (c_q2_gas : A32) : va_W := [(a_me, .inr (7, [.ref a_best, .int c_leastRisk, .ref a_order, .int c_size, .ref a_ways])), (a_best, .inr (8, [.ref a_best_cells])), (a_best_cells, .inl (cA, 5, .inl c_best)), (a_order, .inr (8, [.ref a_order_cells])), (a_order_cells, .inl (cA, 5, .inl c_order)), (a_ways, .inr (9, [.ref a_ways_lengths])), (a_ways_lengths, .inr (8, [.ref a_ways_lengths_cells])), (a_ways_lengths_cells, .inl (cA, 49, .inl c_ways_lengths)), (a_q1, .inr (5, [.int c_q1_galleries, .ref a_q1_one, .ref a_q1_two, .ref a_q1_length, .int u_q1_doors, .ref a_q1_draught, .int u_q1_shafts])), (a_q1_one, .inr (8, [.ref a_q1_one_cells])), (a_q1_one_cells, .inl (cA, 10, .inl c_q1_one)), (a_q1_two, .inr (8, [.ref a_q1_two_cells])), (a_q1_two_cells, .inl (cA, 10, .inl c_q1_two)), (a_q1_length, .inr (8, [.ref a_q1_length_cells])), (a_q1_length_cells, .inl (cA, 10, .inl c_q1_length)), (a_q2, .inr (3, [.int c_q2_open, .int u_q2_moon, .ref a_q2_gas, .ref a_q2_place, .int u_q2_out, .int u_q2_gone])), (a_q2_gas, .inr (8, [.ref a_q2_gas_cells])), (a_q2_gas_cells, .inl (cA, 7, .inl c_q2_gas))]
theorem hd_X7_findBest : yX7_findBest.cls ≠ "java/lang/invoke/MethodHandle" ∧ yX7_findBest.cls ≠ "java/lang/invoke/VarHandle" ∧ (parseMethodDescriptor yX7_findBest.desc).map (fun d => d.parameters.length) = some 4 := by decide +kernel
theorem iw_X7_findBest_X3 : ∀ w ∈ wsX30, w ∈ wsX7_findBest := fun w h => List.mem_cons_of_mem _ (List.mem_append_left _ (List.mem_append_left _ (List.mem_append_left _ (List.mem_append_right _ h))))
theorem iw_X7_findBest_X7 : ∀ w ∈ wsX70, w ∈ wsX7_findBest := fun w h => List.mem_cons_of_mem _ (List.mem_append_left _ (List.mem_append_left _ (List.mem_append_left _ (List.mem_append_left _ (List.mem_append_right _ h)))))
theorem fl_X7_findBest_X7_1 : Cond.fieldLink RX7 30 RX7 (TX7 1).2.1 (TX7 1).2.2.1 ∈ wsX7_findBest := List.mem_of_getElem? (i := 1) rfl
theorem fl_X7_findBest_X3_0 : Cond.fieldLink RX7 34 RX3 (TX3 0).2.1 (TX3 0).2.2.1 ∈ wsX7_findBest := List.mem_of_getElem? (i := 2) rfl
theorem fl_X7_findBest_X3_2 : Cond.fieldLink RX7 47 RX3 (TX3 2).2.1 (TX3 2).2.2.1 ∈ wsX7_findBest := List.mem_of_getElem? (i := 3) rfl
theorem fl_X7_findBest_X7_0 : Cond.fieldLink RX7 14 RX7 (TX7 0).2.1 (TX7 0).2.2.1 ∈ wsX7_findBest := List.mem_of_getElem? (i := 4) rfl
theorem fl_X7_findBest_X7_2 : Cond.fieldLink RX7 20 RX7 (TX7 2).2.1 (TX7 2).2.2.1 ∈ wsX7_findBest := List.mem_of_getElem? (i := 5) rfl
set_option maxHeartbeats 4000000 in
set_option maxRecDepth 100000 in
theorem t_X7_findBest_b88 {l : Launch} {D : va_G} {cA : ClassId} {p : Program} {e : Env} {s : State} {m : MethodId} {args : Array Value} {below : List Frame} {meth : Method} {c : Code} {A : Nat → Prop} {Q : State → Prop} {z : Int32 × Int32 × A32 × A32 × A32} {a_me a_q1 a_q2 a_best a_order a_ways a_best_cells a_order_cells a_ways_lengths a_ways_lengths_cells a_q1_one a_q1_two a_q1_length a_q1_draught a_q1_one_cells a_q1_two_cells a_q1_length_cells a_q2_gas a_q2_place a_q2_gas_cells : Nat} {u_q1_doors : Int32} {u_q1_shafts : Int32} {u_q2_moon : Int32} {u_q2_out : Int32} {u_q2_gone : Int32} {c_q1_galleries : Int32} {c_q1_one : A32} {c_q1_two : A32} {c_q1_length : A32} {c_q2_open : Int32} {c_leastRisk : Int32} {c_size : Int32} {c_best : A32} {c_order : A32} {c_ways_lengths : A32} {c_q2_gas : A32} {v3 : Int32} {v6 : Int32} {k31 : Int32 → A32 → A32 → Int32 → Int32 → Option (Int32 × Int32 × A32 × A32 × A32)} (X : GX p s m args c cX7_findBest RX7 wsX7_findBest D cA A 8) (hret : RtV p l e rm_X7_findBest s m args below meth c cX7_findBest D A 8 0 0 Q (w_X7_findBest cA a_me a_q1 a_q2 a_best a_order a_ways a_best_cells a_order_cells a_ways_lengths a_ways_lengths_cells a_q1_one a_q1_two a_q1_length a_q1_draught a_q1_one_cells a_q1_two_cells a_q1_length_cells a_q2_gas a_q2_place a_q2_gas_cells u_q1_doors u_q1_shafts u_q2_moon u_q2_out u_q2_gone z.1 z.2.1 z.2.2.1 z.2.2.2.1 z.2.2.2.2 c_q1_galleries c_q1_one c_q1_two c_q1_length c_q2_open c_q2_gas)) (hk31 : ∀ (c_leastRisk : Int32) (c_best : A32) (c_order : A32) (v5 : Int32) (v6 : Int32), k31 c_leastRisk c_best c_order v5 v6 = some z → G p l e rm_X7_findBest s m args below meth c D A 8 0 0 Q 31 [(0, .ref a_me), (2, .ref a_q2), (3, .int v3), (5, .int v5), (6, .int v6)] [] (w_X7_findBest cA a_me a_q1 a_q2 a_best a_order a_ways a_best_cells a_order_cells a_ways_lengths a_ways_lengths_cells a_q1_one a_q1_two a_q1_length a_q1_draught a_q1_one_cells a_q1_two_cells a_q1_length_cells a_q2_gas a_q2_place a_q2_gas_cells u_q1_doors u_q1_shafts u_q2_moon u_q2_out u_q2_gone c_leastRisk c_size c_best c_order c_ways_lengths c_q1_galleries c_q1_one c_q1_two c_q1_length c_q2_open c_q2_gas)) (h : f_X7_findBest_b88 k31 c_leastRisk c_size c_best c_order c_ways_lengths c_q2_gas v3 v6 = some z) : G p l e rm_X7_findBest s m args below meth c D A 8 0 0 Q 88 [(0, .ref a_me), (2, .ref a_q2), (3, .int v3), (6, .int v6)] [] (w_X7_findBest cA a_me a_q1 a_q2 a_best a_order a_ways a_best_cells a_order_cells a_ways_lengths a_ways_lengths_cells a_q1_one a_q1_two a_q1_length a_q1_draught a_q1_one_cells a_q1_two_cells a_q1_length_cells a_q2_gas a_q2_place a_q2_gas_cells u_q1_doors u_q1_shafts u_q2_moon u_q2_out u_q2_gone c_leastRisk c_size c_best c_order c_ways_lengths c_q1_galleries c_q1_one c_q1_two c_q1_length c_q2_open c_q2_gas) := by
  have h : (Option.bind (f_X7_stepOrder c_size c_order) fun z_1 => nam (v6 + 1) fun v6_2 => k31 c_leastRisk c_best z_1.2 z_1.1 v6_2 : Option (Int32 × Int32 × A32 × A32 × A32)) = some z := h
  refine g_aload_n X 0 rfl rfl dX7_findBest_88 rfl ?_
  obtain ⟨z_1, hz_1, h⟩ := bnd_s h
  refine g_callVI (rm := rm_X7_stepOrder) (As := []) (r := z_1.1) (W0 := (w_X7_stepOrder cA a_me a_best a_order a_ways a_order_cells c_leastRisk c_size c_order)) (W1 := (w_X7_stepOrder cA a_me a_best a_order a_ways a_order_cells c_leastRisk c_size z_1.2)) (isC := [0, 3, 4]) (isR := [1, 2, 5, 6, 7, 8, 9, 10, 11, 12, 13, 14, 15, 16, 17]) (perm := [15, 0, 1, 16, 17, 2, 3, 4, 5, 6, 7, 8, 9, 10, 11, 12, 13, 14]) (ws' := (w_X7_findBest cA a_me a_q1 a_q2 a_best a_order a_ways a_best_cells a_order_cells a_ways_lengths a_ways_lengths_cells a_q1_one a_q1_two a_q1_length a_q1_draught a_q1_one_cells a_q1_two_cells a_q1_length_cells a_q2_gas a_q2_place a_q2_gas_cells u_q1_doors u_q1_shafts u_q2_moon u_q2_out u_q2_gone c_leastRisk c_size c_best z_1.2 c_ways_lengths c_q1_galleries c_q1_one c_q1_two c_q1_length c_q2_open c_q2_gas)) X (c_X7_stepOrder l D cA a_me a_best a_order a_ways a_order_cells c_leastRisk c_size c_order _ hz_1) 0 rfl rfl rfl gX7_findBest_X7_stepOrder rfl rfl rfl ⟨rfl, hd_X7_stepOrder⟩ ⟨Nat.le_of_ble_eq_true rfl, Nat.le_of_ble_eq_true rfl⟩ rfl rfl (Nat.le_of_ble_eq_true rfl) rfl (by decide) rfl (by decide) (by decide) ⟨Nat.zero_le _, Nat.zero_le _⟩ rfl (by decide) dX7_findBest_89 rfl ?_
  refine g_istore (lv' := [(5, .int z_1.1), (0, .ref a_me), (2, .ref a_q2), (3, .int v3), (6, .int v6)]) X (by decide) rfl dX7_findBest_92 rfl ?_
  obtain ⟨v6_2, ev6_2, h⟩ := nam_s h
  refine g_iinc (v := v6_2) (lv' := [(6, .int v6_2), (5, .int z_1.1), (0, .ref a_me), (2, .ref a_q2), (3, .int v3)]) X 4 rfl (by rw [ev6_2]; rfl) (by decide) rfl dX7_findBest_94 rfl ?_
  refine g_goto (tgt := 31) X dX7_findBest_97 (by decide) ?_
  refine g_lvs [2, 3, 4, 1, 0] rfl ?_
  exact hk31 _ _ _ _ _ h
set_option maxHeartbeats 4000000 in
set_option maxRecDepth 100000 in
theorem t_X7_findBest_b71 {l : Launch} {D : va_G} {cA : ClassId} {p : Program} {e : Env} {s : State} {m : MethodId} {args : Array Value} {below : List Frame} {meth : Method} {c : Code} {A : Nat → Prop} {Q : State → Prop} {z : Int32 × Int32 × A32 × A32 × A32} {a_me a_q1 a_q2 a_best a_order a_ways a_best_cells a_order_cells a_ways_lengths a_ways_lengths_cells a_q1_one a_q1_two a_q1_length a_q1_draught a_q1_one_cells a_q1_two_cells a_q1_length_cells a_q2_gas a_q2_place a_q2_gas_cells : Nat} {u_q1_doors : Int32} {u_q1_shafts : Int32} {u_q2_moon : Int32} {u_q2_out : Int32} {u_q2_gone : Int32} {c_q1_galleries : Int32} {c_q1_one : A32} {c_q1_two : A32} {c_q1_length : A32} {c_q2_open : Int32} {c_leastRisk : Int32} {c_size : Int32} {c_best : A32} {c_order : A32} {c_ways_lengths : A32} {c_q2_gas : A32} {v3 : Int32} {v6 : Int32} {v7 : Int32} {k31 : Int32 → A32 → A32 → Int32 → Int32 → Option (Int32 × Int32 × A32 × A32 × A32)} (X : GX p s m args c cX7_findBest RX7 wsX7_findBest D cA A 8) (hret : RtV p l e rm_X7_findBest s m args below meth c cX7_findBest D A 8 0 0 Q (w_X7_findBest cA a_me a_q1 a_q2 a_best a_order a_ways a_best_cells a_order_cells a_ways_lengths a_ways_lengths_cells a_q1_one a_q1_two a_q1_length a_q1_draught a_q1_one_cells a_q1_two_cells a_q1_length_cells a_q2_gas a_q2_place a_q2_gas_cells u_q1_doors u_q1_shafts u_q2_moon u_q2_out u_q2_gone z.1 z.2.1 z.2.2.1 z.2.2.2.1 z.2.2.2.2 c_q1_galleries c_q1_one c_q1_two c_q1_length c_q2_open c_q2_gas)) (hk31 : ∀ (c_leastRisk : Int32) (c_best : A32) (c_order : A32) (v5 : Int32) (v6 : Int32), k31 c_leastRisk c_best c_order v5 v6 = some z → G p l e rm_X7_findBest s m args below meth c D A 8 0 0 Q 31 [(0, .ref a_me), (2, .ref a_q2), (3, .int v3), (5, .int v5), (6, .int v6)] [] (w_X7_findBest cA a_me a_q1 a_q2 a_best a_order a_ways a_best_cells a_order_cells a_ways_lengths a_ways_lengths_cells a_q1_one a_q1_two a_q1_length a_q1_draught a_q1_one_cells a_q1_two_cells a_q1_length_cells a_q2_gas a_q2_place a_q2_gas_cells u_q1_doors u_q1_shafts u_q2_moon u_q2_out u_q2_gone c_leastRisk c_size c_best c_order c_ways_lengths c_q1_galleries c_q1_one c_q1_two c_q1_length c_q2_open c_q2_gas)) (h : f_X7_findBest_b71 k31 c_leastRisk c_size c_best c_order c_ways_lengths c_q2_gas v3 v6 v7 = some z) : G p l e rm_X7_findBest s m args below meth c D A 8 0 0 Q 71 [(0, .ref a_me), (2, .ref a_q2), (3, .int v3), (6, .int v6), (7, .int v7)] [] (w_X7_findBest cA a_me a_q1 a_q2 a_best a_order a_ways a_best_cells a_order_cells a_ways_lengths a_ways_lengths_cells a_q1_one a_q1_two a_q1_length a_q1_draught a_q1_one_cells a_q1_two_cells a_q1_length_cells a_q2_gas a_q2_place a_q2_gas_cells u_q1_doors u_q1_shafts u_q2_moon u_q2_out u_q2_gone c_leastRisk c_size c_best c_order c_ways_lengths c_q1_galleries c_q1_one c_q1_two c_q1_length c_q2_open c_q2_gas) := by
  have h : (Option.bind (f_X8_copyFrom 5 5 c_best c_order) fun z_1 => f_X7_findBest_b88 k31 v7 c_size z_1 c_order c_ways_lengths c_q2_gas v3 v6 : Option (Int32 × Int32 × A32 × A32 × A32)) = some z := h
  refine g_aload_n X 0 rfl rfl dX7_findBest_71 rfl ?_
  refine g_iload X 4 rfl dX7_findBest_72 rfl ?_
  refine g_putf (C := RX7) (T := TX7) (N := 5) (ty := .int) (ws' := (w_X7_findBest cA a_me a_q1 a_q2 a_best a_order a_ways a_best_cells a_order_cells a_ways_lengths a_ways_lengths_cells a_q1_one a_q1_two a_q1_length a_q1_draught a_q1_one_cells a_q1_two_cells a_q1_length_cells a_q2_gas a_q2_place a_q2_gas_cells u_q1_doors u_q1_shafts u_q2_moon u_q2_out u_q2_gone v7 c_size c_best c_order c_ways_lengths c_q1_galleries c_q1_one c_q1_two c_q1_length c_q2_open c_q2_gas)) X 0 tyX7 tyX7_ok nmX7 rfl vc_X7 1 (by decide) iw_X7_findBest_X7 fl_X7_findBest_X7_1 rfl rfl pd_X7_1 rfl rfl (Nat.le_of_ble_eq_true rfl) rfl dX7_findBest_74 rfl ?_
  refine g_aload_n X 0 rfl rfl dX7_findBest_77 rfl ?_
  refine g_getf (C := RX7) (T := TX7) (N := 5) (v := .ref a_best) X 0 rfl vc_X7 0 (by decide) iw_X7_findBest_X7 fl_X7_findBest_X7_0 rfl rfl dX7_findBest_78 rfl ?_
  refine g_aload_n X 0 rfl rfl dX7_findBest_81 rfl ?_
  refine g_getf (C := RX7) (T := TX7) (N := 5) (v := .ref a_order) X 0 rfl vc_X7 2 (by decide) iw_X7_findBest_X7 fl_X7_findBest_X7_2 rfl rfl dX7_findBest_82 rfl ?_
  obtain ⟨z_1, hz_1, h⟩ := bnd_s h
  refine g_callVV (rm := rm_X8_copyFrom) (As := [.ref a_order]) (W0 := (w_X8_copyFrom cA a_best a_order a_best_cells a_order_cells 5 5 c_best c_order)) (W1 := (w_X8_copyFrom cA a_best a_order a_best_cells a_order_cells 5 5 z_1 c_order)) (isC := [1, 2, 3, 4]) (isR := [0, 5, 6, 7, 8, 9, 10, 11, 12, 13, 14, 15, 16, 17]) (perm := [0, 14, 15, 16, 17, 1, 2, 3, 4, 5, 6, 7, 8, 9, 10, 11, 12, 13]) (ws' := (w_X7_findBest cA a_me a_q1 a_q2 a_best a_order a_ways a_best_cells a_order_cells a_ways_lengths a_ways_lengths_cells a_q1_one a_q1_two a_q1_length a_q1_draught a_q1_one_cells a_q1_two_cells a_q1_length_cells a_q2_gas a_q2_place a_q2_gas_cells u_q1_doors u_q1_shafts u_q2_moon u_q2_out u_q2_gone v7 c_size z_1 c_order c_ways_lengths c_q1_galleries c_q1_one c_q1_two c_q1_length c_q2_open c_q2_gas)) X (c_X8_copyFrom l D cA a_best a_order a_best_cells a_order_cells 5 5 c_best c_order _ hz_1) 1 rfl rfl rfl gX7_findBest_X8_copyFrom rfl rfl rfl ⟨rfl, hd_X8_copyFrom⟩ ⟨Nat.le_of_ble_eq_true rfl, Nat.le_of_ble_eq_true rfl⟩ rfl rfl (Nat.le_of_ble_eq_true rfl) rfl (by decide) rfl (by decide) (by decide) ⟨Nat.zero_le _, Nat.zero_le _⟩ rfl (by decide) dX7_findBest_85 rfl ?_
  refine g_lvs [0, 1, 2, 3] rfl ?_
  exact t_X7_findBest_b88 X hret hk31 h
set_option maxHeartbeats 4000000 in
set_option maxRecDepth 100000 in
theorem t_X7_findBest_b31 {l : Launch} {D : va_G} {cA : ClassId} {p : Program} {e : Env} {s : State} {m : MethodId} {args : Array Value} {below : List Frame} {meth : Method} {c : Code} {A : Nat → Prop} {Q : State → Prop} {z : Int32 × Int32 × A32 × A32 × A32} {a_me a_q1 a_q2 a_best a_order a_ways a_best_cells a_order_cells a_ways_lengths a_ways_lengths_cells a_q1_one a_q1_two a_q1_length a_q1_draught a_q1_one_cells a_q1_two_cells a_q1_length_cells a_q2_gas a_q2_place a_q2_gas_cells : Nat} {u_q1_doors : Int32} {u_q1_shafts : Int32} {u_q2_moon : Int32} {u_q2_out : Int32} {u_q2_gone : Int32} {c_q1_galleries : Int32} {c_q1_one : A32} {c_q1_two : A32} {c_q1_length : A32} {c_q2_open : Int32} {c_size : Int32} {c_ways_lengths : A32} {c_q2_gas : A32} {v3 : Int32}  (X : GX p s m args c cX7_findBest RX7 wsX7_findBest D cA A 8) (hret : RtV p l e rm_X7_findBest s m args below meth c cX7_findBest D A 8 0 0 Q (w_X7_findBest cA a_me a_q1 a_q2 a_best a_order a_ways a_best_cells a_order_cells a_ways_lengths a_ways_lengths_cells a_q1_one a_q1_two a_q1_length a_q1_draught a_q1_one_cells a_q1_two_cells a_q1_length_cells a_q2_gas a_q2_place a_q2_gas_cells u_q1_doors u_q1_shafts u_q2_moon u_q2_out u_q2_gone z.1 z.2.1 z.2.2.1 z.2.2.2.1 z.2.2.2.2 c_q1_galleries c_q1_one c_q1_two c_q1_length c_q2_open c_q2_gas))  : ∀ (fu : Nat) (c_leastRisk : Int32) (c_best : A32) (c_order : A32) (v5 : Int32) (v6 : Int32), f_X7_findBest_b31 c_size c_ways_lengths c_q2_gas v3 fu c_leastRisk c_best c_order v5 v6 = some z → G p l e rm_X7_findBest s m args below meth c D A 8 0 0 Q 31 [(0, .ref a_me), (2, .ref a_q2), (3, .int v3), (5, .int v5), (6, .int v6)] [] (w_X7_findBest cA a_me a_q1 a_q2 a_best a_order a_ways a_best_cells a_order_cells a_ways_lengths a_ways_lengths_cells a_q1_one a_q1_two a_q1_length a_q1_draught a_q1_one_cells a_q1_two_cells a_q1_length_cells a_q2_gas a_q2_place a_q2_gas_cells u_q1_doors u_q1_shafts u_q2_moon u_q2_out u_q2_gone c_leastRisk c_size c_best c_order c_ways_lengths c_q1_galleries c_q1_one c_q1_two c_q1_length c_q2_open c_q2_gas) := by
  intro fu
  induction fu with
  | zero => intro c_leastRisk c_best c_order v5 v6 h; exact absurd (show (none : Option (Int32 × Int32 × A32 × A32 × A32)) = some z from h) (by simp)
  | succ fu ih =>
    intro c_leastRisk c_best c_order v5 v6 h
    have h : (if 120 ≤ v6 then some (c_leastRisk, c_size, c_best, c_order, c_ways_lengths) else if v5 = 0 then some (c_leastRisk, c_size, c_best, c_order, c_ways_lengths) else Option.bind (f_X7_riskOfOrder 7 c_size c_order c_ways_lengths c_q2_gas v3) fun z_3 => if c_leastRisk = (-1) then f_X7_findBest_b71 (f_X7_findBest_b31 c_size c_ways_lengths c_q2_gas v3 fu) c_leastRisk c_size c_best c_order c_ways_lengths c_q2_gas v3 v6 z_3 else if c_leastRisk ≤ z_3 then f_X7_findBest_b88 (f_X7_findBest_b31 c_size c_ways_lengths c_q2_gas v3 fu) c_leastRisk c_size c_best c_order c_ways_lengths c_q2_gas v3 v6 else f_X7_findBest_b71 (f_X7_findBest_b31 c_size c_ways_lengths c_q2_gas v3 fu) c_leastRisk c_size c_best c_order c_ways_lengths c_q2_gas v3 v6 z_3 : Option (Int32 × Int32 × A32 × A32 × A32)) = some z := h
    refine g_iload X 4 rfl dX7_findBest_31 rfl ?_
    refine g_bipush (v := 120) X dX7_findBest_33 (by decide) rfl ?_
    refine g_icmp_ge (tgt := 100) X dX7_findBest_35 (by decide) rfl h (fun c_1 h => ?_) (fun c_1 h => ?_)
    · cases Option.some.inj h
      exact hret _ _ dX7_findBest_100
    · refine g_iload X 3 rfl dX7_findBest_38 rfl ?_
      refine g_if_eq (tgt := 100) X dX7_findBest_40 (by decide) rfl h (fun c_2 h => ?_) (fun c_2 h => ?_)
      · cases Option.some.inj h
        exact hret _ _ dX7_findBest_100
      · refine g_aload_n X 0 rfl rfl dX7_findBest_43 rfl ?_
        refine g_iload_n X 2 rfl rfl dX7_findBest_44 rfl ?_
        refine g_aload_n X 1 rfl rfl dX7_findBest_45 rfl ?_
        refine g_getf (C := RX3) (T := TX3) (N := 6) (v := .ref a_q2_gas) X 15 rfl vc_X3 2 (by decide) iw_X7_findBest_X3 fl_X7_findBest_X3_2 rfl rfl dX7_findBest_46 rfl ?_
        obtain ⟨z_3, hz_3, h⟩ := bnd_s h
        refine g_callVI (rm := rm_X7_riskOfOrder) (As := [.int v3, .ref a_q2_gas]) (r := z_3) (W0 := (w_X7_riskOfOrder cA a_me a_q2_gas a_best a_order a_ways a_order_cells a_ways_lengths a_ways_lengths_cells a_q2_gas_cells c_leastRisk 7 c_size c_order c_ways_lengths c_q2_gas)) (W1 := (w_X7_riskOfOrder cA a_me a_q2_gas a_best a_order a_ways a_order_cells a_ways_lengths a_ways_lengths_cells a_q2_gas_cells c_leastRisk 7 c_size c_order c_ways_lengths c_q2_gas)) (isC := [0, 3, 4, 5, 6, 7, 16, 17]) (isR := [1, 2, 8, 9, 10, 11, 12, 13, 14, 15]) (perm := [10, 0, 1, 11, 12, 13, 14, 15, 2, 3, 4, 5, 6, 7, 8, 9, 16, 17]) (ws' := (w_X7_findBest cA a_me a_q1 a_q2 a_best a_order a_ways a_best_cells a_order_cells a_ways_lengths a_ways_lengths_cells a_q1_one a_q1_two a_q1_length a_q1_draught a_q1_one_cells a_q1_two_cells a_q1_length_cells a_q2_gas a_q2_place a_q2_gas_cells u_q1_doors u_q1_shafts u_q2_moon u_q2_out u_q2_gone c_leastRisk c_size c_best c_order c_ways_lengths c_q1_galleries c_q1_one c_q1_two c_q1_length c_q2_open c_q2_gas)) X (c_X7_riskOfOrder l D cA a_me a_q2_gas a_best a_order a_ways a_order_cells a_ways_lengths a_ways_lengths_cells a_q2_gas_cells c_leastRisk 7 c_size c_order c_ways_lengths c_q2_gas v3 _ hz_3) 0 rfl rfl rfl gX7_findBest_X7_riskOfOrder rfl rfl rfl ⟨rfl, hd_X7_riskOfOrder⟩ ⟨Nat.le_of_ble_eq_true rfl, Nat.le_of_ble_eq_true rfl⟩ rfl rfl (Nat.le_of_ble_eq_true rfl) rfl (by decide) rfl (by decide) (by decide) ⟨Nat.zero_le _, Nat.zero_le _⟩ rfl (by decide) dX7_findBest_49 rfl ?_
        refine g_istore (lv' := [(7, .int z_3), (0, .ref a_me), (2, .ref a_q2), (3, .int v3), (5, .int v5), (6, .int v6)]) X (by decide) rfl dX7_findBest_52 rfl ?_
        refine g_aload_n X 1 rfl rfl dX7_findBest_54 rfl ?_
        refine g_getf (C := RX7) (T := TX7) (N := 5) (v := .int c_leastRisk) X 0 rfl vc_X7 1 (by decide) iw_X7_findBest_X7 fl_X7_findBest_X7_1 rfl rfl dX7_findBest_55 rfl ?_
        refine g_iconst (v := (-1)) X dX7_findBest_58 (by decide) rfl ?_
        refine g_icmp_eq (tgt := 71) X dX7_findBest_59 (by decide) rfl h (fun c_4 h => ?_) (fun c_4 h => ?_)
        · refine g_lvs [1, 2, 3, 5, 0] rfl ?_
          exact t_X7_findBest_b71 X hret ih h
        · refine g_iload X 0 rfl dX7_findBest_62 rfl ?_
          refine g_aload_n X 1 rfl rfl dX7_findBest_64 rfl ?_
          refine g_getf (C := RX7) (T := TX7) (N := 5) (v := .int c_leastRisk) X 0 rfl vc_X7 1 (by decide) iw_X7_findBest_X7 fl_X7_findBest_X7_1 rfl rfl dX7_findBest_65 rfl ?_
          refine g_icmp_ge (tgt := 88) X dX7_findBest_68 (by decide) rfl h (fun c_5 h => ?_) (fun c_5 h => ?_)
          · refine g_lvs [1, 2, 3, 5] rfl ?_
            exact t_X7_findBest_b88 X hret ih h
          · refine g_lvs [1, 2, 3, 5, 0] rfl ?_
            exact t_X7_findBest_b71 X hret ih h
set_option maxHeartbeats 4000000 in
set_option maxRecDepth 100000 in
theorem c_X7_findBest (l : Launch) (D : va_G) (cA : ClassId) (a_me a_q1 a_q2 a_best a_order a_ways a_best_cells a_order_cells a_ways_lengths a_ways_lengths_cells a_q1_one a_q1_two a_q1_length a_q1_draught a_q1_one_cells a_q1_two_cells a_q1_length_cells a_q2_gas a_q2_place a_q2_gas_cells : Nat) (u_q1_doors : Int32) (u_q1_shafts : Int32) (u_q2_moon : Int32) (u_q2_out : Int32) (u_q2_gone : Int32) (c_leastRisk : Int32) (c_size : Int32) (c_best : A32) (c_order : A32) (c_ways_lengths : A32) (c_q1_galleries : Int32) (c_q1_one : A32) (c_q1_two : A32) (c_q1_length : A32) (c_q2_open : Int32) (c_q2_gas : A32) (v3 : Int32) (v4 : Int32) (z : Int32 × Int32 × A32 × A32 × A32) (h : f_X7_findBest c_leastRisk c_size c_best c_order c_ways_lengths c_q1_galleries c_q1_one c_q1_two c_q1_length c_q2_open c_q2_gas v3 v4 = some z) : CtV l yX7_findBest wsX7_findBest rm_X7_findBest D cA [.ref a_me, .ref a_q1, .ref a_q2, .int v3, .int v4] (w_X7_findBest cA a_me a_q1 a_q2 a_best a_order a_ways a_best_cells a_order_cells a_ways_lengths a_ways_lengths_cells a_q1_one a_q1_two a_q1_length a_q1_draught a_q1_one_cells a_q1_two_cells a_q1_length_cells a_q2_gas a_q2_place a_q2_gas_cells u_q1_doors u_q1_shafts u_q2_moon u_q2_out u_q2_gone c_leastRisk c_size c_best c_order c_ways_lengths c_q1_galleries c_q1_one c_q1_two c_q1_length c_q2_open c_q2_gas) Unit (fun _ => (w_X7_findBest cA a_me a_q1 a_q2 a_best a_order a_ways a_best_cells a_order_cells a_ways_lengths a_ways_lengths_cells a_q1_one a_q1_two a_q1_length a_q1_draught a_q1_one_cells a_q1_two_cells a_q1_length_cells a_q2_gas a_q2_place a_q2_gas_cells u_q1_doors u_q1_shafts u_q2_moon u_q2_out u_q2_gone z.1 z.2.1 z.2.2.1 z.2.2.2.1 z.2.2.2.2 c_q1_galleries c_q1_one c_q1_two c_q1_length c_q2_open c_q2_gas)) 0 0 := by
  refine ct_V (maxL := 8) (cc := cX7_findBest) (by decide) rfl (Nat.le_of_ble_eq_true rfl) rfl (fun p e s m args below meth c A Q X _ hret => ?_)
  have hret := hret ()
  have h : (Option.bind (f_X7_findWays c_ways_lengths c_q1_galleries c_q1_one c_q1_two c_q1_length c_q2_open) fun z_1 => Option.bind (f_X7_startOrder c_size c_order z_1 v3 v4) fun z_2 => if z_2.1 = 0 then some ((-1), z_2.2.1, c_best, z_2.2.2, z_1) else f_X7_findBest_b31 z_2.2.1 z_1 c_q2_gas v3 FU (-1) c_best z_2.2.2 1 0 : Option (Int32 × Int32 × A32 × A32 × A32)) = some z := h
  refine g_aload_n X 0 rfl rfl dX7_findBest_0 rfl ?_
  refine g_iconst (v := (-1)) X dX7_findBest_1 (by decide) rfl ?_
  refine g_putf (C := RX7) (T := TX7) (N := 5) (ty := .int) (ws' := (w_X7_findBest cA a_me a_q1 a_q2 a_best a_order a_ways a_best_cells a_order_cells a_ways_lengths a_ways_lengths_cells a_q1_one a_q1_two a_q1_length a_q1_draught a_q1_one_cells a_q1_two_cells a_q1_length_cells a_q2_gas a_q2_place a_q2_gas_cells u_q1_doors u_q1_shafts u_q2_moon u_q2_out u_q2_gone (-1) c_size c_best c_order c_ways_lengths c_q1_galleries c_q1_one c_q1_two c_q1_length c_q2_open c_q2_gas)) X 0 tyX7 tyX7_ok nmX7 rfl vc_X7 1 (by decide) iw_X7_findBest_X7 fl_X7_findBest_X7_1 rfl rfl pd_X7_1 rfl rfl (Nat.le_of_ble_eq_true rfl) rfl dX7_findBest_2 rfl ?_
  refine g_aload_n X 0 rfl rfl dX7_findBest_5 rfl ?_
  refine g_aload_n X 1 rfl rfl dX7_findBest_6 rfl ?_
  refine g_aload_n X 2 rfl rfl dX7_findBest_7 rfl ?_
  refine g_getf (C := RX3) (T := TX3) (N := 6) (v := .int c_q2_open) X 15 rfl vc_X3 0 (by decide) iw_X7_findBest_X3 fl_X7_findBest_X3_0 rfl rfl dX7_findBest_8 rfl ?_
  obtain ⟨z_1, hz_1, h⟩ := bnd_s h
  refine g_callVV (rm := rm_X7_findWays) (As := [.ref a_q1, .int c_q2_open]) (W0 := (w_X7_findWays cA a_me a_q1 a_best a_order a_ways a_ways_lengths a_ways_lengths_cells a_q1_one a_q1_two a_q1_length a_q1_draught a_q1_one_cells a_q1_two_cells a_q1_length_cells (-1) c_size u_q1_doors u_q1_shafts c_ways_lengths c_q1_galleries c_q1_one c_q1_two c_q1_length)) (W1 := (w_X7_findWays cA a_me a_q1 a_best a_order a_ways a_ways_lengths a_ways_lengths_cells a_q1_one a_q1_two a_q1_length a_q1_draught a_q1_one_cells a_q1_two_cells a_q1_length_cells (-1) c_size u_q1_doors u_q1_shafts z_1 c_q1_galleries c_q1_one c_q1_two c_q1_length)) (isC := [0, 5, 6, 7, 8, 9, 10, 11, 12, 13, 14]) (isR := [1, 2, 3, 4, 15, 16, 17]) (perm := [7, 0, 1, 2, 3, 8, 9, 10, 11, 12, 13, 14, 15, 16, 17, 4, 5, 6]) (ws' := (w_X7_findBest cA a_me a_q1 a_q2 a_best a_order a_ways a_best_cells a_order_cells a_ways_lengths a_ways_lengths_cells a_q1_one a_q1_two a_q1_length a_q1_draught a_q1_one_cells a_q1_two_cells a_q1_length_cells a_q2_gas a_q2_place a_q2_gas_cells u_q1_doors u_q1_shafts u_q2_moon u_q2_out u_q2_gone (-1) c_size c_best c_order z_1 c_q1_galleries c_q1_one c_q1_two c_q1_length c_q2_open c_q2_gas)) X (c_X7_findWays l D cA a_me a_q1 a_best a_order a_ways a_ways_lengths a_ways_lengths_cells a_q1_one a_q1_two a_q1_length a_q1_draught a_q1_one_cells a_q1_two_cells a_q1_length_cells (-1) c_size u_q1_doors u_q1_shafts c_ways_lengths c_q1_galleries c_q1_one c_q1_two c_q1_length c_q2_open _ hz_1) 0 rfl rfl rfl gX7_findBest_X7_findWays rfl rfl rfl ⟨rfl, hd_X7_findWays⟩ ⟨Nat.le_of_ble_eq_true rfl, Nat.le_of_ble_eq_true rfl⟩ rfl rfl (Nat.le_of_ble_eq_true rfl) rfl (by decide) rfl (by decide) (by decide) ⟨Nat.zero_le _, Nat.zero_le _⟩ rfl (by decide) dX7_findBest_11 rfl ?_
  refine g_aload_n X 0 rfl rfl dX7_findBest_14 rfl ?_
  refine g_iload_n X 3 rfl rfl dX7_findBest_15 rfl ?_
  refine g_iload X 4 rfl dX7_findBest_16 rfl ?_
  obtain ⟨z_2, hz_2, h⟩ := bnd_s h
  refine g_callVI (rm := rm_X7_startOrder) (As := [.int v3, .int v4]) (r := z_2.1) (W0 := (w_X7_startOrder cA a_me a_best a_order a_ways a_order_cells a_ways_lengths a_ways_lengths_cells (-1) c_size c_order z_1)) (W1 := (w_X7_startOrder cA a_me a_best a_order a_ways a_order_cells a_ways_lengths a_ways_lengths_cells (-1) z_2.2.1 z_2.2.2 z_1)) (isC := [0, 3, 4, 5, 6, 7]) (isR := [1, 2, 8, 9, 10, 11, 12, 13, 14, 15, 16, 17]) (perm := [12, 0, 1, 13, 14, 15, 16, 17, 2, 3, 4, 5, 6, 7, 8, 9, 10, 11]) (ws' := (w_X7_findBest cA a_me a_q1 a_q2 a_best a_order a_ways a_best_cells a_order_cells a_ways_lengths a_ways_lengths_cells a_q1_one a_q1_two a_q1_length a_q1_draught a_q1_one_cells a_q1_two_cells a_q1_length_cells a_q2_gas a_q2_place a_q2_gas_cells u_q1_doors u_q1_shafts u_q2_moon u_q2_out u_q2_gone (-1) z_2.2.1 c_best z_2.2.2 z_1 c_q1_galleries c_q1_one c_q1_two c_q1_length c_q2_open c_q2_gas)) X (c_X7_startOrder l D cA a_me a_best a_order a_ways a_order_cells a_ways_lengths a_ways_lengths_cells (-1) c_size c_order z_1 v3 v4 _ hz_2) 0 rfl rfl rfl gX7_findBest_X7_startOrder rfl rfl rfl ⟨rfl, hd_X7_startOrder⟩ ⟨Nat.le_of_ble_eq_true rfl, Nat.le_of_ble_eq_true rfl⟩ rfl rfl (Nat.le_of_ble_eq_true rfl) rfl (by decide) rfl (by decide) (by decide) ⟨Nat.zero_le _, Nat.zero_le _⟩ rfl (by decide) dX7_findBest_18 rfl ?_
  refine g_if_ne (tgt := 25) X dX7_findBest_21 (by decide) rfl h (fun c_3 h => ?_) (fun c_3 h => ?_)
  · refine g_iconst (v := 1) X dX7_findBest_25 (by decide) rfl ?_
    refine g_istore (lv' := [(5, .int 1), (0, .ref a_me), (1, .ref a_q1), (2, .ref a_q2), (3, .int v3), (4, .int v4)]) X (by decide) rfl dX7_findBest_26 rfl ?_
    refine g_iconst (v := 0) X dX7_findBest_28 (by decide) rfl ?_
    refine g_istore (lv' := [(6, .int 0), (5, .int 1), (0, .ref a_me), (1, .ref a_q1), (2, .ref a_q2), (3, .int v3), (4, .int v4)]) X (by decide) rfl dX7_findBest_29 rfl ?_
    refine g_lvs [2, 4, 5, 1, 0] rfl ?_
    exact t_X7_findBest_b31 X hret _ _ _ _ _ _ h
  · cases Option.some.inj h
    exact hret _ _ dX7_findBest_24
