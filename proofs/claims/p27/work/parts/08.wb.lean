abbrev rm_X0_spread : Room := { frames := 1, cells := 0, slots := 0, locals := 22 }
theorem hd_X0_spread : yX0_spread.cls ≠ "java/lang/invoke/MethodHandle" ∧ yX0_spread.cls ≠ "java/lang/invoke/VarHandle" ∧ (parseMethodDescriptor yX0_spread.desc).map (fun d => d.parameters.length) = some 3 := by decide +kernel
theorem iw_X0_spread_X0 : ∀ w ∈ wsX00, w ∈ wsX0_spread := fun w h => List.mem_cons_of_mem _ (List.mem_append_left _ (List.mem_append_right _ h))
theorem fl_X0_spread_X0_3 : Cond.fieldLink RX0 23 RX0 (TX0 3).2.1 (TX0 3).2.2.1 ∈ wsX0_spread := List.mem_of_getElem? (i := 1) rfl
abbrev w_X0_spread (cA : ClassId) (a_me a_height a_into a_nearest a_nearest_cells : Nat) (u_breathing : Int32) (c_nearest : A32) : va_W := [(a_me, .inr (0, [.ref a_height, .ref a_into, .int u_breathing, .ref a_nearest])), (a_nearest, .inr (8, [.ref a_nearest_cells])), (a_nearest_cells, .inl (cA, 7, .inl c_nearest))]
set_option maxHeartbeats 4000000 in
set_option maxRecDepth 100000 in
theorem c_X0_spread (l : Launch) (D : va_G) (cA : ClassId) (a_me a_height a_into a_nearest a_nearest_cells : Nat) (u_breathing : Int32) (c_nearest : A32) (v1 : Int32) (v2 : Int32) (v3 : Int32) (z : Int32 × A32) (h : f_X0_spread c_nearest v1 v2 v3 = some z) : CtI l yX0_spread wsX0_spread rm_X0_spread D cA [.ref a_me, .int v1, .int v2, .int v3] (w_X0_spread cA a_me a_height a_into a_nearest a_nearest_cells u_breathing c_nearest) z.1 (w_X0_spread cA a_me a_height a_into a_nearest a_nearest_cells u_breathing z.2) := by
  refine ct_I (maxL := 4) (ty := .int) (cc := cX0_spread) (by decide) rfl (Nat.le_of_ble_eq_true rfl) rfl (fun p e s m args below meth c A Q X hret => ?_)
  have h : (Option.bind (f_X10_bit v3 v1) fun z_1 => if z_1 = 0 then some (0, c_nearest) else Option.bind (f_X10_bit v3 v2) fun z_3 => if z_3 = 1 then some (0, c_nearest) else Option.bind (f_X8_get 7 c_nearest v2) fun z_5 => Option.bind (f_X8_get 7 c_nearest v1) fun z_6 => Option.bind (f_X8_set 7 c_nearest v2 (z_5 ||| z_6)) fun z_7 => some (1 <<< (v2 &&& 31), z_7) : Option (Int32 × A32)) = some z := h
  refine g_iload_n X 3 rfl rfl dX0_spread_0 rfl ?_
  refine g_iload_n X 1 rfl rfl dX0_spread_1 rfl ?_
  obtain ⟨z_1, hz_1, h⟩ := bnd_s h
  refine g_callSNI (rm := rm_X10_bit) (As := [.int v3, .int v1]) (r := z_1) (W0 := []) (W1 := []) (isC := []) (isR := [0, 1, 2]) (perm := [0, 1, 2]) (ws' := (w_X0_spread cA a_me a_height a_into a_nearest a_nearest_cells u_breathing c_nearest)) X (c_X10_bit l D cA v3 v1 _ hz_1) gX0_spread_X10_bit_n54 (by decide +kernel) (by decide +kernel) (by decide +kernel) rfl rfl rfl hd_X10_bit ⟨Nat.le_of_ble_eq_true rfl, Nat.le_of_ble_eq_true rfl⟩ rfl rfl (Nat.le_of_ble_eq_true rfl) rfl (by decide +kernel) rfl (by decide +kernel) (by decide +kernel) ⟨Nat.zero_le _, Nat.zero_le _⟩ rfl (by decide +kernel) dX0_spread_2 rfl ?_
  refine g_if_eq (tgt := 17) X dX0_spread_5 (by decide) rfl h (fun c_2 h => ?_) (fun c_2 h => ?_)
  · refine g_iconst (v := 0) X dX0_spread_17 (by decide) rfl ?_
    cases Option.some.inj h
    exact hret _ _ dX0_spread_18 rfl
  · refine g_iload_n X 3 rfl rfl dX0_spread_8 rfl ?_
    refine g_iload_n X 2 rfl rfl dX0_spread_9 rfl ?_
    obtain ⟨z_3, hz_3, h⟩ := bnd_s h
    refine g_callSNI (rm := rm_X10_bit) (As := [.int v3, .int v2]) (r := z_3) (W0 := []) (W1 := []) (isC := []) (isR := [0, 1, 2]) (perm := [0, 1, 2]) (ws' := (w_X0_spread cA a_me a_height a_into a_nearest a_nearest_cells u_breathing c_nearest)) X (c_X10_bit l D cA v3 v2 _ hz_3) gX0_spread_X10_bit_n54 (by decide +kernel) (by decide +kernel) (by decide +kernel) rfl rfl rfl hd_X10_bit ⟨Nat.le_of_ble_eq_true rfl, Nat.le_of_ble_eq_true rfl⟩ rfl rfl (Nat.le_of_ble_eq_true rfl) rfl (by decide +kernel) rfl (by decide +kernel) (by decide +kernel) ⟨Nat.zero_le _, Nat.zero_le _⟩ rfl (by decide +kernel) dX0_spread_10 rfl ?_
    refine g_iconst (v := 1) X dX0_spread_13 (by decide) rfl ?_
    refine g_icmp_ne (tgt := 19) X dX0_spread_14 (by decide) rfl h (fun c_4 h => ?_) (fun c_4 h => ?_)
    · refine g_aload_n X 0 rfl rfl dX0_spread_19 rfl ?_
      refine g_getf (C := RX0) (T := TX0) (N := 4) (v := .ref a_nearest) X 0 rfl vc_X0 3 (by decide) iw_X0_spread_X0 fl_X0_spread_X0_3 rfl rfl dX0_spread_20 rfl ?_
      refine g_iload_n X 2 rfl rfl dX0_spread_23 rfl ?_
      refine g_aload_n X 0 rfl rfl dX0_spread_24 rfl ?_
      refine g_getf (C := RX0) (T := TX0) (N := 4) (v := .ref a_nearest) X 0 rfl vc_X0 3 (by decide) iw_X0_spread_X0 fl_X0_spread_X0_3 rfl rfl dX0_spread_25 rfl ?_
      refine g_iload_n X 2 rfl rfl dX0_spread_28 rfl ?_
      obtain ⟨z_5, hz_5, h⟩ := bnd_s h
      refine g_callVI (rm := rm_X8_get) (As := [.int v2]) (r := z_5) (W0 := (w_X8_get cA a_nearest a_nearest_cells 7 c_nearest)) (W1 := (w_X8_get cA a_nearest a_nearest_cells 7 c_nearest)) (isC := [1, 2]) (isR := [0]) (perm := [0, 1, 2]) (ws' := (w_X0_spread cA a_me a_height a_into a_nearest a_nearest_cells u_breathing c_nearest)) X (c_X8_get l D cA a_nearest a_nearest_cells 7 c_nearest v2 _ hz_5) 1 rfl rfl rfl gX0_spread_X8_get rfl rfl rfl ⟨rfl, hd_X8_get⟩ ⟨Nat.le_of_ble_eq_true rfl, Nat.le_of_ble_eq_true rfl⟩ rfl rfl (Nat.le_of_ble_eq_true rfl) rfl (by decide +kernel) rfl (by decide +kernel) (by decide +kernel) ⟨Nat.zero_le _, Nat.zero_le _⟩ rfl (by decide +kernel) dX0_spread_29 rfl ?_
      refine g_aload_n X 0 rfl rfl dX0_spread_32 rfl ?_
      refine g_getf (C := RX0) (T := TX0) (N := 4) (v := .ref a_nearest) X 0 rfl vc_X0 3 (by decide) iw_X0_spread_X0 fl_X0_spread_X0_3 rfl rfl dX0_spread_33 rfl ?_
      refine g_iload_n X 1 rfl rfl dX0_spread_36 rfl ?_
      obtain ⟨z_6, hz_6, h⟩ := bnd_s h
      refine g_callVI (rm := rm_X8_get) (As := [.int v1]) (r := z_6) (W0 := (w_X8_get cA a_nearest a_nearest_cells 7 c_nearest)) (W1 := (w_X8_get cA a_nearest a_nearest_cells 7 c_nearest)) (isC := [1, 2]) (isR := [0]) (perm := [0, 1, 2]) (ws' := (w_X0_spread cA a_me a_height a_into a_nearest a_nearest_cells u_breathing c_nearest)) X (c_X8_get l D cA a_nearest a_nearest_cells 7 c_nearest v1 _ hz_6) 1 rfl rfl rfl gX0_spread_X8_get rfl rfl rfl ⟨rfl, hd_X8_get⟩ ⟨Nat.le_of_ble_eq_true rfl, Nat.le_of_ble_eq_true rfl⟩ rfl rfl (Nat.le_of_ble_eq_true rfl) rfl (by decide +kernel) rfl (by decide +kernel) (by decide +kernel) ⟨Nat.zero_le _, Nat.zero_le _⟩ rfl (by decide +kernel) dX0_spread_37 rfl ?_
      refine g_ior X dX0_spread_40 rfl ?_
      obtain ⟨z_7, hz_7, h⟩ := bnd_s h
      refine g_callVV (rm := rm_X8_set) (As := [.int v2, .int (z_5 ||| z_6)]) (W0 := (w_X8_set cA a_nearest a_nearest_cells 7 c_nearest)) (W1 := (w_X8_set cA a_nearest a_nearest_cells 7 z_7)) (isC := [1, 2]) (isR := [0]) (perm := [0, 1, 2]) (ws' := (w_X0_spread cA a_me a_height a_into a_nearest a_nearest_cells u_breathing z_7)) X (c_X8_set l D cA a_nearest a_nearest_cells 7 c_nearest v2 (z_5 ||| z_6) _ hz_7) 1 rfl rfl rfl gX0_spread_X8_set rfl rfl rfl ⟨rfl, hd_X8_set⟩ ⟨Nat.le_of_ble_eq_true rfl, Nat.le_of_ble_eq_true rfl⟩ rfl rfl (Nat.le_of_ble_eq_true rfl) rfl (by decide +kernel) rfl (by decide +kernel) (by decide +kernel) ⟨Nat.zero_le _, Nat.zero_le _⟩ rfl (by decide +kernel) dX0_spread_41 rfl ?_
      refine g_iconst (v := 1) X dX0_spread_44 (by decide) rfl ?_
      refine g_iload_n X 2 rfl rfl dX0_spread_45 rfl ?_
      refine g_ishl X dX0_spread_46 rfl ?_
      cases Option.some.inj h
      exact hret _ _ dX0_spread_47 rfl
    · refine g_iconst (v := 0) X dX0_spread_17 (by decide) rfl ?_
      cases Option.some.inj h
      exact hret _ _ dX0_spread_18 rfl
abbrev rm_X0_findNearest : Room := { frames := 2, cells := 0, slots := 0, locals := 45 }
theorem hd_X0_findNearest : yX0_findNearest.cls ≠ "java/lang/invoke/MethodHandle" ∧ yX0_findNearest.cls ≠ "java/lang/invoke/VarHandle" ∧ (parseMethodDescriptor yX0_findNearest.desc).map (fun d => d.parameters.length) = some 2 := by decide +kernel
theorem iw_X0_findNearest_X0 : ∀ w ∈ wsX00, w ∈ wsX0_findNearest := fun w h => List.mem_cons_of_mem _ (List.mem_append_left _ (List.mem_append_left _ (List.mem_append_right _ h)))
theorem iw_X0_findNearest_X5 : ∀ w ∈ wsX50, w ∈ wsX0_findNearest := fun w h => List.mem_cons_of_mem _ (List.mem_append_left _ (List.mem_append_right _ h))
theorem fl_X0_findNearest_X5_6 : Cond.fieldLink RX0 45 RX5 (TX5 6).2.1 (TX5 6).2.2.1 ∈ wsX0_findNearest := List.mem_of_getElem? (i := 2) rfl
theorem fl_X0_findNearest_X0_3 : Cond.fieldLink RX0 23 RX0 (TX0 3).2.1 (TX0 3).2.2.1 ∈ wsX0_findNearest := List.mem_of_getElem? (i := 1) rfl
theorem fl_X0_findNearest_X5_0 : Cond.fieldLink RX0 51 RX5 (TX5 0).2.1 (TX5 0).2.2.1 ∈ wsX0_findNearest := List.mem_of_getElem? (i := 3) rfl
theorem fl_X0_findNearest_X5_1 : Cond.fieldLink RX0 58 RX5 (TX5 1).2.1 (TX5 1).2.2.1 ∈ wsX0_findNearest := List.mem_of_getElem? (i := 4) rfl
theorem fl_X0_findNearest_X5_2 : Cond.fieldLink RX0 61 RX5 (TX5 2).2.1 (TX5 2).2.2.1 ∈ wsX0_findNearest := List.mem_of_getElem? (i := 5) rfl
abbrev w_X0_findNearest (cA : ClassId) (a_me a_q1 a_height a_into a_nearest a_nearest_cells a_q1_one a_q1_two a_q1_length a_q1_draught a_q1_one_cells a_q1_two_cells : Nat) (u_breathing : Int32) (u_q1_doors : Int32) (c_nearest : A32) (c_q1_galleries : Int32) (c_q1_shafts : Int32) (c_q1_one : A32) (c_q1_two : A32) : va_W := [(a_me, .inr (0, [.ref a_height, .ref a_into, .int u_breathing, .ref a_nearest])), (a_nearest, .inr (8, [.ref a_nearest_cells])), (a_nearest_cells, .inl (cA, 7, .inl c_nearest)), (a_q1, .inr (5, [.int c_q1_galleries, .ref a_q1_one, .ref a_q1_two, .ref a_q1_length, .int u_q1_doors, .ref a_q1_draught, .int c_q1_shafts])), (a_q1_one, .inr (8, [.ref a_q1_one_cells])), (a_q1_one_cells, .inl (cA, 10, .inl c_q1_one)), (a_q1_two, .inr (8, [.ref a_q1_two_cells])), (a_q1_two_cells, .inl (cA, 10, .inl c_q1_two))]
set_option maxHeartbeats 4000000 in
set_option maxRecDepth 100000 in
theorem t_X0_findNearest_b126 {l : Launch} {D : va_G} {cA : ClassId} {p : Program} {e : Env} {s : State} {m : MethodId} {args : Array Value} {below : List Frame} {meth : Method} {c : Code} {A : Nat → Prop} {Q : State → Prop} {z : A32} {a_me a_q1 a_height a_into a_nearest a_nearest_cells a_q1_one a_q1_two a_q1_length a_q1_draught a_q1_one_cells a_q1_two_cells : Nat} {u_breathing : Int32} {u_q1_doors : Int32} {c_q1_shafts : Int32} {c_nearest : A32} {c_q1_galleries : Int32} {c_q1_one : A32} {c_q1_two : A32} {v2 : Int32} {v3 : Int32} {v4 : Int32} {v5 : Int32} {v6 : Int32} {k38 : A32 → Int32 → Int32 → Option (A32)} {k51 : A32 → Int32 → Int32 → Option (A32)} (X : GX p s m args c cX0_findNearest RX0 wsX0_findNearest D cA A 7) (hret : RtV p l e rm_X0_findNearest s m args below meth c cX0_findNearest D A 7 0 0 Q (w_X0_findNearest cA a_me a_q1 a_height a_into a_nearest a_nearest_cells a_q1_one a_q1_two a_q1_length a_q1_draught a_q1_one_cells a_q1_two_cells u_breathing u_q1_doors z c_q1_galleries c_q1_shafts c_q1_one c_q1_two)) (hk38 : ∀ (c_nearest : A32) (v3 : Int32) (v4 : Int32), k38 c_nearest v3 v4 = some z → G p l e rm_X0_findNearest s m args below meth c D A 7 0 0 Q 38 [(0, .ref a_me), (1, .ref a_q1), (2, .int v2), (3, .int v3), (4, .int v4)] [] (w_X0_findNearest cA a_me a_q1 a_height a_into a_nearest a_nearest_cells a_q1_one a_q1_two a_q1_length a_q1_draught a_q1_one_cells a_q1_two_cells u_breathing u_q1_doors c_nearest c_q1_galleries c_q1_shafts c_q1_one c_q1_two)) (hk51 : ∀ (c_nearest : A32) (v5 : Int32) (v6 : Int32), k51 c_nearest v5 v6 = some z → G p l e rm_X0_findNearest s m args below meth c D A 7 0 0 Q 51 [(0, .ref a_me), (1, .ref a_q1), (2, .int v2), (3, .int v3), (4, .int v4), (5, .int v5), (6, .int v6)] [] (w_X0_findNearest cA a_me a_q1 a_height a_into a_nearest a_nearest_cells a_q1_one a_q1_two a_q1_length a_q1_draught a_q1_one_cells a_q1_two_cells u_breathing u_q1_doors c_nearest c_q1_galleries c_q1_shafts c_q1_one c_q1_two)) (h : f_X0_findNearest_b126 k38 k51 c_nearest c_q1_galleries c_q1_one c_q1_two v2 v3 v4 v5 v6 = some z) : G p l e rm_X0_findNearest s m args below meth c D A 7 0 0 Q 126 [(0, .ref a_me), (1, .ref a_q1), (2, .int v2), (3, .int v3), (4, .int v4), (5, .int v5), (6, .int v6)] [] (w_X0_findNearest cA a_me a_q1 a_height a_into a_nearest a_nearest_cells a_q1_one a_q1_two a_q1_length a_q1_draught a_q1_one_cells a_q1_two_cells u_breathing u_q1_doors c_nearest c_q1_galleries c_q1_shafts c_q1_one c_q1_two) := by
  have h : (nam (v6 + 1) fun v6_1 => k51 c_nearest v5 v6_1 : Option (A32)) = some z := h
  obtain ⟨v6_1, ev6_1, h⟩ := nam_s h
  refine g_iinc (v := v6_1) (lv' := [(6, .int v6_1), (0, .ref a_me), (1, .ref a_q1), (2, .int v2), (3, .int v3), (4, .int v4), (5, .int v5)]) X 6 rfl (by rw [ev6_1]; rfl) (by decide) rfl dX0_findNearest_126 rfl ?_
  refine g_goto (tgt := 51) X dX0_findNearest_129 (by decide) ?_
  refine g_lvs [1, 2, 3, 4, 5, 6, 0] rfl ?_
  exact hk51 _ _ _ h
set_option maxHeartbeats 4000000 in
set_option maxRecDepth 100000 in
theorem t_X0_findNearest_b51 {l : Launch} {D : va_G} {cA : ClassId} {p : Program} {e : Env} {s : State} {m : MethodId} {args : Array Value} {below : List Frame} {meth : Method} {c : Code} {A : Nat → Prop} {Q : State → Prop} {z : A32} {a_me a_q1 a_height a_into a_nearest a_nearest_cells a_q1_one a_q1_two a_q1_length a_q1_draught a_q1_one_cells a_q1_two_cells : Nat} {u_breathing : Int32} {u_q1_doors : Int32} {c_q1_shafts : Int32} {c_q1_galleries : Int32} {c_q1_one : A32} {c_q1_two : A32} {v2 : Int32} {v3 : Int32} {v4 : Int32} {k38 : A32 → Int32 → Int32 → Option (A32)} (X : GX p s m args c cX0_findNearest RX0 wsX0_findNearest D cA A 7) (hret : RtV p l e rm_X0_findNearest s m args below meth c cX0_findNearest D A 7 0 0 Q (w_X0_findNearest cA a_me a_q1 a_height a_into a_nearest a_nearest_cells a_q1_one a_q1_two a_q1_length a_q1_draught a_q1_one_cells a_q1_two_cells u_breathing u_q1_doors z c_q1_galleries c_q1_shafts c_q1_one c_q1_two)) (hk38 : ∀ (c_nearest : A32) (v3 : Int32) (v4 : Int32), k38 c_nearest v3 v4 = some z → G p l e rm_X0_findNearest s m args below meth c D A 7 0 0 Q 38 [(0, .ref a_me), (1, .ref a_q1), (2, .int v2), (3, .int v3), (4, .int v4)] [] (w_X0_findNearest cA a_me a_q1 a_height a_into a_nearest a_nearest_cells a_q1_one a_q1_two a_q1_length a_q1_draught a_q1_one_cells a_q1_two_cells u_breathing u_q1_doors c_nearest c_q1_galleries c_q1_shafts c_q1_one c_q1_two)) : ∀ (fu : Nat) (c_nearest : A32) (v5 : Int32) (v6 : Int32), f_X0_findNearest_b51 k38 c_q1_galleries c_q1_one c_q1_two v2 v3 v4 fu c_nearest v5 v6 = some z → G p l e rm_X0_findNearest s m args below meth c D A 7 0 0 Q 51 [(0, .ref a_me), (1, .ref a_q1), (2, .int v2), (3, .int v3), (4, .int v4), (5, .int v5), (6, .int v6)] [] (w_X0_findNearest cA a_me a_q1 a_height a_into a_nearest a_nearest_cells a_q1_one a_q1_two a_q1_length a_q1_draught a_q1_one_cells a_q1_two_cells u_breathing u_q1_doors c_nearest c_q1_galleries c_q1_shafts c_q1_one c_q1_two) := by
  intro fu
  induction fu with
  | zero => intro c_nearest v5 v6 h; exact absurd (show (none : Option (A32)) = some z from h) (by simp)
  | succ fu ih =>
    intro c_nearest v5 v6 h
    have h : (if c_q1_galleries ≤ v6 then if v5 = 0 then some c_nearest else nam (v3 ||| v5) fun v3_3 => nam (v4 + 1) fun v4_4 => k38 c_nearest v3_3 v4_4 else Option.bind (f_X10_bit v2 v6) fun z_5 => if z_5 = 1 then Option.bind (f_X8_get 10 c_q1_one v6) fun z_7 => Option.bind (f_X8_get 10 c_q1_two v6) fun z_8 => Option.bind (f_X0_spread c_nearest z_7 z_8 v3) fun z_9 => nam (v5 ||| z_9.1) fun v5_10 => Option.bind (f_X8_get 10 c_q1_two v6) fun z_11 => Option.bind (f_X8_get 10 c_q1_one v6) fun z_12 => Option.bind (f_X0_spread z_9.2 z_11 z_12 v3) fun z_13 => nam (v5_10 ||| z_13.1) fun v5_14 => f_X0_findNearest_b126 k38 (f_X0_findNearest_b51 k38 c_q1_galleries c_q1_one c_q1_two v2 v3 v4 fu) z_13.2 c_q1_galleries c_q1_one c_q1_two v2 v3 v4 v5_14 v6 else f_X0_findNearest_b126 k38 (f_X0_findNearest_b51 k38 c_q1_galleries c_q1_one c_q1_two v2 v3 v4 fu) c_nearest c_q1_galleries c_q1_one c_q1_two v2 v3 v4 v5 v6 : Option (A32)) = some z := h
    refine g_iload X 6 rfl dX0_findNearest_51 rfl ?_
    refine g_aload_n X 1 rfl rfl dX0_findNearest_53 rfl ?_
    refine g_getf (C := RX5) (T := TX5) (N := 7) (v := .int c_q1_galleries) X 3 rfl vc_X5 0 (by decide) iw_X0_findNearest_X5 fl_X0_findNearest_X5_0 rfl rfl dX0_findNearest_54 rfl ?_
    refine g_icmp_ge (tgt := 132) X dX0_findNearest_57 (by decide) rfl h (fun c_1 h => ?_) (fun c_1 h => ?_)
    · refine g_iload X 5 rfl dX0_findNearest_132 rfl ?_
      refine g_if_ne (tgt := 138) X dX0_findNearest_134 (by decide) rfl h (fun c_2 h => ?_) (fun c_2 h => ?_)
      · refine g_iload_n X 3 rfl rfl dX0_findNearest_138 rfl ?_
        refine g_iload X 5 rfl dX0_findNearest_139 rfl ?_
        refine g_ior X dX0_findNearest_141 rfl ?_
        refine g_nami h (fun v3_3 h => ?_)
        refine g_istore_n (lv' := [(3, .int v3_3), (0, .ref a_me), (1, .ref a_q1), (2, .int v2), (4, .int v4), (5, .int v5), (6, .int v6)]) X rfl (by decide) rfl dX0_findNearest_142 rfl ?_
        obtain ⟨v4_4, ev4_4, h⟩ := nam_s h
        refine g_iinc (v := v4_4) (lv' := [(4, .int v4_4), (3, .int v3_3), (0, .ref a_me), (1, .ref a_q1), (2, .int v2), (5, .int v5), (6, .int v6)]) X 4 rfl (by rw [ev4_4]; rfl) (by decide) rfl dX0_findNearest_143 rfl ?_
        refine g_goto (tgt := 38) X dX0_findNearest_146 (by decide) ?_
        refine g_lvs [2, 3, 4, 1, 0] rfl ?_
        exact hk38 _ _ _ h
      · cases Option.some.inj h
        exact hret _ _ dX0_findNearest_137
    · refine g_iload_n X 2 rfl rfl dX0_findNearest_60 rfl ?_
      refine g_iload X 6 rfl dX0_findNearest_61 rfl ?_
      obtain ⟨z_5, hz_5, h⟩ := bnd_s h
      refine g_callSNI (rm := rm_X10_bit) (As := [.int v2, .int v6]) (r := z_5) (W0 := []) (W1 := []) (isC := []) (isR := [0, 1, 2, 3, 4, 5, 6, 7]) (perm := [0, 1, 2, 3, 4, 5, 6, 7]) (ws' := (w_X0_findNearest cA a_me a_q1 a_height a_into a_nearest a_nearest_cells a_q1_one a_q1_two a_q1_length a_q1_draught a_q1_one_cells a_q1_two_cells u_breathing u_q1_doors c_nearest c_q1_galleries c_q1_shafts c_q1_one c_q1_two)) X (c_X10_bit l D cA v2 v6 _ hz_5) gX0_findNearest_X10_bit_n54 (by decide +kernel) (by decide +kernel) (by decide +kernel) rfl rfl rfl hd_X10_bit ⟨Nat.le_of_ble_eq_true rfl, Nat.le_of_ble_eq_true rfl⟩ rfl rfl (Nat.le_of_ble_eq_true rfl) rfl (by decide +kernel) rfl (by decide +kernel) (by decide +kernel) ⟨Nat.zero_le _, Nat.zero_le _⟩ rfl (by decide +kernel) dX0_findNearest_63 rfl ?_
      refine g_iconst (v := 1) X dX0_findNearest_66 (by decide) rfl ?_
      refine g_icmp_ne (tgt := 126) X dX0_findNearest_67 (by decide) rfl h (fun c_6 h => ?_) (fun c_6 h => ?_)
      · exact t_X0_findNearest_b126 X hret hk38 ih h
      · refine g_iload X 5 rfl dX0_findNearest_70 rfl ?_
        refine g_aload_n X 0 rfl rfl dX0_findNearest_72 rfl ?_
        refine g_aload_n X 1 rfl rfl dX0_findNearest_73 rfl ?_
        refine g_getf (C := RX5) (T := TX5) (N := 7) (v := .ref a_q1_one) X 3 rfl vc_X5 1 (by decide) iw_X0_findNearest_X5 fl_X0_findNearest_X5_1 rfl rfl dX0_findNearest_74 rfl ?_
        refine g_iload X 6 rfl dX0_findNearest_77 rfl ?_
        obtain ⟨z_7, hz_7, h⟩ := bnd_s h
        refine g_callVI (rm := rm_X8_get) (As := [.int v6]) (r := z_7) (W0 := (w_X8_get cA a_q1_one a_q1_one_cells 10 c_q1_one)) (W1 := (w_X8_get cA a_q1_one a_q1_one_cells 10 c_q1_one)) (isC := [4, 5]) (isR := [0, 1, 2, 3, 6, 7]) (perm := [0, 1, 2, 3, 6, 7, 4, 5]) (ws' := (w_X0_findNearest cA a_me a_q1 a_height a_into a_nearest a_nearest_cells a_q1_one a_q1_two a_q1_length a_q1_draught a_q1_one_cells a_q1_two_cells u_breathing u_q1_doors c_nearest c_q1_galleries c_q1_shafts c_q1_one c_q1_two)) X (c_X8_get l D cA a_q1_one a_q1_one_cells 10 c_q1_one v6 _ hz_7) 4 rfl rfl rfl gX0_findNearest_X8_get rfl rfl rfl ⟨rfl, hd_X8_get⟩ ⟨Nat.le_of_ble_eq_true rfl, Nat.le_of_ble_eq_true rfl⟩ rfl rfl (Nat.le_of_ble_eq_true rfl) rfl (by decide +kernel) rfl (by decide +kernel) (by decide +kernel) ⟨Nat.zero_le _, Nat.zero_le _⟩ rfl (by decide +kernel) dX0_findNearest_79 rfl ?_
        refine g_aload_n X 1 rfl rfl dX0_findNearest_82 rfl ?_
        refine g_getf (C := RX5) (T := TX5) (N := 7) (v := .ref a_q1_two) X 3 rfl vc_X5 2 (by decide) iw_X0_findNearest_X5 fl_X0_findNearest_X5_2 rfl rfl dX0_findNearest_83 rfl ?_
        refine g_iload X 6 rfl dX0_findNearest_86 rfl ?_
        obtain ⟨z_8, hz_8, h⟩ := bnd_s h
        refine g_callVI (rm := rm_X8_get) (As := [.int v6]) (r := z_8) (W0 := (w_X8_get cA a_q1_two a_q1_two_cells 10 c_q1_two)) (W1 := (w_X8_get cA a_q1_two a_q1_two_cells 10 c_q1_two)) (isC := [6, 7]) (isR := [0, 1, 2, 3, 4, 5]) (perm := [0, 1, 2, 3, 4, 5, 6, 7]) (ws' := (w_X0_findNearest cA a_me a_q1 a_height a_into a_nearest a_nearest_cells a_q1_one a_q1_two a_q1_length a_q1_draught a_q1_one_cells a_q1_two_cells u_breathing u_q1_doors c_nearest c_q1_galleries c_q1_shafts c_q1_one c_q1_two)) X (c_X8_get l D cA a_q1_two a_q1_two_cells 10 c_q1_two v6 _ hz_8) 6 rfl rfl rfl gX0_findNearest_X8_get rfl rfl rfl ⟨rfl, hd_X8_get⟩ ⟨Nat.le_of_ble_eq_true rfl, Nat.le_of_ble_eq_true rfl⟩ rfl rfl (Nat.le_of_ble_eq_true rfl) rfl (by decide +kernel) rfl (by decide +kernel) (by decide +kernel) ⟨Nat.zero_le _, Nat.zero_le _⟩ rfl (by decide +kernel) dX0_findNearest_88 rfl ?_
        refine g_iload_n X 3 rfl rfl dX0_findNearest_91 rfl ?_
        obtain ⟨z_9, hz_9, h⟩ := bnd_s h
        refine g_callVI (rm := rm_X0_spread) (As := [.int z_7, .int z_8, .int v3]) (r := z_9.1) (W0 := (w_X0_spread cA a_me a_height a_into a_nearest a_nearest_cells u_breathing c_nearest)) (W1 := (w_X0_spread cA a_me a_height a_into a_nearest a_nearest_cells u_breathing z_9.2)) (isC := [0, 1, 2]) (isR := [3, 4, 5, 6, 7]) (perm := [5, 6, 7, 0, 1, 2, 3, 4]) (ws' := (w_X0_findNearest cA a_me a_q1 a_height a_into a_nearest a_nearest_cells a_q1_one a_q1_two a_q1_length a_q1_draught a_q1_one_cells a_q1_two_cells u_breathing u_q1_doors z_9.2 c_q1_galleries c_q1_shafts c_q1_one c_q1_two)) X (c_X0_spread l D cA a_me a_height a_into a_nearest a_nearest_cells u_breathing c_nearest z_7 z_8 v3 _ hz_9) 0 rfl rfl rfl gX0_findNearest_X0_spread rfl rfl rfl ⟨rfl, hd_X0_spread⟩ ⟨Nat.le_of_ble_eq_true rfl, Nat.le_of_ble_eq_true rfl⟩ rfl rfl (Nat.le_of_ble_eq_true rfl) rfl (by decide +kernel) rfl (by decide +kernel) (by decide +kernel) ⟨Nat.zero_le _, Nat.zero_le _⟩ rfl (by decide +kernel) dX0_findNearest_92 rfl ?_
        refine g_ior X dX0_findNearest_95 rfl ?_
        refine g_nami h (fun v5_10 h => ?_)
        refine g_istore (lv' := [(5, .int v5_10), (0, .ref a_me), (1, .ref a_q1), (2, .int v2), (3, .int v3), (4, .int v4), (6, .int v6)]) X (by decide) rfl dX0_findNearest_96 rfl ?_
        refine g_iload X 0 rfl dX0_findNearest_98 rfl ?_
        refine g_aload_n X 1 rfl rfl dX0_findNearest_100 rfl ?_
        refine g_aload_n X 2 rfl rfl dX0_findNearest_101 rfl ?_
        refine g_getf (C := RX5) (T := TX5) (N := 7) (v := .ref a_q1_two) X 3 rfl vc_X5 2 (by decide) iw_X0_findNearest_X5 fl_X0_findNearest_X5_2 rfl rfl dX0_findNearest_102 rfl ?_
        refine g_iload X 6 rfl dX0_findNearest_105 rfl ?_
        obtain ⟨z_11, hz_11, h⟩ := bnd_s h
        refine g_callVI (rm := rm_X8_get) (As := [.int v6]) (r := z_11) (W0 := (w_X8_get cA a_q1_two a_q1_two_cells 10 c_q1_two)) (W1 := (w_X8_get cA a_q1_two a_q1_two_cells 10 c_q1_two)) (isC := [6, 7]) (isR := [0, 1, 2, 3, 4, 5]) (perm := [0, 1, 2, 3, 4, 5, 6, 7]) (ws' := (w_X0_findNearest cA a_me a_q1 a_height a_into a_nearest a_nearest_cells a_q1_one a_q1_two a_q1_length a_q1_draught a_q1_one_cells a_q1_two_cells u_breathing u_q1_doors z_9.2 c_q1_galleries c_q1_shafts c_q1_one c_q1_two)) X (c_X8_get l D cA a_q1_two a_q1_two_cells 10 c_q1_two v6 _ hz_11) 6 rfl rfl rfl gX0_findNearest_X8_get rfl rfl rfl ⟨rfl, hd_X8_get⟩ ⟨Nat.le_of_ble_eq_true rfl, Nat.le_of_ble_eq_true rfl⟩ rfl rfl (Nat.le_of_ble_eq_true rfl) rfl (by decide +kernel) rfl (by decide +kernel) (by decide +kernel) ⟨Nat.zero_le _, Nat.zero_le _⟩ rfl (by decide +kernel) dX0_findNearest_107 rfl ?_
        refine g_aload_n X 2 rfl rfl dX0_findNearest_110 rfl ?_
        refine g_getf (C := RX5) (T := TX5) (N := 7) (v := .ref a_q1_one) X 3 rfl vc_X5 1 (by decide) iw_X0_findNearest_X5 fl_X0_findNearest_X5_1 rfl rfl dX0_findNearest_111 rfl ?_
        refine g_iload X 6 rfl dX0_findNearest_114 rfl ?_
        obtain ⟨z_12, hz_12, h⟩ := bnd_s h
        refine g_callVI (rm := rm_X8_get) (As := [.int v6]) (r := z_12) (W0 := (w_X8_get cA a_q1_one a_q1_one_cells 10 c_q1_one)) (W1 := (w_X8_get cA a_q1_one a_q1_one_cells 10 c_q1_one)) (isC := [4, 5]) (isR := [0, 1, 2, 3, 6, 7]) (perm := [0, 1, 2, 3, 6, 7, 4, 5]) (ws' := (w_X0_findNearest cA a_me a_q1 a_height a_into a_nearest a_nearest_cells a_q1_one a_q1_two a_q1_length a_q1_draught a_q1_one_cells a_q1_two_cells u_breathing u_q1_doors z_9.2 c_q1_galleries c_q1_shafts c_q1_one c_q1_two)) X (c_X8_get l D cA a_q1_one a_q1_one_cells 10 c_q1_one v6 _ hz_12) 4 rfl rfl rfl gX0_findNearest_X8_get rfl rfl rfl ⟨rfl, hd_X8_get⟩ ⟨Nat.le_of_ble_eq_true rfl, Nat.le_of_ble_eq_true rfl⟩ rfl rfl (Nat.le_of_ble_eq_true rfl) rfl (by decide +kernel) rfl (by decide +kernel) (by decide +kernel) ⟨Nat.zero_le _, Nat.zero_le _⟩ rfl (by decide +kernel) dX0_findNearest_116 rfl ?_
        refine g_iload_n X 4 rfl rfl dX0_findNearest_119 rfl ?_
        obtain ⟨z_13, hz_13, h⟩ := bnd_s h
        refine g_callVI (rm := rm_X0_spread) (As := [.int z_11, .int z_12, .int v3]) (r := z_13.1) (W0 := (w_X0_spread cA a_me a_height a_into a_nearest a_nearest_cells u_breathing z_9.2)) (W1 := (w_X0_spread cA a_me a_height a_into a_nearest a_nearest_cells u_breathing z_13.2)) (isC := [0, 1, 2]) (isR := [3, 4, 5, 6, 7]) (perm := [5, 6, 7, 0, 1, 2, 3, 4]) (ws' := (w_X0_findNearest cA a_me a_q1 a_height a_into a_nearest a_nearest_cells a_q1_one a_q1_two a_q1_length a_q1_draught a_q1_one_cells a_q1_two_cells u_breathing u_q1_doors z_13.2 c_q1_galleries c_q1_shafts c_q1_one c_q1_two)) X (c_X0_spread l D cA a_me a_height a_into a_nearest a_nearest_cells u_breathing z_9.2 z_11 z_12 v3 _ hz_13) 0 rfl rfl rfl gX0_findNearest_X0_spread rfl rfl rfl ⟨rfl, hd_X0_spread⟩ ⟨Nat.le_of_ble_eq_true rfl, Nat.le_of_ble_eq_true rfl⟩ rfl rfl (Nat.le_of_ble_eq_true rfl) rfl (by decide +kernel) rfl (by decide +kernel) (by decide +kernel) ⟨Nat.zero_le _, Nat.zero_le _⟩ rfl (by decide +kernel) dX0_findNearest_120 rfl ?_
        refine g_ior X dX0_findNearest_123 rfl ?_
        refine g_nami h (fun v5_14 h => ?_)
        refine g_istore (lv' := [(5, .int v5_14), (0, .ref a_me), (1, .ref a_q1), (2, .int v2), (3, .int v3), (4, .int v4), (6, .int v6)]) X (by decide) rfl dX0_findNearest_124 rfl ?_
        refine g_lvs [1, 2, 3, 4, 5, 0, 6] rfl ?_
        exact t_X0_findNearest_b126 X hret hk38 ih h
set_option maxHeartbeats 4000000 in
set_option maxRecDepth 100000 in
theorem t_X0_findNearest_b38 {l : Launch} {D : va_G} {cA : ClassId} {p : Program} {e : Env} {s : State} {m : MethodId} {args : Array Value} {below : List Frame} {meth : Method} {c : Code} {A : Nat → Prop} {Q : State → Prop} {z : A32} {a_me a_q1 a_height a_into a_nearest a_nearest_cells a_q1_one a_q1_two a_q1_length a_q1_draught a_q1_one_cells a_q1_two_cells : Nat} {u_breathing : Int32} {u_q1_doors : Int32} {c_q1_shafts : Int32} {c_q1_galleries : Int32} {c_q1_one : A32} {c_q1_two : A32} {v2 : Int32}  (X : GX p s m args c cX0_findNearest RX0 wsX0_findNearest D cA A 7) (hret : RtV p l e rm_X0_findNearest s m args below meth c cX0_findNearest D A 7 0 0 Q (w_X0_findNearest cA a_me a_q1 a_height a_into a_nearest a_nearest_cells a_q1_one a_q1_two a_q1_length a_q1_draught a_q1_one_cells a_q1_two_cells u_breathing u_q1_doors z c_q1_galleries c_q1_shafts c_q1_one c_q1_two))  : ∀ (fu : Nat) (c_nearest : A32) (v3 : Int32) (v4 : Int32), f_X0_findNearest_b38 c_q1_galleries c_q1_one c_q1_two v2 fu c_nearest v3 v4 = some z → G p l e rm_X0_findNearest s m args below meth c D A 7 0 0 Q 38 [(0, .ref a_me), (1, .ref a_q1), (2, .int v2), (3, .int v3), (4, .int v4)] [] (w_X0_findNearest cA a_me a_q1 a_height a_into a_nearest a_nearest_cells a_q1_one a_q1_two a_q1_length a_q1_draught a_q1_one_cells a_q1_two_cells u_breathing u_q1_doors c_nearest c_q1_galleries c_q1_shafts c_q1_one c_q1_two) := by
  intro fu
  induction fu with
  | zero => intro c_nearest v3 v4 h; exact absurd (show (none : Option (A32)) = some z from h) (by simp)
  | succ fu ih =>
    intro c_nearest v3 v4 h
    have h : (if 7 ≤ v4 then some c_nearest else f_X0_findNearest_b51 (f_X0_findNearest_b38 c_q1_galleries c_q1_one c_q1_two v2 fu) c_q1_galleries c_q1_one c_q1_two v2 v3 v4 FU c_nearest 0 0 : Option (A32)) = some z := h
    refine g_iload X 4 rfl dX0_findNearest_38 rfl ?_
    refine g_bipush (v := 7) X dX0_findNearest_40 (by decide) rfl ?_
    refine g_icmp_ge (tgt := 149) X dX0_findNearest_42 (by decide) rfl h (fun c_1 h => ?_) (fun c_1 h => ?_)
    · cases Option.some.inj h
      exact hret _ _ dX0_findNearest_149
    · refine g_iconst (v := 0) X dX0_findNearest_45 (by decide) rfl ?_
      refine g_istore (lv' := [(5, .int 0), (0, .ref a_me), (1, .ref a_q1), (2, .int v2), (3, .int v3), (4, .int v4)]) X (by decide) rfl dX0_findNearest_46 rfl ?_
      refine g_iconst (v := 0) X dX0_findNearest_48 (by decide) rfl ?_
      refine g_istore (lv' := [(6, .int 0), (5, .int 0), (0, .ref a_me), (1, .ref a_q1), (2, .int v2), (3, .int v3), (4, .int v4)]) X (by decide) rfl dX0_findNearest_49 rfl ?_
      refine g_lvs [2, 3, 4, 5, 6, 1, 0] rfl ?_
      exact t_X0_findNearest_b51 X hret ih _ _ _ _ h
set_option maxHeartbeats 4000000 in
set_option maxRecDepth 100000 in
theorem t_X0_findNearest_b2 {l : Launch} {D : va_G} {cA : ClassId} {p : Program} {e : Env} {s : State} {m : MethodId} {args : Array Value} {below : List Frame} {meth : Method} {c : Code} {A : Nat → Prop} {Q : State → Prop} {z : A32} {a_me a_q1 a_height a_into a_nearest a_nearest_cells a_q1_one a_q1_two a_q1_length a_q1_draught a_q1_one_cells a_q1_two_cells : Nat} {u_breathing : Int32} {u_q1_doors : Int32}  {c_q1_galleries : Int32} {c_q1_shafts : Int32} {c_q1_one : A32} {c_q1_two : A32} {v2 : Int32}  (X : GX p s m args c cX0_findNearest RX0 wsX0_findNearest D cA A 7) (hret : RtV p l e rm_X0_findNearest s m args below meth c cX0_findNearest D A 7 0 0 Q (w_X0_findNearest cA a_me a_q1 a_height a_into a_nearest a_nearest_cells a_q1_one a_q1_two a_q1_length a_q1_draught a_q1_one_cells a_q1_two_cells u_breathing u_q1_doors z c_q1_galleries c_q1_shafts c_q1_one c_q1_two))  : ∀ (fu : Nat) (c_nearest : A32) (v3 : Int32), f_X0_findNearest_b2 c_q1_galleries c_q1_shafts c_q1_one c_q1_two v2 fu c_nearest v3 = some z → G p l e rm_X0_findNearest s m args below meth c D A 7 0 0 Q 2 [(0, .ref a_me), (1, .ref a_q1), (2, .int v2), (3, .int v3)] [] (w_X0_findNearest cA a_me a_q1 a_height a_into a_nearest a_nearest_cells a_q1_one a_q1_two a_q1_length a_q1_draught a_q1_one_cells a_q1_two_cells u_breathing u_q1_doors c_nearest c_q1_galleries c_q1_shafts c_q1_one c_q1_two) := by
  intro fu
  induction fu with
  | zero => intro c_nearest v3 h; exact absurd (show (none : Option (A32)) = some z from h) (by simp)
  | succ fu ih =>
    intro c_nearest v3 h
    have h : (if 7 ≤ v3 then f_X0_findNearest_b38 c_q1_galleries c_q1_one c_q1_two v2 FU c_nearest c_q1_shafts 1 else Option.bind (f_X8_set 7 c_nearest v3 (c_q1_shafts &&& (1 <<< (v3 &&& 31)))) fun z_2 => nam (v3 + 1) fun v3_3 => (f_X0_findNearest_b2 c_q1_galleries c_q1_shafts c_q1_one c_q1_two v2 fu) z_2 v3_3 : Option (A32)) = some z := h
    refine g_iload_n X 3 rfl rfl dX0_findNearest_2 rfl ?_
    refine g_bipush (v := 7) X dX0_findNearest_3 (by decide) rfl ?_
    refine g_icmp_ge (tgt := 30) X dX0_findNearest_5 (by decide) rfl h (fun c_1 h => ?_) (fun c_1 h => ?_)
    · refine g_aload_n X 1 rfl rfl dX0_findNearest_30 rfl ?_
      refine g_getf (C := RX5) (T := TX5) (N := 7) (v := .int c_q1_shafts) X 3 rfl vc_X5 6 (by decide) iw_X0_findNearest_X5 fl_X0_findNearest_X5_6 rfl rfl dX0_findNearest_31 rfl ?_
      refine g_istore_n (lv' := [(3, .int c_q1_shafts), (0, .ref a_me), (1, .ref a_q1), (2, .int v2)]) X rfl (by decide) rfl dX0_findNearest_34 rfl ?_
      refine g_iconst (v := 1) X dX0_findNearest_35 (by decide) rfl ?_
      refine g_istore (lv' := [(4, .int 1), (3, .int c_q1_shafts), (0, .ref a_me), (1, .ref a_q1), (2, .int v2)]) X (by decide) rfl dX0_findNearest_36 rfl ?_
      refine g_lvs [2, 3, 4, 1, 0] rfl ?_
      exact t_X0_findNearest_b38 X hret _ _ _ _ h
    · refine g_aload_n X 0 rfl rfl dX0_findNearest_8 rfl ?_
      refine g_getf (C := RX0) (T := TX0) (N := 4) (v := .ref a_nearest) X 0 rfl vc_X0 3 (by decide) iw_X0_findNearest_X0 fl_X0_findNearest_X0_3 rfl rfl dX0_findNearest_9 rfl ?_
      refine g_iload_n X 3 rfl rfl dX0_findNearest_12 rfl ?_
      refine g_aload_n X 1 rfl rfl dX0_findNearest_13 rfl ?_
      refine g_getf (C := RX5) (T := TX5) (N := 7) (v := .int c_q1_shafts) X 3 rfl vc_X5 6 (by decide) iw_X0_findNearest_X5 fl_X0_findNearest_X5_6 rfl rfl dX0_findNearest_14 rfl ?_
      refine g_iconst (v := 1) X dX0_findNearest_17 (by decide) rfl ?_
      refine g_iload_n X 3 rfl rfl dX0_findNearest_18 rfl ?_
      refine g_ishl X dX0_findNearest_19 rfl ?_
      refine g_iand X dX0_findNearest_20 rfl ?_
      obtain ⟨z_2, hz_2, h⟩ := bnd_s h
      refine g_callVV (rm := rm_X8_set) (As := [.int v3, .int (c_q1_shafts &&& (1 <<< (v3 &&& 31)))]) (W0 := (w_X8_set cA a_nearest a_nearest_cells 7 c_nearest)) (W1 := (w_X8_set cA a_nearest a_nearest_cells 7 z_2)) (isC := [1, 2]) (isR := [0, 3, 4, 5, 6, 7]) (perm := [0, 6, 7, 1, 2, 3, 4, 5]) (ws' := (w_X0_findNearest cA a_me a_q1 a_height a_into a_nearest a_nearest_cells a_q1_one a_q1_two a_q1_length a_q1_draught a_q1_one_cells a_q1_two_cells u_breathing u_q1_doors z_2 c_q1_galleries c_q1_shafts c_q1_one c_q1_two)) X (c_X8_set l D cA a_nearest a_nearest_cells 7 c_nearest v3 (c_q1_shafts &&& (1 <<< (v3 &&& 31))) _ hz_2) 1 rfl rfl rfl gX0_findNearest_X8_set rfl rfl rfl ⟨rfl, hd_X8_set⟩ ⟨Nat.le_of_ble_eq_true rfl, Nat.le_of_ble_eq_true rfl⟩ rfl rfl (Nat.le_of_ble_eq_true rfl) rfl (by decide +kernel) rfl (by decide +kernel) (by decide +kernel) ⟨Nat.zero_le _, Nat.zero_le _⟩ rfl (by decide +kernel) dX0_findNearest_21 rfl ?_
      obtain ⟨v3_3, ev3_3, h⟩ := nam_s h
      refine g_iinc (v := v3_3) (lv' := [(3, .int v3_3), (0, .ref a_me), (1, .ref a_q1), (2, .int v2)]) X 3 rfl (by rw [ev3_3]; rfl) (by decide) rfl dX0_findNearest_24 rfl ?_
      refine g_goto (tgt := 2) X dX0_findNearest_27 (by decide) ?_
      refine g_lvs [1, 2, 3, 0] rfl ?_
      exact ih _ _ h
set_option maxHeartbeats 4000000 in
set_option maxRecDepth 100000 in
theorem c_X0_findNearest (l : Launch) (D : va_G) (cA : ClassId) (a_me a_q1 a_height a_into a_nearest a_nearest_cells a_q1_one a_q1_two a_q1_length a_q1_draught a_q1_one_cells a_q1_two_cells : Nat) (u_breathing : Int32) (u_q1_doors : Int32) (c_nearest : A32) (c_q1_galleries : Int32) (c_q1_shafts : Int32) (c_q1_one : A32) (c_q1_two : A32) (v2 : Int32) (z : A32) (h : f_X0_findNearest c_nearest c_q1_galleries c_q1_shafts c_q1_one c_q1_two v2 = some z) : CtV l yX0_findNearest wsX0_findNearest rm_X0_findNearest D cA [.ref a_me, .ref a_q1, .int v2] (w_X0_findNearest cA a_me a_q1 a_height a_into a_nearest a_nearest_cells a_q1_one a_q1_two a_q1_length a_q1_draught a_q1_one_cells a_q1_two_cells u_breathing u_q1_doors c_nearest c_q1_galleries c_q1_shafts c_q1_one c_q1_two) Unit (fun _ => (w_X0_findNearest cA a_me a_q1 a_height a_into a_nearest a_nearest_cells a_q1_one a_q1_two a_q1_length a_q1_draught a_q1_one_cells a_q1_two_cells u_breathing u_q1_doors z c_q1_galleries c_q1_shafts c_q1_one c_q1_two)) 0 0 := by
  refine ct_V (maxL := 7) (cc := cX0_findNearest) (by decide) rfl (Nat.le_of_ble_eq_true rfl) rfl (fun p e s m args below meth c A Q X _ hret => ?_)
  have hret := hret ()
  have h : (f_X0_findNearest_b2 c_q1_galleries c_q1_shafts c_q1_one c_q1_two v2 FU c_nearest 0 : Option (A32)) = some z := h
  refine g_iconst (v := 0) X dX0_findNearest_0 (by decide) rfl ?_
  refine g_istore_n (lv' := [(3, .int 0), (0, .ref a_me), (1, .ref a_q1), (2, .int v2)]) X rfl (by decide) rfl dX0_findNearest_1 rfl ?_
  refine g_lvs [1, 2, 3, 0] rfl ?_
  exact t_X0_findNearest_b2 X hret _ _ _ h
abbrev rm_X5_shaftHeight : Room := { frames := 1, cells := 0, slots := 0, locals := 21 }
theorem hd_X5_shaftHeight : yX5_shaftHeight.cls ≠ "java/lang/invoke/MethodHandle" ∧ yX5_shaftHeight.cls ≠ "java/lang/invoke/VarHandle" ∧ (parseMethodDescriptor yX5_shaftHeight.desc).map (fun d => d.parameters.length) = some 2 := by decide +kernel
theorem iw_X5_shaftHeight_X5 : ∀ w ∈ wsX50, w ∈ wsX5_shaftHeight := fun w h => List.mem_cons_of_mem _ (List.mem_append_left _ (List.mem_append_right _ h))
theorem fl_X5_shaftHeight_X5_5 : Cond.fieldLink RX5 26 RX5 (TX5 5).2.1 (TX5 5).2.2.1 ∈ wsX5_shaftHeight := List.mem_of_getElem? (i := 1) rfl
abbrev w_X5_shaftHeight (cA : ClassId) (a_me a_one a_two a_length a_draught a_draught_cells : Nat) (u_galleries : Int32) (u_doors : Int32) (u_shafts : Int32) (c_draught : A32) : va_W := [(a_me, .inr (5, [.int u_galleries, .ref a_one, .ref a_two, .ref a_length, .int u_doors, .ref a_draught, .int u_shafts])), (a_draught, .inr (8, [.ref a_draught_cells])), (a_draught_cells, .inl (cA, 7, .inl c_draught))]
set_option maxHeartbeats 4000000 in
set_option maxRecDepth 100000 in
theorem t_X5_shaftHeight_b23 {l : Launch} {D : va_G} {cA : ClassId} {p : Program} {e : Env} {s : State} {m : MethodId} {args : Array Value} {below : List Frame} {meth : Method} {c : Code} {A : Nat → Prop} {Q : State → Prop} {z : Int32} {a_me a_one a_two a_length a_draught a_draught_cells : Nat} {u_galleries : Int32} {u_doors : Int32} {u_shafts : Int32} {c_draught : A32} {t0 : Int32} {t1 : Int32}  (X : GX p s m args c cX5_shaftHeight RX5 wsX5_shaftHeight D cA A 4) (hret : RtI p l e rm_X5_shaftHeight s m args below meth c cX5_shaftHeight D A 4 0 0 Q .int z (w_X5_shaftHeight cA a_me a_one a_two a_length a_draught a_draught_cells u_galleries u_doors u_shafts c_draught))  (h : f_X5_shaftHeight_b23 t0 t1 = some z) : G p l e rm_X5_shaftHeight s m args below meth c D A 4 0 0 Q 23 [] [.int t1, .int t0] (w_X5_shaftHeight cA a_me a_one a_two a_length a_draught a_draught_cells u_galleries u_doors u_shafts c_draught) := by
  have h : (some (t0 * t1) : Option (Int32)) = some z := h
  refine g_imul X dX5_shaftHeight_23 rfl ?_
  cases Option.some.inj h
  exact hret _ _ dX5_shaftHeight_24 rfl
set_option maxHeartbeats 4000000 in
set_option maxRecDepth 100000 in
theorem c_X5_shaftHeight (l : Launch) (D : va_G) (cA : ClassId) (a_me a_one a_two a_length a_draught a_draught_cells : Nat) (u_galleries : Int32) (u_doors : Int32) (u_shafts : Int32) (c_draught : A32) (v1 : Int32) (v2 : Int32) (z : Int32) (h : f_X5_shaftHeight c_draught v1 v2 = some z) : CtI l yX5_shaftHeight wsX5_shaftHeight rm_X5_shaftHeight D cA [.ref a_me, .int v1, .int v2] (w_X5_shaftHeight cA a_me a_one a_two a_length a_draught a_draught_cells u_galleries u_doors u_shafts c_draught) z (w_X5_shaftHeight cA a_me a_one a_two a_length a_draught a_draught_cells u_galleries u_doors u_shafts c_draught) := by
  refine ct_I (maxL := 4) (ty := .int) (cc := cX5_shaftHeight) (by decide) rfl (Nat.le_of_ble_eq_true rfl) rfl (fun p e s m args below meth c A Q X hret => ?_)
  have h : (Option.bind (f_X8_get 7 c_draught v1) fun z_1 => if v2 = 0 then f_X5_shaftHeight_b23 12 z_1 else f_X5_shaftHeight_b23 12 (9 - z_1) : Option (Int32)) = some z := h
  refine g_aload_n X 0 rfl rfl dX5_shaftHeight_0 rfl ?_
  refine g_getf (C := RX5) (T := TX5) (N := 7) (v := .ref a_draught) X 0 rfl vc_X5 5 (by decide) iw_X5_shaftHeight_X5 fl_X5_shaftHeight_X5_5 rfl rfl dX5_shaftHeight_1 rfl ?_
  refine g_iload_n X 1 rfl rfl dX5_shaftHeight_4 rfl ?_
  obtain ⟨z_1, hz_1, h⟩ := bnd_s h
  refine g_callVI (rm := rm_X8_get) (As := [.int v1]) (r := z_1) (W0 := (w_X8_get cA a_draught a_draught_cells 7 c_draught)) (W1 := (w_X8_get cA a_draught a_draught_cells 7 c_draught)) (isC := [1, 2]) (isR := [0]) (perm := [0, 1, 2]) (ws' := (w_X5_shaftHeight cA a_me a_one a_two a_length a_draught a_draught_cells u_galleries u_doors u_shafts c_draught)) X (c_X8_get l D cA a_draught a_draught_cells 7 c_draught v1 _ hz_1) 1 rfl rfl rfl gX5_shaftHeight_X8_get rfl rfl rfl ⟨rfl, hd_X8_get⟩ ⟨Nat.le_of_ble_eq_true rfl, Nat.le_of_ble_eq_true rfl⟩ rfl rfl (Nat.le_of_ble_eq_true rfl) rfl (by decide +kernel) rfl (by decide +kernel) (by decide +kernel) ⟨Nat.zero_le _, Nat.zero_le _⟩ rfl (by decide +kernel) dX5_shaftHeight_5 rfl ?_
  refine g_istore_n (lv' := [(3, .int z_1), (0, .ref a_me), (1, .int v1), (2, .int v2)]) X rfl (by decide) rfl dX5_shaftHeight_8 rfl ?_
  refine g_bipush (v := 12) X dX5_shaftHeight_9 (by decide) rfl ?_
  refine g_iload_n X 3 rfl rfl dX5_shaftHeight_11 rfl ?_
  refine g_if_eq (tgt := 22) X dX5_shaftHeight_12 (by decide) rfl h (fun c_2 h => ?_) (fun c_2 h => ?_)
  · refine g_iload_n X 0 rfl rfl dX5_shaftHeight_22 rfl ?_
    refine g_lvs [] rfl ?_
    exact t_X5_shaftHeight_b23 X hret h
  · refine g_bipush (v := 9) X dX5_shaftHeight_15 (by decide) rfl ?_
    refine g_iload_n X 0 rfl rfl dX5_shaftHeight_17 rfl ?_
    refine g_isub X dX5_shaftHeight_18 rfl ?_
    refine g_goto (tgt := 23) X dX5_shaftHeight_19 (by decide) ?_
    refine g_lvs [] rfl ?_
    exact t_X5_shaftHeight_b23 X hret h
abbrev rm_X0_heightOf : Room := { frames := 2, cells := 0, slots := 0, locals := 44 }
theorem hd_X0_heightOf : yX0_heightOf.cls ≠ "java/lang/invoke/MethodHandle" ∧ yX0_heightOf.cls ≠ "java/lang/invoke/VarHandle" ∧ (parseMethodDescriptor yX0_heightOf.desc).map (fun d => d.parameters.length) = some 3 := by decide +kernel
abbrev w_X0_heightOf (cA : ClassId) (a_q1 a_q1_one a_q1_two a_q1_length a_q1_draught a_q1_draught_cells : Nat) (u_q1_galleries : Int32) (u_q1_doors : Int32) (u_q1_shafts : Int32) (c_q1_draught : A32) : va_W := [(a_q1, .inr (5, [.int u_q1_galleries, .ref a_q1_one, .ref a_q1_two, .ref a_q1_length, .int u_q1_doors, .ref a_q1_draught, .int u_q1_shafts])), (a_q1_draught, .inr (8, [.ref a_q1_draught_cells])), (a_q1_draught_cells, .inl (cA, 7, .inl c_q1_draught))]
set_option maxHeartbeats 4000000 in
set_option maxRecDepth 100000 in
theorem t_X0_heightOf_b46 {l : Launch} {D : va_G} {cA : ClassId} {p : Program} {e : Env} {s : State} {m : MethodId} {args : Array Value} {below : List Frame} {meth : Method} {c : Code} {A : Nat → Prop} {Q : State → Prop} {z : Int32} {a_q1 a_q1_one a_q1_two a_q1_length a_q1_draught a_q1_draught_cells : Nat} {u_q1_galleries : Int32} {u_q1_doors : Int32} {u_q1_shafts : Int32}  {c_q1_draught : A32} {v0 : Int32} {v2 : Int32} {v3 : Int32} {v4 : Int32} {v5 : Int32} {k17 : Int32 → Int32 → Option (Int32)} (X : GX p s m args c cX0_heightOf RX0 wsX0_heightOf D cA A 6) (hret : RtI p l e rm_X0_heightOf s m args below meth c cX0_heightOf D A 6 0 0 Q .int z (w_X0_heightOf cA a_q1 a_q1_one a_q1_two a_q1_length a_q1_draught a_q1_draught_cells u_q1_galleries u_q1_doors u_q1_shafts c_q1_draught)) (hk17 : ∀ (v4 : Int32) (v5 : Int32), k17 v4 v5 = some z → G p l e rm_X0_heightOf s m args below meth c D A 6 0 0 Q 17 [(0, .int v0), (1, .ref a_q1), (2, .int v2), (3, .int v3), (4, .int v4), (5, .int v5)] [] (w_X0_heightOf cA a_q1 a_q1_one a_q1_two a_q1_length a_q1_draught a_q1_draught_cells u_q1_galleries u_q1_doors u_q1_shafts c_q1_draught)) (h : f_X0_heightOf_b46 k17 c_q1_draught v0 v2 v3 v4 v5 = some z) : G p l e rm_X0_heightOf s m args below meth c D A 6 0 0 Q 46 [(0, .int v0), (1, .ref a_q1), (2, .int v2), (3, .int v3), (4, .int v4), (5, .int v5)] [] (w_X0_heightOf cA a_q1 a_q1_one a_q1_two a_q1_length a_q1_draught a_q1_draught_cells u_q1_galleries u_q1_doors u_q1_shafts c_q1_draught) := by
  have h : (nam (v5 + 1) fun v5_1 => k17 v4 v5_1 : Option (Int32)) = some z := h
  obtain ⟨v5_1, ev5_1, h⟩ := nam_s h
  refine g_iinc (v := v5_1) (lv' := [(5, .int v5_1), (0, .int v0), (1, .ref a_q1), (2, .int v2), (3, .int v3), (4, .int v4)]) X 5 rfl (by rw [ev5_1]; rfl) (by decide) rfl dX0_heightOf_46 rfl ?_
  refine g_goto (tgt := 17) X dX0_heightOf_49 (by decide) ?_
  refine g_lvs [1, 2, 3, 4, 5, 0] rfl ?_
  exact hk17 _ _ h
set_option maxHeartbeats 4000000 in
set_option maxRecDepth 100000 in
theorem t_X0_heightOf_b17 {l : Launch} {D : va_G} {cA : ClassId} {p : Program} {e : Env} {s : State} {m : MethodId} {args : Array Value} {below : List Frame} {meth : Method} {c : Code} {A : Nat → Prop} {Q : State → Prop} {z : Int32} {a_q1 a_q1_one a_q1_two a_q1_length a_q1_draught a_q1_draught_cells : Nat} {u_q1_galleries : Int32} {u_q1_doors : Int32} {u_q1_shafts : Int32}  {c_q1_draught : A32} {v0 : Int32} {v2 : Int32} {v3 : Int32}  (X : GX p s m args c cX0_heightOf RX0 wsX0_heightOf D cA A 6) (hret : RtI p l e rm_X0_heightOf s m args below meth c cX0_heightOf D A 6 0 0 Q .int z (w_X0_heightOf cA a_q1 a_q1_one a_q1_two a_q1_length a_q1_draught a_q1_draught_cells u_q1_galleries u_q1_doors u_q1_shafts c_q1_draught))  : ∀ (fu : Nat) (v4 : Int32) (v5 : Int32), f_X0_heightOf_b17 c_q1_draught v0 v2 v3 fu v4 v5 = some z → G p l e rm_X0_heightOf s m args below meth c D A 6 0 0 Q 17 [(0, .int v0), (1, .ref a_q1), (2, .int v2), (3, .int v3), (4, .int v4), (5, .int v5)] [] (w_X0_heightOf cA a_q1 a_q1_one a_q1_two a_q1_length a_q1_draught a_q1_draught_cells u_q1_galleries u_q1_doors u_q1_shafts c_q1_draught) := by
  intro fu
  induction fu with
  | zero => intro v4 v5 h; exact absurd (show (none : Option (Int32)) = some z from h) (by simp)
  | succ fu ih =>
    intro v4 v5 h
    have h : (if 7 ≤ v5 then if v3 = 0 then none else some (v4 / v3) else Option.bind (f_X10_bit v0 v5) fun z_3 => if z_3 = 1 then Option.bind (f_X5_shaftHeight c_q1_draught v5 v2) fun z_5 => nam (v4 + z_5) fun v4_6 => f_X0_heightOf_b46 (f_X0_heightOf_b17 c_q1_draught v0 v2 v3 fu) c_q1_draught v0 v2 v3 v4_6 v5 else f_X0_heightOf_b46 (f_X0_heightOf_b17 c_q1_draught v0 v2 v3 fu) c_q1_draught v0 v2 v3 v4 v5 : Option (Int32)) = some z := h
    refine g_iload X 5 rfl dX0_heightOf_17 rfl ?_
    refine g_bipush (v := 7) X dX0_heightOf_19 (by decide) rfl ?_
    refine g_icmp_ge (tgt := 52) X dX0_heightOf_21 (by decide) rfl h (fun c_1 h => ?_) (fun c_1 h => ?_)
    · refine g_iload X 4 rfl dX0_heightOf_52 rfl ?_
      refine g_iload_n X 3 rfl rfl dX0_heightOf_54 rfl ?_
      obtain ⟨c_2, h⟩ := ite_n h
      refine g_idiv X dX0_heightOf_55 c_2 rfl ?_
      cases Option.some.inj h
      exact hret _ _ dX0_heightOf_56 rfl
    · refine g_iload_n X 0 rfl rfl dX0_heightOf_24 rfl ?_
      refine g_iload X 5 rfl dX0_heightOf_25 rfl ?_
      obtain ⟨z_3, hz_3, h⟩ := bnd_s h
      refine g_callSNI (rm := rm_X10_bit) (As := [.int v0, .int v5]) (r := z_3) (W0 := []) (W1 := []) (isC := []) (isR := [0, 1, 2]) (perm := [0, 1, 2]) (ws' := (w_X0_heightOf cA a_q1 a_q1_one a_q1_two a_q1_length a_q1_draught a_q1_draught_cells u_q1_galleries u_q1_doors u_q1_shafts c_q1_draught)) X (c_X10_bit l D cA v0 v5 _ hz_3) gX0_heightOf_X10_bit_n54 (by decide +kernel) (by decide +kernel) (by decide +kernel) rfl rfl rfl hd_X10_bit ⟨Nat.le_of_ble_eq_true rfl, Nat.le_of_ble_eq_true rfl⟩ rfl rfl (Nat.le_of_ble_eq_true rfl) rfl (by decide +kernel) rfl (by decide +kernel) (by decide +kernel) ⟨Nat.zero_le _, Nat.zero_le _⟩ rfl (by decide +kernel) dX0_heightOf_27 rfl ?_
      refine g_iconst (v := 1) X dX0_heightOf_30 (by decide) rfl ?_
      refine g_icmp_ne (tgt := 46) X dX0_heightOf_31 (by decide) rfl h (fun c_4 h => ?_) (fun c_4 h => ?_)
      · exact t_X0_heightOf_b46 X hret ih h
      · refine g_iload X 4 rfl dX0_heightOf_34 rfl ?_
        refine g_aload_n X 1 rfl rfl dX0_heightOf_36 rfl ?_
        refine g_iload X 5 rfl dX0_heightOf_37 rfl ?_
        refine g_iload_n X 2 rfl rfl dX0_heightOf_39 rfl ?_
        obtain ⟨z_5, hz_5, h⟩ := bnd_s h
        refine g_callVI (rm := rm_X5_shaftHeight) (As := [.int v5, .int v2]) (r := z_5) (W0 := (w_X5_shaftHeight cA a_q1 a_q1_one a_q1_two a_q1_length a_q1_draught a_q1_draught_cells u_q1_galleries u_q1_doors u_q1_shafts c_q1_draught)) (W1 := (w_X5_shaftHeight cA a_q1 a_q1_one a_q1_two a_q1_length a_q1_draught a_q1_draught_cells u_q1_galleries u_q1_doors u_q1_shafts c_q1_draught)) (isC := [0, 1, 2]) (isR := []) (perm := [0, 1, 2]) (ws' := (w_X0_heightOf cA a_q1 a_q1_one a_q1_two a_q1_length a_q1_draught a_q1_draught_cells u_q1_galleries u_q1_doors u_q1_shafts c_q1_draught)) X (c_X5_shaftHeight l D cA a_q1 a_q1_one a_q1_two a_q1_length a_q1_draught a_q1_draught_cells u_q1_galleries u_q1_doors u_q1_shafts c_q1_draught v5 v2 _ hz_5) 0 rfl rfl rfl gX0_heightOf_X5_shaftHeight rfl rfl rfl ⟨rfl, hd_X5_shaftHeight⟩ ⟨Nat.le_of_ble_eq_true rfl, Nat.le_of_ble_eq_true rfl⟩ rfl rfl (Nat.le_of_ble_eq_true rfl) rfl (by decide +kernel) rfl (by decide +kernel) (by decide +kernel) ⟨Nat.zero_le _, Nat.zero_le _⟩ rfl (by decide +kernel) dX0_heightOf_40 rfl ?_
        refine g_iadd X dX0_heightOf_43 rfl ?_
        refine g_nami h (fun v4_6 h => ?_)
        refine g_istore (lv' := [(4, .int v4_6), (0, .int v0), (1, .ref a_q1), (2, .int v2), (3, .int v3), (5, .int v5)]) X (by decide) rfl dX0_heightOf_44 rfl ?_
        refine g_lvs [1, 2, 3, 4, 0, 5] rfl ?_
        exact t_X0_heightOf_b46 X hret ih h
set_option maxHeartbeats 4000000 in
set_option maxRecDepth 100000 in
theorem c_X0_heightOf (l : Launch) (D : va_G) (cA : ClassId) (a_q1 a_q1_one a_q1_two a_q1_length a_q1_draught a_q1_draught_cells : Nat) (u_q1_galleries : Int32) (u_q1_doors : Int32) (u_q1_shafts : Int32) (c_q1_draught : A32) (v0 : Int32) (v2 : Int32) (z : Int32) (h : f_X0_heightOf c_q1_draught v0 v2 = some z) : CtI l yX0_heightOf wsX0_heightOf rm_X0_heightOf D cA [.int v0, .ref a_q1, .int v2] (w_X0_heightOf cA a_q1 a_q1_one a_q1_two a_q1_length a_q1_draught a_q1_draught_cells u_q1_galleries u_q1_doors u_q1_shafts c_q1_draught) z (w_X0_heightOf cA a_q1 a_q1_one a_q1_two a_q1_length a_q1_draught a_q1_draught_cells u_q1_galleries u_q1_doors u_q1_shafts c_q1_draught) := by
  refine ct_I (maxL := 6) (ty := .int) (cc := cX0_heightOf) (by decide) rfl (Nat.le_of_ble_eq_true rfl) rfl (fun p e s m args below meth c A Q X hret => ?_)
  have h : (Option.bind (f_J6_bitCount_0f7a4 v0) fun z_1 => if z_1 = 0 then some (-1) else f_X0_heightOf_b17 c_q1_draught v0 v2 z_1 FU 0 0 : Option (Int32)) = some z := h
  refine g_iload_n X 0 rfl rfl dX0_heightOf_0 rfl ?_
  obtain ⟨z_1, hz_1, h⟩ := bnd_s h
  refine g_callSI (rm := rm_J6_bitCount_0f7a4) (As := [.int v0]) (r := z_1) (W0 := []) (W1 := []) (isC := []) (isR := [0, 1, 2]) (perm := [0, 1, 2]) (ws' := (w_X0_heightOf cA a_q1 a_q1_one a_q1_two a_q1_length a_q1_draught a_q1_draught_cells u_q1_galleries u_q1_doors u_q1_shafts c_q1_draught)) X (c_J6_bitCount_0f7a4 l D cA v0 _ hz_1) gX0_heightOf_J6_bitCount_0f7a4 rfl rfl rfl hd_J6_bitCount_0f7a4 ⟨Nat.le_of_ble_eq_true rfl, Nat.le_of_ble_eq_true rfl⟩ rfl rfl (Nat.le_of_ble_eq_true rfl) rfl (by decide +kernel) rfl (by decide +kernel) (by decide +kernel) ⟨Nat.zero_le _, Nat.zero_le _⟩ rfl (by decide +kernel) dX0_heightOf_1 rfl ?_
  refine g_istore_n (lv' := [(3, .int z_1), (0, .int v0), (1, .ref a_q1), (2, .int v2)]) X rfl (by decide) rfl dX0_heightOf_4 rfl ?_
  refine g_iload_n X 0 rfl rfl dX0_heightOf_5 rfl ?_
  refine g_if_ne (tgt := 11) X dX0_heightOf_6 (by decide) rfl h (fun c_2 h => ?_) (fun c_2 h => ?_)
  · refine g_iconst (v := 0) X dX0_heightOf_11 (by decide) rfl ?_
    refine g_istore (lv' := [(4, .int 0), (3, .int z_1), (0, .int v0), (1, .ref a_q1), (2, .int v2)]) X (by decide) rfl dX0_heightOf_12 rfl ?_
    refine g_iconst (v := 0) X dX0_heightOf_14 (by decide) rfl ?_
    refine g_istore (lv' := [(5, .int 0), (4, .int 0), (3, .int z_1), (0, .int v0), (1, .ref a_q1), (2, .int v2)]) X (by decide) rfl dX0_heightOf_15 rfl ?_
    refine g_lvs [3, 4, 5, 2, 1, 0] rfl ?_
    exact t_X0_heightOf_b17 X hret _ _ _ h
  · refine g_iconst (v := (-1)) X dX0_heightOf_9 (by decide) rfl ?_
    cases Option.some.inj h
    exact hret _ _ dX0_heightOf_10 rfl
abbrev rm_X0_lower : Room := { frames := 1, cells := 0, slots := 0, locals := 21 }
theorem hd_X0_lower : yX0_lower.cls ≠ "java/lang/invoke/MethodHandle" ∧ yX0_lower.cls ≠ "java/lang/invoke/VarHandle" ∧ (parseMethodDescriptor yX0_lower.desc).map (fun d => d.parameters.length) = some 2 := by decide +kernel
theorem iw_X0_lower_X0 : ∀ w ∈ wsX00, w ∈ wsX0_lower := fun w h => List.mem_cons_of_mem _ (List.mem_append_left _ (List.mem_append_right _ h))
theorem fl_X0_lower_X0_0 : Cond.fieldLink RX0 14 RX0 (TX0 0).2.1 (TX0 0).2.2.1 ∈ wsX0_lower := List.mem_of_getElem? (i := 1) rfl
abbrev w_X0_lower (cA : ClassId) (a_me a_height a_into a_nearest a_height_cells : Nat) (u_breathing : Int32) (c_height : A32) : va_W := [(a_me, .inr (0, [.ref a_height, .ref a_into, .int u_breathing, .ref a_nearest])), (a_height, .inr (8, [.ref a_height_cells])), (a_height_cells, .inl (cA, 7, .inl c_height))]
set_option maxHeartbeats 4000000 in
set_option maxRecDepth 100000 in
theorem c_X0_lower (l : Launch) (D : va_G) (cA : ClassId) (a_me a_height a_into a_nearest a_height_cells : Nat) (u_breathing : Int32) (c_height : A32) (v1 : Int32) (v2 : Int32) (z : Int32) (h : f_X0_lower c_height v1 v2 = some z) : CtI l yX0_lower wsX0_lower rm_X0_lower D cA [.ref a_me, .int v1, .int v2] (w_X0_lower cA a_me a_height a_into a_nearest a_height_cells u_breathing c_height) z (w_X0_lower cA a_me a_height a_into a_nearest a_height_cells u_breathing c_height) := by
  refine ct_I (maxL := 5) (ty := .int) (cc := cX0_lower) (by decide) rfl (Nat.le_of_ble_eq_true rfl) rfl (fun p e s m args below meth c A Q X hret => ?_)
  have h : (Option.bind (f_X8_get 7 c_height v1) fun z_1 => Option.bind (f_X8_get 7 c_height v2) fun z_2 => if z_1 = z_2 then some (-1) else if z_1 = (-1) then some (-1) else if z_2 = (-1) then some (-1) else if z_2 ≤ z_1 then some v2 else some v1 : Option (Int32)) = some z := h
  refine g_aload_n X 0 rfl rfl dX0_lower_0 rfl ?_
  refine g_getf (C := RX0) (T := TX0) (N := 4) (v := .ref a_height) X 0 rfl vc_X0 0 (by decide) iw_X0_lower_X0 fl_X0_lower_X0_0 rfl rfl dX0_lower_1 rfl ?_
  refine g_iload_n X 1 rfl rfl dX0_lower_4 rfl ?_
  obtain ⟨z_1, hz_1, h⟩ := bnd_s h
  refine g_callVI (rm := rm_X8_get) (As := [.int v1]) (r := z_1) (W0 := (w_X8_get cA a_height a_height_cells 7 c_height)) (W1 := (w_X8_get cA a_height a_height_cells 7 c_height)) (isC := [1, 2]) (isR := [0]) (perm := [0, 1, 2]) (ws' := (w_X0_lower cA a_me a_height a_into a_nearest a_height_cells u_breathing c_height)) X (c_X8_get l D cA a_height a_height_cells 7 c_height v1 _ hz_1) 1 rfl rfl rfl gX0_lower_X8_get rfl rfl rfl ⟨rfl, hd_X8_get⟩ ⟨Nat.le_of_ble_eq_true rfl, Nat.le_of_ble_eq_true rfl⟩ rfl rfl (Nat.le_of_ble_eq_true rfl) rfl (by decide +kernel) rfl (by decide +kernel) (by decide +kernel) ⟨Nat.zero_le _, Nat.zero_le _⟩ rfl (by decide +kernel) dX0_lower_5 rfl ?_
  refine g_istore_n (lv' := [(3, .int z_1), (0, .ref a_me), (1, .int v1), (2, .int v2)]) X rfl (by decide) rfl dX0_lower_8 rfl ?_
  refine g_aload_n X 1 rfl rfl dX0_lower_9 rfl ?_
  refine g_getf (C := RX0) (T := TX0) (N := 4) (v := .ref a_height) X 0 rfl vc_X0 0 (by decide) iw_X0_lower_X0 fl_X0_lower_X0_0 rfl rfl dX0_lower_10 rfl ?_
  refine g_iload_n X 3 rfl rfl dX0_lower_13 rfl ?_
  obtain ⟨z_2, hz_2, h⟩ := bnd_s h
  refine g_callVI (rm := rm_X8_get) (As := [.int v2]) (r := z_2) (W0 := (w_X8_get cA a_height a_height_cells 7 c_height)) (W1 := (w_X8_get cA a_height a_height_cells 7 c_height)) (isC := [1, 2]) (isR := [0]) (perm := [0, 1, 2]) (ws' := (w_X0_lower cA a_me a_height a_into a_nearest a_height_cells u_breathing c_height)) X (c_X8_get l D cA a_height a_height_cells 7 c_height v2 _ hz_2) 1 rfl rfl rfl gX0_lower_X8_get rfl rfl rfl ⟨rfl, hd_X8_get⟩ ⟨Nat.le_of_ble_eq_true rfl, Nat.le_of_ble_eq_true rfl⟩ rfl rfl (Nat.le_of_ble_eq_true rfl) rfl (by decide +kernel) rfl (by decide +kernel) (by decide +kernel) ⟨Nat.zero_le _, Nat.zero_le _⟩ rfl (by decide +kernel) dX0_lower_14 rfl ?_
  refine g_istore (lv' := [(4, .int z_2), (3, .int z_1), (0, .ref a_me), (1, .int v1), (2, .int v2)]) X (by decide) rfl dX0_lower_17 rfl ?_
  refine g_iload_n X 1 rfl rfl dX0_lower_19 rfl ?_
  refine g_iload X 0 rfl dX0_lower_20 rfl ?_
  refine g_icmp_eq (tgt := 36) X dX0_lower_22 (by decide) rfl h (fun c_3 h => ?_) (fun c_3 h => ?_)
  · refine g_iconst (v := (-1)) X dX0_lower_36 (by decide) rfl ?_
    cases Option.some.inj h
    exact hret _ _ dX0_lower_37 rfl
  · refine g_iload_n X 1 rfl rfl dX0_lower_25 rfl ?_
    refine g_iconst (v := (-1)) X dX0_lower_26 (by decide) rfl ?_
    refine g_icmp_eq (tgt := 36) X dX0_lower_27 (by decide) rfl h (fun c_4 h => ?_) (fun c_4 h => ?_)
    · refine g_iconst (v := (-1)) X dX0_lower_36 (by decide) rfl ?_
      cases Option.some.inj h
      exact hret _ _ dX0_lower_37 rfl
    · refine g_iload X 0 rfl dX0_lower_30 rfl ?_
      refine g_iconst (v := (-1)) X dX0_lower_32 (by decide) rfl ?_
      refine g_icmp_ne (tgt := 38) X dX0_lower_33 (by decide) rfl h (fun c_5 h => ?_) (fun c_5 h => ?_)
      · refine g_iload_n X 1 rfl rfl dX0_lower_38 rfl ?_
        refine g_iload X 0 rfl dX0_lower_39 rfl ?_
        refine g_icmp_ge (tgt := 48) X dX0_lower_41 (by decide) rfl h (fun c_6 h => ?_) (fun c_6 h => ?_)
        · refine g_iload_n X 4 rfl rfl dX0_lower_48 rfl ?_
          cases Option.some.inj h
          exact hret _ _ dX0_lower_49 rfl
        · refine g_iload_n X 3 rfl rfl dX0_lower_44 rfl ?_
          refine g_goto (tgt := 49) X dX0_lower_45 (by decide) ?_
          cases Option.some.inj h
          exact hret _ _ dX0_lower_49 rfl
      · refine g_iconst (v := (-1)) X dX0_lower_36 (by decide) rfl ?_
        cases Option.some.inj h
        exact hret _ _ dX0_lower_37 rfl
abbrev rm_X0_findFlows : Room := { frames := 2, cells := 0, slots := 0, locals := 45 }
theorem hd_X0_findFlows : yX0_findFlows.cls ≠ "java/lang/invoke/MethodHandle" ∧ yX0_findFlows.cls ≠ "java/lang/invoke/VarHandle" ∧ (parseMethodDescriptor yX0_findFlows.desc).map (fun d => d.parameters.length) = some 2 := by decide +kernel
theorem iw_X0_findFlows_X0 : ∀ w ∈ wsX00, w ∈ wsX0_findFlows := fun w h => List.mem_cons_of_mem _ (List.mem_append_left _ (List.mem_append_left _ (List.mem_append_right _ h)))
theorem iw_X0_findFlows_X5 : ∀ w ∈ wsX50, w ∈ wsX0_findFlows := fun w h => List.mem_cons_of_mem _ (List.mem_append_left _ (List.mem_append_right _ h))
theorem fl_X0_findFlows_X0_2 : Cond.fieldLink RX0 77 RX0 (TX0 2).2.1 (TX0 2).2.2.1 ∈ wsX0_findFlows := List.mem_of_getElem? (i := 1) rfl
theorem fl_X0_findFlows_X5_0 : Cond.fieldLink RX0 51 RX5 (TX5 0).2.1 (TX5 0).2.2.1 ∈ wsX0_findFlows := List.mem_of_getElem? (i := 2) rfl
theorem fl_X0_findFlows_X5_1 : Cond.fieldLink RX0 58 RX5 (TX5 1).2.1 (TX5 1).2.2.1 ∈ wsX0_findFlows := List.mem_of_getElem? (i := 3) rfl
theorem fl_X0_findFlows_X5_2 : Cond.fieldLink RX0 61 RX5 (TX5 2).2.1 (TX5 2).2.2.1 ∈ wsX0_findFlows := List.mem_of_getElem? (i := 4) rfl
theorem fl_X0_findFlows_X0_1 : Cond.fieldLink RX0 20 RX0 (TX0 1).2.1 (TX0 1).2.2.1 ∈ wsX0_findFlows := List.mem_of_getElem? (i := 5) rfl
abbrev w_X0_findFlows (cA : ClassId) (a_me a_q1 a_height a_into a_nearest a_height_cells a_into_cells a_q1_one a_q1_two a_q1_length a_q1_draught a_q1_one_cells a_q1_two_cells : Nat) (u_q1_doors : Int32) (u_q1_shafts : Int32) (c_breathing : Int32) (c_height : A32) (c_into : A32) (c_q1_galleries : Int32) (c_q1_one : A32) (c_q1_two : A32) : va_W := [(a_me, .inr (0, [.ref a_height, .ref a_into, .int c_breathing, .ref a_nearest])), (a_height, .inr (8, [.ref a_height_cells])), (a_height_cells, .inl (cA, 7, .inl c_height)), (a_into, .inr (8, [.ref a_into_cells])), (a_into_cells, .inl (cA, 10, .inl c_into)), (a_q1, .inr (5, [.int c_q1_galleries, .ref a_q1_one, .ref a_q1_two, .ref a_q1_length, .int u_q1_doors, .ref a_q1_draught, .int u_q1_shafts])), (a_q1_one, .inr (8, [.ref a_q1_one_cells])), (a_q1_one_cells, .inl (cA, 10, .inl c_q1_one)), (a_q1_two, .inr (8, [.ref a_q1_two_cells])), (a_q1_two_cells, .inl (cA, 10, .inl c_q1_two))]
set_option maxHeartbeats 4000000 in
set_option maxRecDepth 100000 in
theorem t_X0_findFlows_b92 {l : Launch} {D : va_G} {cA : ClassId} {p : Program} {e : Env} {s : State} {m : MethodId} {args : Array Value} {below : List Frame} {meth : Method} {c : Code} {A : Nat → Prop} {Q : State → Prop} {z : Int32 × A32} {a_me a_q1 a_height a_into a_nearest a_height_cells a_into_cells a_q1_one a_q1_two a_q1_length a_q1_draught a_q1_one_cells a_q1_two_cells : Nat} {u_q1_doors : Int32} {u_q1_shafts : Int32}  {c_breathing : Int32} {c_height : A32} {c_into : A32} {c_q1_galleries : Int32} {c_q1_one : A32} {c_q1_two : A32} {v2 : Int32} {v3 : Int32} {k7 : Int32 → A32 → Int32 → Option (Int32 × A32)} (X : GX p s m args c cX0_findFlows RX0 wsX0_findFlows D cA A 7) (hret : RtV p l e rm_X0_findFlows s m args below meth c cX0_findFlows D A 7 0 0 Q (w_X0_findFlows cA a_me a_q1 a_height a_into a_nearest a_height_cells a_into_cells a_q1_one a_q1_two a_q1_length a_q1_draught a_q1_one_cells a_q1_two_cells u_q1_doors u_q1_shafts z.1 c_height z.2 c_q1_galleries c_q1_one c_q1_two)) (hk7 : ∀ (c_breathing : Int32) (c_into : A32) (v3 : Int32), k7 c_breathing c_into v3 = some z → G p l e rm_X0_findFlows s m args below meth c D A 7 0 0 Q 7 [(0, .ref a_me), (1, .ref a_q1), (2, .int v2), (3, .int v3)] [] (w_X0_findFlows cA a_me a_q1 a_height a_into a_nearest a_height_cells a_into_cells a_q1_one a_q1_two a_q1_length a_q1_draught a_q1_one_cells a_q1_two_cells u_q1_doors u_q1_shafts c_breathing c_height c_into c_q1_galleries c_q1_one c_q1_two)) (h : f_X0_findFlows_b92 k7 c_breathing c_height c_into c_q1_galleries c_q1_one c_q1_two v2 v3 = some z) : G p l e rm_X0_findFlows s m args below meth c D A 7 0 0 Q 92 [(0, .ref a_me), (1, .ref a_q1), (2, .int v2), (3, .int v3)] [] (w_X0_findFlows cA a_me a_q1 a_height a_into a_nearest a_height_cells a_into_cells a_q1_one a_q1_two a_q1_length a_q1_draught a_q1_one_cells a_q1_two_cells u_q1_doors u_q1_shafts c_breathing c_height c_into c_q1_galleries c_q1_one c_q1_two) := by
  have h : (nam (v3 + 1) fun v3_1 => k7 c_breathing c_into v3_1 : Option (Int32 × A32)) = some z := h
  obtain ⟨v3_1, ev3_1, h⟩ := nam_s h
  refine g_iinc (v := v3_1) (lv' := [(3, .int v3_1), (0, .ref a_me), (1, .ref a_q1), (2, .int v2)]) X 3 rfl (by rw [ev3_1]; rfl) (by decide) rfl dX0_findFlows_92 rfl ?_
  refine g_goto (tgt := 7) X dX0_findFlows_95 (by decide) ?_
  refine g_lvs [1, 2, 3, 0] rfl ?_
  exact hk7 _ _ _ h
set_option maxHeartbeats 4000000 in
set_option maxRecDepth 100000 in
theorem t_X0_findFlows_b56 {l : Launch} {D : va_G} {cA : ClassId} {p : Program} {e : Env} {s : State} {m : MethodId} {args : Array Value} {below : List Frame} {meth : Method} {c : Code} {A : Nat → Prop} {Q : State → Prop} {z : Int32 × A32} {a_me a_q1 a_height a_into a_nearest a_height_cells a_into_cells a_q1_one a_q1_two a_q1_length a_q1_draught a_q1_one_cells a_q1_two_cells : Nat} {u_q1_doors : Int32} {u_q1_shafts : Int32}  {c_breathing : Int32} {c_height : A32} {c_into : A32} {c_q1_galleries : Int32} {c_q1_one : A32} {c_q1_two : A32} {t0 : Int32} {v2 : Int32} {v3 : Int32} {v4 : Int32} {v5 : Int32} {k7 : Int32 → A32 → Int32 → Option (Int32 × A32)} (X : GX p s m args c cX0_findFlows RX0 wsX0_findFlows D cA A 7) (hret : RtV p l e rm_X0_findFlows s m args below meth c cX0_findFlows D A 7 0 0 Q (w_X0_findFlows cA a_me a_q1 a_height a_into a_nearest a_height_cells a_into_cells a_q1_one a_q1_two a_q1_length a_q1_draught a_q1_one_cells a_q1_two_cells u_q1_doors u_q1_shafts z.1 c_height z.2 c_q1_galleries c_q1_one c_q1_two)) (hk7 : ∀ (c_breathing : Int32) (c_into : A32) (v3 : Int32), k7 c_breathing c_into v3 = some z → G p l e rm_X0_findFlows s m args below meth c D A 7 0 0 Q 7 [(0, .ref a_me), (1, .ref a_q1), (2, .int v2), (3, .int v3)] [] (w_X0_findFlows cA a_me a_q1 a_height a_into a_nearest a_height_cells a_into_cells a_q1_one a_q1_two a_q1_length a_q1_draught a_q1_one_cells a_q1_two_cells u_q1_doors u_q1_shafts c_breathing c_height c_into c_q1_galleries c_q1_one c_q1_two)) (h : f_X0_findFlows_b56 k7 c_breathing c_height c_into c_q1_galleries c_q1_one c_q1_two t0 v2 v3 v4 v5 = some z) : G p l e rm_X0_findFlows s m args below meth c D A 7 0 0 Q 56 [(0, .ref a_me), (1, .ref a_q1), (2, .int v2), (3, .int v3), (4, .int v4), (5, .int v5)] [.int t0] (w_X0_findFlows cA a_me a_q1 a_height a_into a_nearest a_height_cells a_into_cells a_q1_one a_q1_two a_q1_length a_q1_draught a_q1_one_cells a_q1_two_cells u_q1_doors u_q1_shafts c_breathing c_height c_into c_q1_galleries c_q1_one c_q1_two) := by
  have h : (Option.bind (f_X8_set 10 c_into v3 t0) fun z_1 => if t0 = (-1) then f_X0_findFlows_b92 k7 c_breathing c_height z_1 c_q1_galleries c_q1_one c_q1_two v2 v3 else nam (c_breathing ||| ((1 <<< (v4 &&& 31)) ||| (1 <<< (v5 &&& 31)))) fun w_3 => f_X0_findFlows_b92 k7 w_3 c_height z_1 c_q1_galleries c_q1_one c_q1_two v2 v3 : Option (Int32 × A32)) = some z := h
  refine g_istore (lv' := [(6, .int t0), (0, .ref a_me), (1, .ref a_q1), (2, .int v2), (3, .int v3), (4, .int v4), (5, .int v5)]) X (by decide) rfl dX0_findFlows_56 rfl ?_
  refine g_aload_n X 1 rfl rfl dX0_findFlows_58 rfl ?_
  refine g_getf (C := RX0) (T := TX0) (N := 4) (v := .ref a_into) X 0 rfl vc_X0 1 (by decide) iw_X0_findFlows_X0 fl_X0_findFlows_X0_1 rfl rfl dX0_findFlows_59 rfl ?_
  refine g_iload_n X 4 rfl rfl dX0_findFlows_62 rfl ?_
  refine g_iload X 0 rfl dX0_findFlows_63 rfl ?_
  obtain ⟨z_1, hz_1, h⟩ := bnd_s h
  refine g_callVV (rm := rm_X8_set) (As := [.int v3, .int t0]) (W0 := (w_X8_set cA a_into a_into_cells 10 c_into)) (W1 := (w_X8_set cA a_into a_into_cells 10 z_1)) (isC := [3, 4]) (isR := [0, 1, 2, 5, 6, 7, 8, 9]) (perm := [0, 1, 2, 8, 9, 3, 4, 5, 6, 7]) (ws' := (w_X0_findFlows cA a_me a_q1 a_height a_into a_nearest a_height_cells a_into_cells a_q1_one a_q1_two a_q1_length a_q1_draught a_q1_one_cells a_q1_two_cells u_q1_doors u_q1_shafts c_breathing c_height z_1 c_q1_galleries c_q1_one c_q1_two)) X (c_X8_set l D cA a_into a_into_cells 10 c_into v3 t0 _ hz_1) 3 rfl rfl rfl gX0_findFlows_X8_set rfl rfl rfl ⟨rfl, hd_X8_set⟩ ⟨Nat.le_of_ble_eq_true rfl, Nat.le_of_ble_eq_true rfl⟩ rfl rfl (Nat.le_of_ble_eq_true rfl) rfl (by decide +kernel) rfl (by decide +kernel) (by decide +kernel) ⟨Nat.zero_le _, Nat.zero_le _⟩ rfl (by decide +kernel) dX0_findFlows_65 rfl ?_
  refine g_iload X 0 rfl dX0_findFlows_68 rfl ?_
  refine g_iconst (v := (-1)) X dX0_findFlows_70 (by decide) rfl ?_
  refine g_icmp_eq (tgt := 92) X dX0_findFlows_71 (by decide) rfl h (fun c_2 h => ?_) (fun c_2 h => ?_)
  · refine g_lvs [1, 2, 3, 4] rfl ?_
    exact t_X0_findFlows_b92 X hret hk7 h
  · refine g_aload_n X 1 rfl rfl dX0_findFlows_74 rfl ?_
    refine g_dup X dX0_findFlows_75 rfl rfl ?_
    refine g_getf (C := RX0) (T := TX0) (N := 4) (v := .int c_breathing) X 0 rfl vc_X0 2 (by decide) iw_X0_findFlows_X0 fl_X0_findFlows_X0_2 rfl rfl dX0_findFlows_76 rfl ?_
    refine g_iconst (v := 1) X dX0_findFlows_79 (by decide) rfl ?_
    refine g_iload X 5 rfl dX0_findFlows_80 rfl ?_
    refine g_ishl X dX0_findFlows_82 rfl ?_
    refine g_iconst (v := 1) X dX0_findFlows_83 (by decide) rfl ?_
    refine g_iload X 6 rfl dX0_findFlows_84 rfl ?_
    refine g_ishl X dX0_findFlows_86 rfl ?_
    refine g_ior X dX0_findFlows_87 rfl ?_
    refine g_ior X dX0_findFlows_88 rfl ?_
    refine g_nami h (fun w_3 h => ?_)
    refine g_putf (C := RX0) (T := TX0) (N := 4) (ty := .int) (ws' := (w_X0_findFlows cA a_me a_q1 a_height a_into a_nearest a_height_cells a_into_cells a_q1_one a_q1_two a_q1_length a_q1_draught a_q1_one_cells a_q1_two_cells u_q1_doors u_q1_shafts w_3 c_height z_1 c_q1_galleries c_q1_one c_q1_two)) X 0 tyX0 tyX0_ok nmX0 rfl vc_X0 2 (by decide) iw_X0_findFlows_X0 fl_X0_findFlows_X0_2 rfl rfl pd_X0_2 rfl rfl (Nat.le_of_ble_eq_true rfl) rfl dX0_findFlows_89 rfl ?_
    refine g_lvs [1, 2, 3, 4] rfl ?_
    exact t_X0_findFlows_b92 X hret hk7 h
set_option maxHeartbeats 4000000 in
set_option maxRecDepth 100000 in
theorem t_X0_findFlows_b7 {l : Launch} {D : va_G} {cA : ClassId} {p : Program} {e : Env} {s : State} {m : MethodId} {args : Array Value} {below : List Frame} {meth : Method} {c : Code} {A : Nat → Prop} {Q : State → Prop} {z : Int32 × A32} {a_me a_q1 a_height a_into a_nearest a_height_cells a_into_cells a_q1_one a_q1_two a_q1_length a_q1_draught a_q1_one_cells a_q1_two_cells : Nat} {u_q1_doors : Int32} {u_q1_shafts : Int32}  {c_height : A32} {c_q1_galleries : Int32} {c_q1_one : A32} {c_q1_two : A32} {v2 : Int32}  (X : GX p s m args c cX0_findFlows RX0 wsX0_findFlows D cA A 7) (hret : RtV p l e rm_X0_findFlows s m args below meth c cX0_findFlows D A 7 0 0 Q (w_X0_findFlows cA a_me a_q1 a_height a_into a_nearest a_height_cells a_into_cells a_q1_one a_q1_two a_q1_length a_q1_draught a_q1_one_cells a_q1_two_cells u_q1_doors u_q1_shafts z.1 c_height z.2 c_q1_galleries c_q1_one c_q1_two))  : ∀ (fu : Nat) (c_breathing : Int32) (c_into : A32) (v3 : Int32), f_X0_findFlows_b7 c_height c_q1_galleries c_q1_one c_q1_two v2 fu c_breathing c_into v3 = some z → G p l e rm_X0_findFlows s m args below meth c D A 7 0 0 Q 7 [(0, .ref a_me), (1, .ref a_q1), (2, .int v2), (3, .int v3)] [] (w_X0_findFlows cA a_me a_q1 a_height a_into a_nearest a_height_cells a_into_cells a_q1_one a_q1_two a_q1_length a_q1_draught a_q1_one_cells a_q1_two_cells u_q1_doors u_q1_shafts c_breathing c_height c_into c_q1_galleries c_q1_one c_q1_two) := by
  intro fu
  induction fu with
  | zero => intro c_breathing c_into v3 h; exact absurd (show (none : Option (Int32 × A32)) = some z from h) (by simp)
  | succ fu ih =>
    intro c_breathing c_into v3 h
    have h : (if c_q1_galleries ≤ v3 then some (c_breathing, c_into) else Option.bind (f_X8_get 10 c_q1_one v3) fun z_2 => Option.bind (f_X8_get 10 c_q1_two v3) fun z_3 => Option.bind (f_X10_bit v2 v3) fun z_4 => if z_4 = 1 then Option.bind (f_X0_lower c_height z_2 z_3) fun z_6 => f_X0_findFlows_b56 (f_X0_findFlows_b7 c_height c_q1_galleries c_q1_one c_q1_two v2 fu) c_breathing c_height c_into c_q1_galleries c_q1_one c_q1_two z_6 v2 v3 z_2 z_3 else f_X0_findFlows_b56 (f_X0_findFlows_b7 c_height c_q1_galleries c_q1_one c_q1_two v2 fu) c_breathing c_height c_into c_q1_galleries c_q1_one c_q1_two (-1) v2 v3 z_2 z_3 : Option (Int32 × A32)) = some z := h
    refine g_iload_n X 3 rfl rfl dX0_findFlows_7 rfl ?_
    refine g_aload_n X 1 rfl rfl dX0_findFlows_8 rfl ?_
    refine g_getf (C := RX5) (T := TX5) (N := 7) (v := .int c_q1_galleries) X 5 rfl vc_X5 0 (by decide) iw_X0_findFlows_X5 fl_X0_findFlows_X5_0 rfl rfl dX0_findFlows_9 rfl ?_
    refine g_icmp_ge (tgt := 98) X dX0_findFlows_12 (by decide) rfl h (fun c_1 h => ?_) (fun c_1 h => ?_)
    · cases Option.some.inj h
      exact hret _ _ dX0_findFlows_98
    · refine g_aload_n X 1 rfl rfl dX0_findFlows_15 rfl ?_
      refine g_getf (C := RX5) (T := TX5) (N := 7) (v := .ref a_q1_one) X 5 rfl vc_X5 1 (by decide) iw_X0_findFlows_X5 fl_X0_findFlows_X5_1 rfl rfl dX0_findFlows_16 rfl ?_
      refine g_iload_n X 3 rfl rfl dX0_findFlows_19 rfl ?_
      obtain ⟨z_2, hz_2, h⟩ := bnd_s h
      refine g_callVI (rm := rm_X8_get) (As := [.int v3]) (r := z_2) (W0 := (w_X8_get cA a_q1_one a_q1_one_cells 10 c_q1_one)) (W1 := (w_X8_get cA a_q1_one a_q1_one_cells 10 c_q1_one)) (isC := [6, 7]) (isR := [0, 1, 2, 3, 4, 5, 8, 9]) (perm := [0, 1, 2, 3, 4, 5, 8, 9, 6, 7]) (ws' := (w_X0_findFlows cA a_me a_q1 a_height a_into a_nearest a_height_cells a_into_cells a_q1_one a_q1_two a_q1_length a_q1_draught a_q1_one_cells a_q1_two_cells u_q1_doors u_q1_shafts c_breathing c_height c_into c_q1_galleries c_q1_one c_q1_two)) X (c_X8_get l D cA a_q1_one a_q1_one_cells 10 c_q1_one v3 _ hz_2) 6 rfl rfl rfl gX0_findFlows_X8_get rfl rfl rfl ⟨rfl, hd_X8_get⟩ ⟨Nat.le_of_ble_eq_true rfl, Nat.le_of_ble_eq_true rfl⟩ rfl rfl (Nat.le_of_ble_eq_true rfl) rfl (by decide +kernel) rfl (by decide +kernel) (by decide +kernel) ⟨Nat.zero_le _, Nat.zero_le _⟩ rfl (by decide +kernel) dX0_findFlows_20 rfl ?_
      refine g_istore (lv' := [(4, .int z_2), (0, .ref a_me), (1, .ref a_q1), (2, .int v2), (3, .int v3)]) X (by decide) rfl dX0_findFlows_23 rfl ?_
      refine g_aload_n X 2 rfl rfl dX0_findFlows_25 rfl ?_
      refine g_getf (C := RX5) (T := TX5) (N := 7) (v := .ref a_q1_two) X 5 rfl vc_X5 2 (by decide) iw_X0_findFlows_X5 fl_X0_findFlows_X5_2 rfl rfl dX0_findFlows_26 rfl ?_
      refine g_iload_n X 4 rfl rfl dX0_findFlows_29 rfl ?_
      obtain ⟨z_3, hz_3, h⟩ := bnd_s h
      refine g_callVI (rm := rm_X8_get) (As := [.int v3]) (r := z_3) (W0 := (w_X8_get cA a_q1_two a_q1_two_cells 10 c_q1_two)) (W1 := (w_X8_get cA a_q1_two a_q1_two_cells 10 c_q1_two)) (isC := [8, 9]) (isR := [0, 1, 2, 3, 4, 5, 6, 7]) (perm := [0, 1, 2, 3, 4, 5, 6, 7, 8, 9]) (ws' := (w_X0_findFlows cA a_me a_q1 a_height a_into a_nearest a_height_cells a_into_cells a_q1_one a_q1_two a_q1_length a_q1_draught a_q1_one_cells a_q1_two_cells u_q1_doors u_q1_shafts c_breathing c_height c_into c_q1_galleries c_q1_one c_q1_two)) X (c_X8_get l D cA a_q1_two a_q1_two_cells 10 c_q1_two v3 _ hz_3) 8 rfl rfl rfl gX0_findFlows_X8_get rfl rfl rfl ⟨rfl, hd_X8_get⟩ ⟨Nat.le_of_ble_eq_true rfl, Nat.le_of_ble_eq_true rfl⟩ rfl rfl (Nat.le_of_ble_eq_true rfl) rfl (by decide +kernel) rfl (by decide +kernel) (by decide +kernel) ⟨Nat.zero_le _, Nat.zero_le _⟩ rfl (by decide +kernel) dX0_findFlows_30 rfl ?_
      refine g_istore (lv' := [(5, .int z_3), (4, .int z_2), (0, .ref a_me), (1, .ref a_q1), (2, .int v2), (3, .int v3)]) X (by decide) rfl dX0_findFlows_33 rfl ?_
      refine g_iload_n X 4 rfl rfl dX0_findFlows_35 rfl ?_
      refine g_iload_n X 5 rfl rfl dX0_findFlows_36 rfl ?_
      obtain ⟨z_4, hz_4, h⟩ := bnd_s h
      refine g_callSNI (rm := rm_X10_bit) (As := [.int v2, .int v3]) (r := z_4) (W0 := []) (W1 := []) (isC := []) (isR := [0, 1, 2, 3, 4, 5, 6, 7, 8, 9]) (perm := [0, 1, 2, 3, 4, 5, 6, 7, 8, 9]) (ws' := (w_X0_findFlows cA a_me a_q1 a_height a_into a_nearest a_height_cells a_into_cells a_q1_one a_q1_two a_q1_length a_q1_draught a_q1_one_cells a_q1_two_cells u_q1_doors u_q1_shafts c_breathing c_height c_into c_q1_galleries c_q1_one c_q1_two)) X (c_X10_bit l D cA v2 v3 _ hz_4) gX0_findFlows_X10_bit_n54 (by decide +kernel) (by decide +kernel) (by decide +kernel) rfl rfl rfl hd_X10_bit ⟨Nat.le_of_ble_eq_true rfl, Nat.le_of_ble_eq_true rfl⟩ rfl rfl (Nat.le_of_ble_eq_true rfl) rfl (by decide +kernel) rfl (by decide +kernel) (by decide +kernel) ⟨Nat.zero_le _, Nat.zero_le _⟩ rfl (by decide +kernel) dX0_findFlows_37 rfl ?_
      refine g_iconst (v := 1) X dX0_findFlows_40 (by decide) rfl ?_
      refine g_icmp_ne (tgt := 55) X dX0_findFlows_41 (by decide) rfl h (fun c_5 h => ?_) (fun c_5 h => ?_)
      · refine g_iconst (v := (-1)) X dX0_findFlows_55 (by decide) rfl ?_
        refine g_lvs [2, 3, 4, 5, 1, 0] rfl ?_
        exact t_X0_findFlows_b56 X hret ih h
      · refine g_aload_n X 2 rfl rfl dX0_findFlows_44 rfl ?_
        refine g_iload X 1 rfl dX0_findFlows_45 rfl ?_
        refine g_iload X 0 rfl dX0_findFlows_47 rfl ?_
        obtain ⟨z_6, hz_6, h⟩ := bnd_s h
        refine g_callVI (rm := rm_X0_lower) (As := [.int z_2, .int z_3]) (r := z_6) (W0 := (w_X0_lower cA a_me a_height a_into a_nearest a_height_cells c_breathing c_height)) (W1 := (w_X0_lower cA a_me a_height a_into a_nearest a_height_cells c_breathing c_height)) (isC := [0, 1, 2]) (isR := [3, 4, 5, 6, 7, 8, 9]) (perm := [7, 8, 9, 0, 1, 2, 3, 4, 5, 6]) (ws' := (w_X0_findFlows cA a_me a_q1 a_height a_into a_nearest a_height_cells a_into_cells a_q1_one a_q1_two a_q1_length a_q1_draught a_q1_one_cells a_q1_two_cells u_q1_doors u_q1_shafts c_breathing c_height c_into c_q1_galleries c_q1_one c_q1_two)) X (c_X0_lower l D cA a_me a_height a_into a_nearest a_height_cells c_breathing c_height z_2 z_3 _ hz_6) 0 rfl rfl rfl gX0_findFlows_X0_lower rfl rfl rfl ⟨rfl, hd_X0_lower⟩ ⟨Nat.le_of_ble_eq_true rfl, Nat.le_of_ble_eq_true rfl⟩ rfl rfl (Nat.le_of_ble_eq_true rfl) rfl (by decide +kernel) rfl (by decide +kernel) (by decide +kernel) ⟨Nat.zero_le _, Nat.zero_le _⟩ rfl (by decide +kernel) dX0_findFlows_49 rfl ?_
        refine g_goto (tgt := 56) X dX0_findFlows_52 (by decide) ?_
        refine g_lvs [2, 3, 4, 5, 1, 0] rfl ?_
        exact t_X0_findFlows_b56 X hret ih h
set_option maxHeartbeats 4000000 in
set_option maxRecDepth 100000 in
theorem c_X0_findFlows (l : Launch) (D : va_G) (cA : ClassId) (a_me a_q1 a_height a_into a_nearest a_height_cells a_into_cells a_q1_one a_q1_two a_q1_length a_q1_draught a_q1_one_cells a_q1_two_cells : Nat) (u_q1_doors : Int32) (u_q1_shafts : Int32) (c_breathing : Int32) (c_height : A32) (c_into : A32) (c_q1_galleries : Int32) (c_q1_one : A32) (c_q1_two : A32) (v2 : Int32) (z : Int32 × A32) (h : f_X0_findFlows c_breathing c_height c_into c_q1_galleries c_q1_one c_q1_two v2 = some z) : CtV l yX0_findFlows wsX0_findFlows rm_X0_findFlows D cA [.ref a_me, .ref a_q1, .int v2] (w_X0_findFlows cA a_me a_q1 a_height a_into a_nearest a_height_cells a_into_cells a_q1_one a_q1_two a_q1_length a_q1_draught a_q1_one_cells a_q1_two_cells u_q1_doors u_q1_shafts c_breathing c_height c_into c_q1_galleries c_q1_one c_q1_two) Unit (fun _ => (w_X0_findFlows cA a_me a_q1 a_height a_into a_nearest a_height_cells a_into_cells a_q1_one a_q1_two a_q1_length a_q1_draught a_q1_one_cells a_q1_two_cells u_q1_doors u_q1_shafts z.1 c_height z.2 c_q1_galleries c_q1_one c_q1_two)) 0 0 := by
  refine ct_V (maxL := 7) (cc := cX0_findFlows) (by decide) rfl (Nat.le_of_ble_eq_true rfl) rfl (fun p e s m args below meth c A Q X _ hret => ?_)
  have hret := hret ()
  have h : (f_X0_findFlows_b7 c_height c_q1_galleries c_q1_one c_q1_two v2 FU 0 c_into 0 : Option (Int32 × A32)) = some z := h
  refine g_aload_n X 0 rfl rfl dX0_findFlows_0 rfl ?_
  refine g_iconst (v := 0) X dX0_findFlows_1 (by decide) rfl ?_
  refine g_putf (C := RX0) (T := TX0) (N := 4) (ty := .int) (ws' := (w_X0_findFlows cA a_me a_q1 a_height a_into a_nearest a_height_cells a_into_cells a_q1_one a_q1_two a_q1_length a_q1_draught a_q1_one_cells a_q1_two_cells u_q1_doors u_q1_shafts 0 c_height c_into c_q1_galleries c_q1_one c_q1_two)) X 0 tyX0 tyX0_ok nmX0 rfl vc_X0 2 (by decide) iw_X0_findFlows_X0 fl_X0_findFlows_X0_2 rfl rfl pd_X0_2 rfl rfl (Nat.le_of_ble_eq_true rfl) rfl dX0_findFlows_2 rfl ?_
  refine g_iconst (v := 0) X dX0_findFlows_5 (by decide) rfl ?_
  refine g_istore_n (lv' := [(3, .int 0), (0, .ref a_me), (1, .ref a_q1), (2, .int v2)]) X rfl (by decide) rfl dX0_findFlows_6 rfl ?_
  refine g_lvs [1, 2, 3, 0] rfl ?_
  exact t_X0_findFlows_b7 X hret _ _ _ _ h
abbrev rm_X0_blow : Room := { frames := 3, cells := 0, slots := 0, locals := 71 }
theorem hd_X0_blow : yX0_blow.cls ≠ "java/lang/invoke/MethodHandle" ∧ yX0_blow.cls ≠ "java/lang/invoke/VarHandle" ∧ (parseMethodDescriptor yX0_blow.desc).map (fun d => d.parameters.length) = some 3 := by decide +kernel
theorem iw_X0_blow_X0 : ∀ w ∈ wsX00, w ∈ wsX0_blow := fun w h => List.mem_cons_of_mem _ (List.mem_append_left _ (List.mem_append_left _ (List.mem_append_right _ h)))
theorem fl_X0_blow_X0_0 : Cond.fieldLink RX0 14 RX0 (TX0 0).2.1 (TX0 0).2.2.1 ∈ wsX0_blow := List.mem_of_getElem? (i := 1) rfl
theorem fl_X0_blow_X0_3 : Cond.fieldLink RX0 23 RX0 (TX0 3).2.1 (TX0 3).2.2.1 ∈ wsX0_blow := List.mem_of_getElem? (i := 2) rfl
abbrev w_X0_blow (cA : ClassId) (a_me a_q1 a_height a_into a_nearest a_height_cells a_into_cells a_nearest_cells a_q1_one a_q1_two a_q1_length a_q1_draught a_q1_one_cells a_q1_two_cells a_q1_draught_cells : Nat) (u_q1_doors : Int32) (c_breathing : Int32) (c_height : A32) (c_into : A32) (c_nearest : A32) (c_q1_galleries : Int32) (c_q1_shafts : Int32) (c_q1_one : A32) (c_q1_two : A32) (c_q1_draught : A32) : va_W := [(a_me, .inr (0, [.ref a_height, .ref a_into, .int c_breathing, .ref a_nearest])), (a_height, .inr (8, [.ref a_height_cells])), (a_height_cells, .inl (cA, 7, .inl c_height)), (a_into, .inr (8, [.ref a_into_cells])), (a_into_cells, .inl (cA, 10, .inl c_into)), (a_nearest, .inr (8, [.ref a_nearest_cells])), (a_nearest_cells, .inl (cA, 7, .inl c_nearest)), (a_q1, .inr (5, [.int c_q1_galleries, .ref a_q1_one, .ref a_q1_two, .ref a_q1_length, .int u_q1_doors, .ref a_q1_draught, .int c_q1_shafts])), (a_q1_one, .inr (8, [.ref a_q1_one_cells])), (a_q1_one_cells, .inl (cA, 10, .inl c_q1_one)), (a_q1_two, .inr (8, [.ref a_q1_two_cells])), (a_q1_two_cells, .inl (cA, 10, .inl c_q1_two)), (a_q1_draught, .inr (8, [.ref a_q1_draught_cells])), (a_q1_draught_cells, .inl (cA, 7, .inl c_q1_draught))]
set_option maxHeartbeats 4000000 in
set_option maxRecDepth 100000 in
theorem t_X0_blow_b9 {l : Launch} {D : va_G} {cA : ClassId} {p : Program} {e : Env} {s : State} {m : MethodId} {args : Array Value} {below : List Frame} {meth : Method} {c : Code} {A : Nat → Prop} {Q : State → Prop} {z : Int32 × A32 × A32 × A32} {a_me a_q1 a_height a_into a_nearest a_height_cells a_into_cells a_nearest_cells a_q1_one a_q1_two a_q1_length a_q1_draught a_q1_one_cells a_q1_two_cells a_q1_draught_cells : Nat} {u_q1_doors : Int32} {c_q1_shafts : Int32} {c_breathing : Int32} {c_into : A32} {c_nearest : A32} {c_q1_galleries : Int32} {c_q1_one : A32} {c_q1_two : A32} {c_q1_draught : A32} {v2 : Int32} {v3 : Int32}  (X : GX p s m args c cX0_blow RX0 wsX0_blow D cA A 5) (hret : RtV p l e rm_X0_blow s m args below meth c cX0_blow D A 5 0 0 Q (w_X0_blow cA a_me a_q1 a_height a_into a_nearest a_height_cells a_into_cells a_nearest_cells a_q1_one a_q1_two a_q1_length a_q1_draught a_q1_one_cells a_q1_two_cells a_q1_draught_cells u_q1_doors z.1 z.2.1 z.2.2.1 z.2.2.2 c_q1_galleries c_q1_shafts c_q1_one c_q1_two c_q1_draught))  : ∀ (fu : Nat) (c_height : A32) (v4 : Int32), f_X0_blow_b9 c_breathing c_into c_nearest c_q1_galleries c_q1_one c_q1_two c_q1_draught v2 v3 fu c_height v4 = some z → G p l e rm_X0_blow s m args below meth c D A 5 0 0 Q 9 [(0, .ref a_me), (1, .ref a_q1), (2, .int v2), (3, .int v3), (4, .int v4)] [] (w_X0_blow cA a_me a_q1 a_height a_into a_nearest a_height_cells a_into_cells a_nearest_cells a_q1_one a_q1_two a_q1_length a_q1_draught a_q1_one_cells a_q1_two_cells a_q1_draught_cells u_q1_doors c_breathing c_height c_into c_nearest c_q1_galleries c_q1_shafts c_q1_one c_q1_two c_q1_draught) := by
  intro fu
  induction fu with
  | zero => intro c_height v4 h; exact absurd (show (none : Option (Int32 × A32 × A32 × A32)) = some z from h) (by simp)
  | succ fu ih =>
    intro c_height v4 h
    have h : (if 7 ≤ v4 then Option.bind (f_X0_findFlows c_breathing c_height c_into c_q1_galleries c_q1_one c_q1_two v2) fun z_2 => some (z_2.1, c_height, z_2.2, c_nearest) else Option.bind (f_X8_get 7 c_nearest v4) fun z_3 => Option.bind (f_X0_heightOf c_q1_draught z_3 v3) fun z_4 => Option.bind (f_X8_set 7 c_height v4 z_4) fun z_5 => nam (v4 + 1) fun v4_6 => (f_X0_blow_b9 c_breathing c_into c_nearest c_q1_galleries c_q1_one c_q1_two c_q1_draught v2 v3 fu) z_5 v4_6 : Option (Int32 × A32 × A32 × A32)) = some z := h
    refine g_iload X 4 rfl dX0_blow_9 rfl ?_
    refine g_bipush (v := 7) X dX0_blow_11 (by decide) rfl ?_
    refine g_icmp_ge (tgt := 45) X dX0_blow_13 (by decide) rfl h (fun c_1 h => ?_) (fun c_1 h => ?_)
    · refine g_aload_n X 0 rfl rfl dX0_blow_45 rfl ?_
      refine g_aload_n X 1 rfl rfl dX0_blow_46 rfl ?_
      refine g_iload_n X 2 rfl rfl dX0_blow_47 rfl ?_
      obtain ⟨z_2, hz_2, h⟩ := bnd_s h
      refine g_callVV (rm := rm_X0_findFlows) (As := [.ref a_q1, .int v2]) (W0 := (w_X0_findFlows cA a_me a_q1 a_height a_into a_nearest a_height_cells a_into_cells a_q1_one a_q1_two a_q1_length a_q1_draught a_q1_one_cells a_q1_two_cells u_q1_doors c_q1_shafts c_breathing c_height c_into c_q1_galleries c_q1_one c_q1_two)) (W1 := (w_X0_findFlows cA a_me a_q1 a_height a_into a_nearest a_height_cells a_into_cells a_q1_one a_q1_two a_q1_length a_q1_draught a_q1_one_cells a_q1_two_cells u_q1_doors c_q1_shafts z_2.1 c_height z_2.2 c_q1_galleries c_q1_one c_q1_two)) (isC := [0, 1, 2, 3, 4, 7, 8, 9, 10, 11]) (isR := [5, 6, 12, 13]) (perm := [4, 5, 6, 7, 8, 0, 1, 9, 10, 11, 12, 13, 2, 3]) (ws' := (w_X0_blow cA a_me a_q1 a_height a_into a_nearest a_height_cells a_into_cells a_nearest_cells a_q1_one a_q1_two a_q1_length a_q1_draught a_q1_one_cells a_q1_two_cells a_q1_draught_cells u_q1_doors z_2.1 c_height z_2.2 c_nearest c_q1_galleries c_q1_shafts c_q1_one c_q1_two c_q1_draught)) X (c_X0_findFlows l D cA a_me a_q1 a_height a_into a_nearest a_height_cells a_into_cells a_q1_one a_q1_two a_q1_length a_q1_draught a_q1_one_cells a_q1_two_cells u_q1_doors c_q1_shafts c_breathing c_height c_into c_q1_galleries c_q1_one c_q1_two v2 _ hz_2) 0 rfl rfl rfl gX0_blow_X0_findFlows rfl rfl rfl ⟨rfl, hd_X0_findFlows⟩ ⟨Nat.le_of_ble_eq_true rfl, Nat.le_of_ble_eq_true rfl⟩ rfl rfl (Nat.le_of_ble_eq_true rfl) rfl (by decide +kernel) rfl (by decide +kernel) (by decide +kernel) ⟨Nat.zero_le _, Nat.zero_le _⟩ rfl (by decide +kernel) dX0_blow_48 rfl ?_
      cases Option.some.inj h
      exact hret _ _ dX0_blow_51
    · refine g_aload_n X 0 rfl rfl dX0_blow_16 rfl ?_
      refine g_getf (C := RX0) (T := TX0) (N := 4) (v := .ref a_height) X 0 rfl vc_X0 0 (by decide) iw_X0_blow_X0 fl_X0_blow_X0_0 rfl rfl dX0_blow_17 rfl ?_
      refine g_iload X 4 rfl dX0_blow_20 rfl ?_
      refine g_aload_n X 0 rfl rfl dX0_blow_22 rfl ?_
      refine g_getf (C := RX0) (T := TX0) (N := 4) (v := .ref a_nearest) X 0 rfl vc_X0 3 (by decide) iw_X0_blow_X0 fl_X0_blow_X0_3 rfl rfl dX0_blow_23 rfl ?_
      refine g_iload X 4 rfl dX0_blow_26 rfl ?_
      obtain ⟨z_3, hz_3, h⟩ := bnd_s h
      refine g_callVI (rm := rm_X8_get) (As := [.int v4]) (r := z_3) (W0 := (w_X8_get cA a_nearest a_nearest_cells 7 c_nearest)) (W1 := (w_X8_get cA a_nearest a_nearest_cells 7 c_nearest)) (isC := [5, 6]) (isR := [0, 1, 2, 3, 4, 7, 8, 9, 10, 11, 12, 13]) (perm := [0, 1, 2, 3, 4, 12, 13, 5, 6, 7, 8, 9, 10, 11]) (ws' := (w_X0_blow cA a_me a_q1 a_height a_into a_nearest a_height_cells a_into_cells a_nearest_cells a_q1_one a_q1_two a_q1_length a_q1_draught a_q1_one_cells a_q1_two_cells a_q1_draught_cells u_q1_doors c_breathing c_height c_into c_nearest c_q1_galleries c_q1_shafts c_q1_one c_q1_two c_q1_draught)) X (c_X8_get l D cA a_nearest a_nearest_cells 7 c_nearest v4 _ hz_3) 5 rfl rfl rfl gX0_blow_X8_get rfl rfl rfl ⟨rfl, hd_X8_get⟩ ⟨Nat.le_of_ble_eq_true rfl, Nat.le_of_ble_eq_true rfl⟩ rfl rfl (Nat.le_of_ble_eq_true rfl) rfl (by decide +kernel) rfl (by decide +kernel) (by decide +kernel) ⟨Nat.zero_le _, Nat.zero_le _⟩ rfl (by decide +kernel) dX0_blow_28 rfl ?_
      refine g_aload_n X 1 rfl rfl dX0_blow_31 rfl ?_
      refine g_iload_n X 3 rfl rfl dX0_blow_32 rfl ?_
      obtain ⟨z_4, hz_4, h⟩ := bnd_s h
      refine g_callSI (rm := rm_X0_heightOf) (As := [.int z_3, .ref a_q1, .int v3]) (r := z_4) (W0 := (w_X0_heightOf cA a_q1 a_q1_one a_q1_two a_q1_length a_q1_draught a_q1_draught_cells c_q1_galleries u_q1_doors c_q1_shafts c_q1_draught)) (W1 := (w_X0_heightOf cA a_q1 a_q1_one a_q1_two a_q1_length a_q1_draught a_q1_draught_cells c_q1_galleries u_q1_doors c_q1_shafts c_q1_draught)) (isC := [7, 12, 13]) (isR := [0, 1, 2, 3, 4, 5, 6, 8, 9, 10, 11]) (perm := [0, 1, 2, 3, 4, 5, 6, 11, 7, 8, 9, 10, 12, 13]) (ws' := (w_X0_blow cA a_me a_q1 a_height a_into a_nearest a_height_cells a_into_cells a_nearest_cells a_q1_one a_q1_two a_q1_length a_q1_draught a_q1_one_cells a_q1_two_cells a_q1_draught_cells u_q1_doors c_breathing c_height c_into c_nearest c_q1_galleries c_q1_shafts c_q1_one c_q1_two c_q1_draught)) X (c_X0_heightOf l D cA a_q1 a_q1_one a_q1_two a_q1_length a_q1_draught a_q1_draught_cells c_q1_galleries u_q1_doors c_q1_shafts c_q1_draught z_3 v3 _ hz_4) gX0_blow_X0_heightOf rfl rfl rfl hd_X0_heightOf ⟨Nat.le_of_ble_eq_true rfl, Nat.le_of_ble_eq_true rfl⟩ rfl rfl (Nat.le_of_ble_eq_true rfl) rfl (by decide +kernel) rfl (by decide +kernel) (by decide +kernel) ⟨Nat.zero_le _, Nat.zero_le _⟩ rfl (by decide +kernel) dX0_blow_33 rfl ?_
      obtain ⟨z_5, hz_5, h⟩ := bnd_s h
      refine g_callVV (rm := rm_X8_set) (As := [.int v4, .int z_4]) (W0 := (w_X8_set cA a_height a_height_cells 7 c_height)) (W1 := (w_X8_set cA a_height a_height_cells 7 z_5)) (isC := [1, 2]) (isR := [0, 3, 4, 5, 6, 7, 8, 9, 10, 11, 12, 13]) (perm := [0, 12, 13, 1, 2, 3, 4, 5, 6, 7, 8, 9, 10, 11]) (ws' := (w_X0_blow cA a_me a_q1 a_height a_into a_nearest a_height_cells a_into_cells a_nearest_cells a_q1_one a_q1_two a_q1_length a_q1_draught a_q1_one_cells a_q1_two_cells a_q1_draught_cells u_q1_doors c_breathing z_5 c_into c_nearest c_q1_galleries c_q1_shafts c_q1_one c_q1_two c_q1_draught)) X (c_X8_set l D cA a_height a_height_cells 7 c_height v4 z_4 _ hz_5) 1 rfl rfl rfl gX0_blow_X8_set rfl rfl rfl ⟨rfl, hd_X8_set⟩ ⟨Nat.le_of_ble_eq_true rfl, Nat.le_of_ble_eq_true rfl⟩ rfl rfl (Nat.le_of_ble_eq_true rfl) rfl (by decide +kernel) rfl (by decide +kernel) (by decide +kernel) ⟨Nat.zero_le _, Nat.zero_le _⟩ rfl (by decide +kernel) dX0_blow_36 rfl ?_
      obtain ⟨v4_6, ev4_6, h⟩ := nam_s h
      refine g_iinc (v := v4_6) (lv' := [(4, .int v4_6), (0, .ref a_me), (1, .ref a_q1), (2, .int v2), (3, .int v3)]) X 4 rfl (by rw [ev4_6]; rfl) (by decide) rfl dX0_blow_39 rfl ?_
      refine g_goto (tgt := 9) X dX0_blow_42 (by decide) ?_
      refine g_lvs [1, 2, 3, 4, 0] rfl ?_
      exact ih _ _ h
set_option maxHeartbeats 4000000 in
set_option maxRecDepth 100000 in
theorem c_X0_blow (l : Launch) (D : va_G) (cA : ClassId) (a_me a_q1 a_height a_into a_nearest a_height_cells a_into_cells a_nearest_cells a_q1_one a_q1_two a_q1_length a_q1_draught a_q1_one_cells a_q1_two_cells a_q1_draught_cells : Nat) (u_q1_doors : Int32) (c_breathing : Int32) (c_height : A32) (c_into : A32) (c_nearest : A32) (c_q1_galleries : Int32) (c_q1_shafts : Int32) (c_q1_one : A32) (c_q1_two : A32) (c_q1_draught : A32) (v2 : Int32) (v3 : Int32) (z : Int32 × A32 × A32 × A32) (h : f_X0_blow c_breathing c_height c_into c_nearest c_q1_galleries c_q1_shafts c_q1_one c_q1_two c_q1_draught v2 v3 = some z) : CtV l yX0_blow wsX0_blow rm_X0_blow D cA [.ref a_me, .ref a_q1, .int v2, .int v3] (w_X0_blow cA a_me a_q1 a_height a_into a_nearest a_height_cells a_into_cells a_nearest_cells a_q1_one a_q1_two a_q1_length a_q1_draught a_q1_one_cells a_q1_two_cells a_q1_draught_cells u_q1_doors c_breathing c_height c_into c_nearest c_q1_galleries c_q1_shafts c_q1_one c_q1_two c_q1_draught) Unit (fun _ => (w_X0_blow cA a_me a_q1 a_height a_into a_nearest a_height_cells a_into_cells a_nearest_cells a_q1_one a_q1_two a_q1_length a_q1_draught a_q1_one_cells a_q1_two_cells a_q1_draught_cells u_q1_doors z.1 z.2.1 z.2.2.1 z.2.2.2 c_q1_galleries c_q1_shafts c_q1_one c_q1_two c_q1_draught)) 0 0 := by
  refine ct_V (maxL := 5) (cc := cX0_blow) (by decide) rfl (Nat.le_of_ble_eq_true rfl) rfl (fun p e s m args below meth c A Q X _ hret => ?_)
  have hret := hret ()
  have h : (Option.bind (f_X0_findNearest c_nearest c_q1_galleries c_q1_shafts c_q1_one c_q1_two v2) fun z_1 => f_X0_blow_b9 c_breathing c_into z_1 c_q1_galleries c_q1_one c_q1_two c_q1_draught v2 v3 FU c_height 0 : Option (Int32 × A32 × A32 × A32)) = some z := h
  refine g_aload_n X 0 rfl rfl dX0_blow_0 rfl ?_
  refine g_aload_n X 1 rfl rfl dX0_blow_1 rfl ?_
  refine g_iload_n X 2 rfl rfl dX0_blow_2 rfl ?_
  obtain ⟨z_1, hz_1, h⟩ := bnd_s h
  refine g_callVV (rm := rm_X0_findNearest) (As := [.ref a_q1, .int v2]) (W0 := (w_X0_findNearest cA a_me a_q1 a_height a_into a_nearest a_nearest_cells a_q1_one a_q1_two a_q1_length a_q1_draught a_q1_one_cells a_q1_two_cells c_breathing u_q1_doors c_nearest c_q1_galleries c_q1_shafts c_q1_one c_q1_two)) (W1 := (w_X0_findNearest cA a_me a_q1 a_height a_into a_nearest a_nearest_cells a_q1_one a_q1_two a_q1_length a_q1_draught a_q1_one_cells a_q1_two_cells c_breathing u_q1_doors z_1 c_q1_galleries c_q1_shafts c_q1_one c_q1_two)) (isC := [0, 5, 6, 7, 8, 9, 10, 11]) (isR := [1, 2, 3, 4, 12, 13]) (perm := [6, 0, 1, 2, 3, 7, 8, 9, 10, 11, 12, 13, 4, 5]) (ws' := (w_X0_blow cA a_me a_q1 a_height a_into a_nearest a_height_cells a_into_cells a_nearest_cells a_q1_one a_q1_two a_q1_length a_q1_draught a_q1_one_cells a_q1_two_cells a_q1_draught_cells u_q1_doors c_breathing c_height c_into z_1 c_q1_galleries c_q1_shafts c_q1_one c_q1_two c_q1_draught)) X (c_X0_findNearest l D cA a_me a_q1 a_height a_into a_nearest a_nearest_cells a_q1_one a_q1_two a_q1_length a_q1_draught a_q1_one_cells a_q1_two_cells c_breathing u_q1_doors c_nearest c_q1_galleries c_q1_shafts c_q1_one c_q1_two v2 _ hz_1) 0 rfl rfl rfl gX0_blow_X0_findNearest rfl rfl rfl ⟨rfl, hd_X0_findNearest⟩ ⟨Nat.le_of_ble_eq_true rfl, Nat.le_of_ble_eq_true rfl⟩ rfl rfl (Nat.le_of_ble_eq_true rfl) rfl (by decide +kernel) rfl (by decide +kernel) (by decide +kernel) ⟨Nat.zero_le _, Nat.zero_le _⟩ rfl (by decide +kernel) dX0_blow_3 rfl ?_
  refine g_iconst (v := 0) X dX0_blow_6 (by decide) rfl ?_
  refine g_istore (lv' := [(4, .int 0), (0, .ref a_me), (1, .ref a_q1), (2, .int v2), (3, .int v3)]) X (by decide) rfl dX0_blow_7 rfl ?_
  refine g_lvs [1, 2, 3, 4, 0] rfl ?_
  exact t_X0_blow_b9 X hret _ _ _ h
abbrev rm_X0_firstInto : Room := { frames := 1, cells := 0, slots := 0, locals := 21 }
theorem hd_X0_firstInto : yX0_firstInto.cls ≠ "java/lang/invoke/MethodHandle" ∧ yX0_firstInto.cls ≠ "java/lang/invoke/VarHandle" ∧ (parseMethodDescriptor yX0_firstInto.desc).map (fun d => d.parameters.length) = some 2 := by decide +kernel
theorem iw_X0_firstInto_X0 : ∀ w ∈ wsX00, w ∈ wsX0_firstInto := fun w h => List.mem_cons_of_mem _ (List.mem_append_left _ (List.mem_append_right _ h))
theorem iw_X0_firstInto_X5 : ∀ w ∈ wsX50, w ∈ wsX0_firstInto := fun w h => List.mem_cons_of_mem _ (List.mem_append_left _ (List.mem_append_left _ (List.mem_append_right _ h)))
theorem fl_X0_firstInto_X5_0 : Cond.fieldLink RX0 51 RX5 (TX5 0).2.1 (TX5 0).2.2.1 ∈ wsX0_firstInto := List.mem_of_getElem? (i := 1) rfl
theorem fl_X0_firstInto_X0_1 : Cond.fieldLink RX0 20 RX0 (TX0 1).2.1 (TX0 1).2.2.1 ∈ wsX0_firstInto := List.mem_of_getElem? (i := 2) rfl
abbrev w_X0_firstInto (cA : ClassId) (a_me a_q1 a_height a_into a_nearest a_into_cells a_q1_one a_q1_two a_q1_length a_q1_draught : Nat) (u_breathing : Int32) (u_q1_doors : Int32) (u_q1_shafts : Int32) (c_into : A32) (c_q1_galleries : Int32) : va_W := [(a_me, .inr (0, [.ref a_height, .ref a_into, .int u_breathing, .ref a_nearest])), (a_into, .inr (8, [.ref a_into_cells])), (a_into_cells, .inl (cA, 10, .inl c_into)), (a_q1, .inr (5, [.int c_q1_galleries, .ref a_q1_one, .ref a_q1_two, .ref a_q1_length, .int u_q1_doors, .ref a_q1_draught, .int u_q1_shafts]))]
set_option maxHeartbeats 4000000 in
set_option maxRecDepth 100000 in
theorem t_X0_firstInto_b2 {l : Launch} {D : va_G} {cA : ClassId} {p : Program} {e : Env} {s : State} {m : MethodId} {args : Array Value} {below : List Frame} {meth : Method} {c : Code} {A : Nat → Prop} {Q : State → Prop} {z : Int32} {a_me a_q1 a_height a_into a_nearest a_into_cells a_q1_one a_q1_two a_q1_length a_q1_draught : Nat} {u_breathing : Int32} {u_q1_doors : Int32} {u_q1_shafts : Int32}  {c_into : A32} {c_q1_galleries : Int32} {v2 : Int32}  (X : GX p s m args c cX0_firstInto RX0 wsX0_firstInto D cA A 4) (hret : RtI p l e rm_X0_firstInto s m args below meth c cX0_firstInto D A 4 0 0 Q .int z (w_X0_firstInto cA a_me a_q1 a_height a_into a_nearest a_into_cells a_q1_one a_q1_two a_q1_length a_q1_draught u_breathing u_q1_doors u_q1_shafts c_into c_q1_galleries))  : ∀ (fu : Nat) (v3 : Int32), f_X0_firstInto_b2 c_into c_q1_galleries v2 fu v3 = some z → G p l e rm_X0_firstInto s m args below meth c D A 4 0 0 Q 2 [(0, .ref a_me), (1, .ref a_q1), (2, .int v2), (3, .int v3)] [] (w_X0_firstInto cA a_me a_q1 a_height a_into a_nearest a_into_cells a_q1_one a_q1_two a_q1_length a_q1_draught u_breathing u_q1_doors u_q1_shafts c_into c_q1_galleries) := by
  intro fu
  induction fu with
  | zero => intro v3 h; exact absurd (show (none : Option (Int32)) = some z from h) (by simp)
  | succ fu ih =>
    intro v3 h
    have h : (if c_q1_galleries ≤ v3 then some (-1) else Option.bind (f_X8_get 10 c_into v3) fun z_2 => if z_2 = v2 then some v3 else nam (v3 + 1) fun v3_4 => (f_X0_firstInto_b2 c_into c_q1_galleries v2 fu) v3_4 : Option (Int32)) = some z := h
    refine g_iload_n X 3 rfl rfl dX0_firstInto_2 rfl ?_
    refine g_aload_n X 1 rfl rfl dX0_firstInto_3 rfl ?_
    refine g_getf (C := RX5) (T := TX5) (N := 7) (v := .int c_q1_galleries) X 3 rfl vc_X5 0 (by decide) iw_X0_firstInto_X5 fl_X0_firstInto_X5_0 rfl rfl dX0_firstInto_4 rfl ?_
    refine g_icmp_ge (tgt := 30) X dX0_firstInto_7 (by decide) rfl h (fun c_1 h => ?_) (fun c_1 h => ?_)
    · refine g_iconst (v := (-1)) X dX0_firstInto_30 (by decide) rfl ?_
      cases Option.some.inj h
      exact hret _ _ dX0_firstInto_31 rfl
    · refine g_aload_n X 0 rfl rfl dX0_firstInto_10 rfl ?_
      refine g_getf (C := RX0) (T := TX0) (N := 4) (v := .ref a_into) X 0 rfl vc_X0 1 (by decide) iw_X0_firstInto_X0 fl_X0_firstInto_X0_1 rfl rfl dX0_firstInto_11 rfl ?_
      refine g_iload_n X 3 rfl rfl dX0_firstInto_14 rfl ?_
      obtain ⟨z_2, hz_2, h⟩ := bnd_s h
      refine g_callVI (rm := rm_X8_get) (As := [.int v3]) (r := z_2) (W0 := (w_X8_get cA a_into a_into_cells 10 c_into)) (W1 := (w_X8_get cA a_into a_into_cells 10 c_into)) (isC := [1, 2]) (isR := [0, 3]) (perm := [0, 2, 3, 1]) (ws' := (w_X0_firstInto cA a_me a_q1 a_height a_into a_nearest a_into_cells a_q1_one a_q1_two a_q1_length a_q1_draught u_breathing u_q1_doors u_q1_shafts c_into c_q1_galleries)) X (c_X8_get l D cA a_into a_into_cells 10 c_into v3 _ hz_2) 1 rfl rfl rfl gX0_firstInto_X8_get rfl rfl rfl ⟨rfl, hd_X8_get⟩ ⟨Nat.le_of_ble_eq_true rfl, Nat.le_of_ble_eq_true rfl⟩ rfl rfl (Nat.le_of_ble_eq_true rfl) rfl (by decide +kernel) rfl (by decide +kernel) (by decide +kernel) ⟨Nat.zero_le _, Nat.zero_le _⟩ rfl (by decide +kernel) dX0_firstInto_15 rfl ?_
      refine g_iload_n X 2 rfl rfl dX0_firstInto_18 rfl ?_
      refine g_icmp_ne (tgt := 24) X dX0_firstInto_19 (by decide) rfl h (fun c_3 h => ?_) (fun c_3 h => ?_)
      · obtain ⟨v3_4, ev3_4, h⟩ := nam_s h
        refine g_iinc (v := v3_4) (lv' := [(3, .int v3_4), (0, .ref a_me), (1, .ref a_q1), (2, .int v2)]) X 3 rfl (by rw [ev3_4]; rfl) (by decide) rfl dX0_firstInto_24 rfl ?_
        refine g_goto (tgt := 2) X dX0_firstInto_27 (by decide) ?_
        refine g_lvs [1, 2, 3, 0] rfl ?_
        exact ih _ h
      · refine g_iload_n X 3 rfl rfl dX0_firstInto_22 rfl ?_
        cases Option.some.inj h
        exact hret _ _ dX0_firstInto_23 rfl
set_option maxHeartbeats 4000000 in
set_option maxRecDepth 100000 in
theorem c_X0_firstInto (l : Launch) (D : va_G) (cA : ClassId) (a_me a_q1 a_height a_into a_nearest a_into_cells a_q1_one a_q1_two a_q1_length a_q1_draught : Nat) (u_breathing : Int32) (u_q1_doors : Int32) (u_q1_shafts : Int32) (c_into : A32) (c_q1_galleries : Int32) (v2 : Int32) (z : Int32) (h : f_X0_firstInto c_into c_q1_galleries v2 = some z) : CtI l yX0_firstInto wsX0_firstInto rm_X0_firstInto D cA [.ref a_me, .ref a_q1, .int v2] (w_X0_firstInto cA a_me a_q1 a_height a_into a_nearest a_into_cells a_q1_one a_q1_two a_q1_length a_q1_draught u_breathing u_q1_doors u_q1_shafts c_into c_q1_galleries) z (w_X0_firstInto cA a_me a_q1 a_height a_into a_nearest a_into_cells a_q1_one a_q1_two a_q1_length a_q1_draught u_breathing u_q1_doors u_q1_shafts c_into c_q1_galleries) := by
  refine ct_I (maxL := 4) (ty := .int) (cc := cX0_firstInto) (by decide) rfl (Nat.le_of_ble_eq_true rfl) rfl (fun p e s m args below meth c A Q X hret => ?_)
  have h : (f_X0_firstInto_b2 c_into c_q1_galleries v2 FU 0 : Option (Int32)) = some z := h
  refine g_iconst (v := 0) X dX0_firstInto_0 (by decide) rfl ?_
  refine g_istore_n (lv' := [(3, .int 0), (0, .ref a_me), (1, .ref a_q1), (2, .int v2)]) X rfl (by decide) rfl dX0_firstInto_1 rfl ?_
  refine g_lvs [1, 2, 3, 0] rfl ?_
  exact t_X0_firstInto_b2 X hret _ _ h
abbrev rm_X5_otherEnd : Room := { frames := 1, cells := 0, slots := 0, locals := 21 }
theorem hd_X5_otherEnd : yX5_otherEnd.cls ≠ "java/lang/invoke/MethodHandle" ∧ yX5_otherEnd.cls ≠ "java/lang/invoke/VarHandle" ∧ (parseMethodDescriptor yX5_otherEnd.desc).map (fun d => d.parameters.length) = some 2 := by decide +kernel
theorem iw_X5_otherEnd_X5 : ∀ w ∈ wsX50, w ∈ wsX5_otherEnd := fun w h => List.mem_cons_of_mem _ (List.mem_append_left _ (List.mem_append_right _ h))
theorem fl_X5_otherEnd_X5_1 : Cond.fieldLink RX5 14 RX5 (TX5 1).2.1 (TX5 1).2.2.1 ∈ wsX5_otherEnd := List.mem_of_getElem? (i := 1) rfl
theorem fl_X5_otherEnd_X5_2 : Cond.fieldLink RX5 20 RX5 (TX5 2).2.1 (TX5 2).2.2.1 ∈ wsX5_otherEnd := List.mem_of_getElem? (i := 2) rfl
abbrev w_X5_otherEnd (cA : ClassId) (a_me a_one a_two a_length a_draught a_one_cells a_two_cells : Nat) (u_galleries : Int32) (u_doors : Int32) (u_shafts : Int32) (c_one : A32) (c_two : A32) : va_W := [(a_me, .inr (5, [.int u_galleries, .ref a_one, .ref a_two, .ref a_length, .int u_doors, .ref a_draught, .int u_shafts])), (a_one, .inr (8, [.ref a_one_cells])), (a_one_cells, .inl (cA, 10, .inl c_one)), (a_two, .inr (8, [.ref a_two_cells])), (a_two_cells, .inl (cA, 10, .inl c_two))]
set_option maxHeartbeats 4000000 in
set_option maxRecDepth 100000 in
theorem c_X5_otherEnd (l : Launch) (D : va_G) (cA : ClassId) (a_me a_one a_two a_length a_draught a_one_cells a_two_cells : Nat) (u_galleries : Int32) (u_doors : Int32) (u_shafts : Int32) (c_one : A32) (c_two : A32) (v1 : Int32) (v2 : Int32) (z : Int32) (h : f_X5_otherEnd c_one c_two v1 v2 = some z) : CtI l yX5_otherEnd wsX5_otherEnd rm_X5_otherEnd D cA [.ref a_me, .int v1, .int v2] (w_X5_otherEnd cA a_me a_one a_two a_length a_draught a_one_cells a_two_cells u_galleries u_doors u_shafts c_one c_two) z (w_X5_otherEnd cA a_me a_one a_two a_length a_draught a_one_cells a_two_cells u_galleries u_doors u_shafts c_one c_two) := by
  refine ct_I (maxL := 3) (ty := .int) (cc := cX5_otherEnd) (by decide) rfl (Nat.le_of_ble_eq_true rfl) rfl (fun p e s m args below meth c A Q X hret => ?_)
  have h : (Option.bind (f_X8_get 10 c_one v1) fun z_1 => if z_1 = v2 then Option.bind (f_X8_get 10 c_two v1) fun z_4 => some z_4 else Option.bind (f_X8_get 10 c_one v1) fun z_3 => some z_3 : Option (Int32)) = some z := h
  refine g_aload_n X 0 rfl rfl dX5_otherEnd_0 rfl ?_
  refine g_getf (C := RX5) (T := TX5) (N := 7) (v := .ref a_one) X 0 rfl vc_X5 1 (by decide) iw_X5_otherEnd_X5 fl_X5_otherEnd_X5_1 rfl rfl dX5_otherEnd_1 rfl ?_
  refine g_iload_n X 1 rfl rfl dX5_otherEnd_4 rfl ?_
  obtain ⟨z_1, hz_1, h⟩ := bnd_s h
  refine g_callVI (rm := rm_X8_get) (As := [.int v1]) (r := z_1) (W0 := (w_X8_get cA a_one a_one_cells 10 c_one)) (W1 := (w_X8_get cA a_one a_one_cells 10 c_one)) (isC := [1, 2]) (isR := [0, 3, 4]) (perm := [0, 3, 4, 1, 2]) (ws' := (w_X5_otherEnd cA a_me a_one a_two a_length a_draught a_one_cells a_two_cells u_galleries u_doors u_shafts c_one c_two)) X (c_X8_get l D cA a_one a_one_cells 10 c_one v1 _ hz_1) 1 rfl rfl rfl gX5_otherEnd_X8_get rfl rfl rfl ⟨rfl, hd_X8_get⟩ ⟨Nat.le_of_ble_eq_true rfl, Nat.le_of_ble_eq_true rfl⟩ rfl rfl (Nat.le_of_ble_eq_true rfl) rfl (by decide +kernel) rfl (by decide +kernel) (by decide +kernel) ⟨Nat.zero_le _, Nat.zero_le _⟩ rfl (by decide +kernel) dX5_otherEnd_5 rfl ?_
  refine g_iload_n X 2 rfl rfl dX5_otherEnd_8 rfl ?_
  refine g_icmp_ne (tgt := 23) X dX5_otherEnd_9 (by decide) rfl h (fun c_2 h => ?_) (fun c_2 h => ?_)
  · refine g_aload_n X 0 rfl rfl dX5_otherEnd_23 rfl ?_
    refine g_getf (C := RX5) (T := TX5) (N := 7) (v := .ref a_one) X 0 rfl vc_X5 1 (by decide) iw_X5_otherEnd_X5 fl_X5_otherEnd_X5_1 rfl rfl dX5_otherEnd_24 rfl ?_
    refine g_iload_n X 1 rfl rfl dX5_otherEnd_27 rfl ?_
    obtain ⟨z_3, hz_3, h⟩ := bnd_s h
    refine g_callVI (rm := rm_X8_get) (As := [.int v1]) (r := z_3) (W0 := (w_X8_get cA a_one a_one_cells 10 c_one)) (W1 := (w_X8_get cA a_one a_one_cells 10 c_one)) (isC := [1, 2]) (isR := [0, 3, 4]) (perm := [0, 3, 4, 1, 2]) (ws' := (w_X5_otherEnd cA a_me a_one a_two a_length a_draught a_one_cells a_two_cells u_galleries u_doors u_shafts c_one c_two)) X (c_X8_get l D cA a_one a_one_cells 10 c_one v1 _ hz_3) 1 rfl rfl rfl gX5_otherEnd_X8_get rfl rfl rfl ⟨rfl, hd_X8_get⟩ ⟨Nat.le_of_ble_eq_true rfl, Nat.le_of_ble_eq_true rfl⟩ rfl rfl (Nat.le_of_ble_eq_true rfl) rfl (by decide +kernel) rfl (by decide +kernel) (by decide +kernel) ⟨Nat.zero_le _, Nat.zero_le _⟩ rfl (by decide +kernel) dX5_otherEnd_28 rfl ?_
    cases Option.some.inj h
    exact hret _ _ dX5_otherEnd_31 rfl
  · refine g_aload_n X 0 rfl rfl dX5_otherEnd_12 rfl ?_
    refine g_getf (C := RX5) (T := TX5) (N := 7) (v := .ref a_two) X 0 rfl vc_X5 2 (by decide) iw_X5_otherEnd_X5 fl_X5_otherEnd_X5_2 rfl rfl dX5_otherEnd_13 rfl ?_
    refine g_iload_n X 1 rfl rfl dX5_otherEnd_16 rfl ?_
    obtain ⟨z_4, hz_4, h⟩ := bnd_s h
    refine g_callVI (rm := rm_X8_get) (As := [.int v1]) (r := z_4) (W0 := (w_X8_get cA a_two a_two_cells 10 c_two)) (W1 := (w_X8_get cA a_two a_two_cells 10 c_two)) (isC := [3, 4]) (isR := [0, 1, 2]) (perm := [0, 1, 2, 3, 4]) (ws' := (w_X5_otherEnd cA a_me a_one a_two a_length a_draught a_one_cells a_two_cells u_galleries u_doors u_shafts c_one c_two)) X (c_X8_get l D cA a_two a_two_cells 10 c_two v1 _ hz_4) 3 rfl rfl rfl gX5_otherEnd_X8_get rfl rfl rfl ⟨rfl, hd_X8_get⟩ ⟨Nat.le_of_ble_eq_true rfl, Nat.le_of_ble_eq_true rfl⟩ rfl rfl (Nat.le_of_ble_eq_true rfl) rfl (by decide +kernel) rfl (by decide +kernel) (by decide +kernel) ⟨Nat.zero_le _, Nat.zero_le _⟩ rfl (by decide +kernel) dX5_otherEnd_17 rfl ?_
    refine g_goto (tgt := 31) X dX5_otherEnd_20 (by decide) ?_
    cases Option.some.inj h
    exact hret _ _ dX5_otherEnd_31 rfl
abbrev rm_X0_carrySmoke : Room := { frames := 4, cells := 0, slots := 0, locals := 92 }
theorem hd_X0_carrySmoke : yX0_carrySmoke.cls ≠ "java/lang/invoke/MethodHandle" ∧ yX0_carrySmoke.cls ≠ "java/lang/invoke/VarHandle" ∧ (parseMethodDescriptor yX0_carrySmoke.desc).map (fun d => d.parameters.length) = some 2 := by decide +kernel
theorem iw_X0_carrySmoke_X0 : ∀ w ∈ wsX00, w ∈ wsX0_carrySmoke := fun w h => List.mem_cons_of_mem _ (List.mem_append_left _ (List.mem_append_left _ (List.mem_append_right _ h)))
theorem iw_X0_carrySmoke_X5 : ∀ w ∈ wsX50, w ∈ wsX0_carrySmoke := fun w h => List.mem_cons_of_mem _ (List.mem_append_left _ (List.mem_append_left _ (List.mem_append_left _ (List.mem_append_right _ h))))
theorem fl_X0_carrySmoke_X5_0 : Cond.fieldLink RX0 51 RX5 (TX5 0).2.1 (TX5 0).2.2.1 ∈ wsX0_carrySmoke := List.mem_of_getElem? (i := 1) rfl
theorem fl_X0_carrySmoke_X0_1 : Cond.fieldLink RX0 20 RX0 (TX0 1).2.1 (TX0 1).2.2.1 ∈ wsX0_carrySmoke := List.mem_of_getElem? (i := 2) rfl
theorem fl_X0_carrySmoke_X5_3 : Cond.fieldLink RX0 91 RX5 (TX5 3).2.1 (TX5 3).2.2.1 ∈ wsX0_carrySmoke := List.mem_of_getElem? (i := 3) rfl
abbrev w_X0_carrySmoke (cA : ClassId) (a_me a_q1 a_q2 a_height a_into a_nearest a_into_cells a_q1_one a_q1_two a_q1_length a_q1_draught a_q1_one_cells a_q1_two_cells a_q1_length_cells a_q2_lengths a_q2_lengths_cells : Nat) (u_breathing : Int32) (u_q1_doors : Int32) (u_q1_shafts : Int32) (c_into : A32) (c_q1_galleries : Int32) (c_q1_one : A32) (c_q1_two : A32) (c_q1_length : A32) (c_q2_lengths : A32) : va_W := [(a_me, .inr (0, [.ref a_height, .ref a_into, .int u_breathing, .ref a_nearest])), (a_into, .inr (8, [.ref a_into_cells])), (a_into_cells, .inl (cA, 10, .inl c_into)), (a_q1, .inr (5, [.int c_q1_galleries, .ref a_q1_one, .ref a_q1_two, .ref a_q1_length, .int u_q1_doors, .ref a_q1_draught, .int u_q1_shafts])), (a_q1_one, .inr (8, [.ref a_q1_one_cells])), (a_q1_one_cells, .inl (cA, 10, .inl c_q1_one)), (a_q1_two, .inr (8, [.ref a_q1_two_cells])), (a_q1_two_cells, .inl (cA, 10, .inl c_q1_two)), (a_q1_length, .inr (8, [.ref a_q1_length_cells])), (a_q1_length_cells, .inl (cA, 10, .inl c_q1_length)), (a_q2, .inr (9, [.ref a_q2_lengths])), (a_q2_lengths, .inr (8, [.ref a_q2_lengths_cells])), (a_q2_lengths_cells, .inl (cA, 49, .inl c_q2_lengths))]
set_option maxHeartbeats 4000000 in
set_option maxRecDepth 100000 in
theorem t_X0_carrySmoke_b51 {l : Launch} {D : va_G} {cA : ClassId} {p : Program} {e : Env} {s : State} {m : MethodId} {args : Array Value} {below : List Frame} {meth : Method} {c : Code} {A : Nat → Prop} {Q : State → Prop} {z : A32} {a_me a_q1 a_q2 a_height a_into a_nearest a_into_cells a_q1_one a_q1_two a_q1_length a_q1_draught a_q1_one_cells a_q1_two_cells a_q1_length_cells a_q2_lengths a_q2_lengths_cells : Nat} {u_breathing : Int32} {u_q1_doors : Int32} {u_q1_shafts : Int32}  {c_into : A32} {c_q1_galleries : Int32} {c_q1_one : A32} {c_q1_two : A32} {c_q1_length : A32} {c_q2_lengths : A32} {v3 : Int32} {k6 : A32 → Int32 → Option (A32)} (X : GX p s m args c cX0_carrySmoke RX0 wsX0_carrySmoke D cA A 5) (hret : RtV p l e rm_X0_carrySmoke s m args below meth c cX0_carrySmoke D A 5 0 0 Q (w_X0_carrySmoke cA a_me a_q1 a_q2 a_height a_into a_nearest a_into_cells a_q1_one a_q1_two a_q1_length a_q1_draught a_q1_one_cells a_q1_two_cells a_q1_length_cells a_q2_lengths a_q2_lengths_cells u_breathing u_q1_doors u_q1_shafts c_into c_q1_galleries c_q1_one c_q1_two c_q1_length z)) (hk6 : ∀ (c_q2_lengths : A32) (v3 : Int32), k6 c_q2_lengths v3 = some z → G p l e rm_X0_carrySmoke s m args below meth c D A 5 0 0 Q 6 [(0, .ref a_me), (1, .ref a_q1), (2, .ref a_q2), (3, .int v3)] [] (w_X0_carrySmoke cA a_me a_q1 a_q2 a_height a_into a_nearest a_into_cells a_q1_one a_q1_two a_q1_length a_q1_draught a_q1_one_cells a_q1_two_cells a_q1_length_cells a_q2_lengths a_q2_lengths_cells u_breathing u_q1_doors u_q1_shafts c_into c_q1_galleries c_q1_one c_q1_two c_q1_length c_q2_lengths)) (h : f_X0_carrySmoke_b51 k6 c_into c_q1_galleries c_q1_one c_q1_two c_q1_length c_q2_lengths v3 = some z) : G p l e rm_X0_carrySmoke s m args below meth c D A 5 0 0 Q 51 [(0, .ref a_me), (1, .ref a_q1), (2, .ref a_q2), (3, .int v3)] [] (w_X0_carrySmoke cA a_me a_q1 a_q2 a_height a_into a_nearest a_into_cells a_q1_one a_q1_two a_q1_length a_q1_draught a_q1_one_cells a_q1_two_cells a_q1_length_cells a_q2_lengths a_q2_lengths_cells u_breathing u_q1_doors u_q1_shafts c_into c_q1_galleries c_q1_one c_q1_two c_q1_length c_q2_lengths) := by
  have h : (nam (v3 + 1) fun v3_1 => k6 c_q2_lengths v3_1 : Option (A32)) = some z := h
  obtain ⟨v3_1, ev3_1, h⟩ := nam_s h
  refine g_iinc (v := v3_1) (lv' := [(3, .int v3_1), (0, .ref a_me), (1, .ref a_q1), (2, .ref a_q2)]) X 3 rfl (by rw [ev3_1]; rfl) (by decide) rfl dX0_carrySmoke_51 rfl ?_
  refine g_goto (tgt := 6) X dX0_carrySmoke_54 (by decide) ?_
  refine g_lvs [1, 2, 3, 0] rfl ?_
  exact hk6 _ _ h
set_option maxHeartbeats 4000000 in
set_option maxRecDepth 100000 in
theorem t_X0_carrySmoke_b6 {l : Launch} {D : va_G} {cA : ClassId} {p : Program} {e : Env} {s : State} {m : MethodId} {args : Array Value} {below : List Frame} {meth : Method} {c : Code} {A : Nat → Prop} {Q : State → Prop} {z : A32} {a_me a_q1 a_q2 a_height a_into a_nearest a_into_cells a_q1_one a_q1_two a_q1_length a_q1_draught a_q1_one_cells a_q1_two_cells a_q1_length_cells a_q2_lengths a_q2_lengths_cells : Nat} {u_breathing : Int32} {u_q1_doors : Int32} {u_q1_shafts : Int32}  {c_into : A32} {c_q1_galleries : Int32} {c_q1_one : A32} {c_q1_two : A32} {c_q1_length : A32}  (X : GX p s m args c cX0_carrySmoke RX0 wsX0_carrySmoke D cA A 5) (hret : RtV p l e rm_X0_carrySmoke s m args below meth c cX0_carrySmoke D A 5 0 0 Q (w_X0_carrySmoke cA a_me a_q1 a_q2 a_height a_into a_nearest a_into_cells a_q1_one a_q1_two a_q1_length a_q1_draught a_q1_one_cells a_q1_two_cells a_q1_length_cells a_q2_lengths a_q2_lengths_cells u_breathing u_q1_doors u_q1_shafts c_into c_q1_galleries c_q1_one c_q1_two c_q1_length z))  : ∀ (fu : Nat) (c_q2_lengths : A32) (v3 : Int32), f_X0_carrySmoke_b6 c_into c_q1_galleries c_q1_one c_q1_two c_q1_length fu c_q2_lengths v3 = some z → G p l e rm_X0_carrySmoke s m args below meth c D A 5 0 0 Q 6 [(0, .ref a_me), (1, .ref a_q1), (2, .ref a_q2), (3, .int v3)] [] (w_X0_carrySmoke cA a_me a_q1 a_q2 a_height a_into a_nearest a_into_cells a_q1_one a_q1_two a_q1_length a_q1_draught a_q1_one_cells a_q1_two_cells a_q1_length_cells a_q2_lengths a_q2_lengths_cells u_breathing u_q1_doors u_q1_shafts c_into c_q1_galleries c_q1_one c_q1_two c_q1_length c_q2_lengths) := by
  intro fu
  induction fu with
  | zero => intro c_q2_lengths v3 h; exact absurd (show (none : Option (A32)) = some z from h) (by simp)
  | succ fu ih =>
    intro c_q2_lengths v3 h
    have h : (if c_q1_galleries ≤ v3 then Option.bind (f_X9_joinWays c_q2_lengths) fun z_2 => some z_2 else Option.bind (f_X8_get 10 c_into v3) fun z_3 => if z_3 = (-1) then f_X0_carrySmoke_b51 (f_X0_carrySmoke_b6 c_into c_q1_galleries c_q1_one c_q1_two c_q1_length fu) c_into c_q1_galleries c_q1_one c_q1_two c_q1_length c_q2_lengths v3 else Option.bind (f_X5_otherEnd c_q1_one c_q1_two v3 z_3) fun z_5 => Option.bind (f_X8_get 10 c_q1_length v3) fun z_6 => Option.bind (f_X9_link c_q2_lengths z_5 z_3 z_6) fun z_7 => f_X0_carrySmoke_b51 (f_X0_carrySmoke_b6 c_into c_q1_galleries c_q1_one c_q1_two c_q1_length fu) c_into c_q1_galleries c_q1_one c_q1_two c_q1_length z_7 v3 : Option (A32)) = some z := h
    refine g_iload_n X 3 rfl rfl dX0_carrySmoke_6 rfl ?_
    refine g_aload_n X 1 rfl rfl dX0_carrySmoke_7 rfl ?_
    refine g_getf (C := RX5) (T := TX5) (N := 7) (v := .int c_q1_galleries) X 3 rfl vc_X5 0 (by decide) iw_X0_carrySmoke_X5 fl_X0_carrySmoke_X5_0 rfl rfl dX0_carrySmoke_8 rfl ?_
    refine g_icmp_ge (tgt := 57) X dX0_carrySmoke_11 (by decide) rfl h (fun c_1 h => ?_) (fun c_1 h => ?_)
    · refine g_aload_n X 2 rfl rfl dX0_carrySmoke_57 rfl ?_
      obtain ⟨z_2, hz_2, h⟩ := bnd_s h
      refine g_callVV (rm := rm_X9_joinWays) (As := []) (W0 := (w_X9_joinWays cA a_q2 a_q2_lengths a_q2_lengths_cells c_q2_lengths)) (W1 := (w_X9_joinWays cA a_q2 a_q2_lengths a_q2_lengths_cells z_2)) (isC := [10, 11, 12]) (isR := [0, 1, 2, 3, 4, 5, 6, 7, 8, 9]) (perm := [0, 1, 2, 3, 4, 5, 6, 7, 8, 9, 10, 11, 12]) (ws' := (w_X0_carrySmoke cA a_me a_q1 a_q2 a_height a_into a_nearest a_into_cells a_q1_one a_q1_two a_q1_length a_q1_draught a_q1_one_cells a_q1_two_cells a_q1_length_cells a_q2_lengths a_q2_lengths_cells u_breathing u_q1_doors u_q1_shafts c_into c_q1_galleries c_q1_one c_q1_two c_q1_length z_2)) X (c_X9_joinWays l D cA a_q2 a_q2_lengths a_q2_lengths_cells c_q2_lengths _ hz_2) 10 rfl rfl rfl gX0_carrySmoke_X9_joinWays rfl rfl rfl ⟨rfl, hd_X9_joinWays⟩ ⟨Nat.le_of_ble_eq_true rfl, Nat.le_of_ble_eq_true rfl⟩ rfl rfl (Nat.le_of_ble_eq_true rfl) rfl (by decide +kernel) rfl (by decide +kernel) (by decide +kernel) ⟨Nat.zero_le _, Nat.zero_le _⟩ rfl (by decide +kernel) dX0_carrySmoke_58 rfl ?_
      cases Option.some.inj h
      exact hret _ _ dX0_carrySmoke_61
    · refine g_aload_n X 0 rfl rfl dX0_carrySmoke_14 rfl ?_
      refine g_getf (C := RX0) (T := TX0) (N := 4) (v := .ref a_into) X 0 rfl vc_X0 1 (by decide) iw_X0_carrySmoke_X0 fl_X0_carrySmoke_X0_1 rfl rfl dX0_carrySmoke_15 rfl ?_
      refine g_iload_n X 3 rfl rfl dX0_carrySmoke_18 rfl ?_
      obtain ⟨z_3, hz_3, h⟩ := bnd_s h
      refine g_callVI (rm := rm_X8_get) (As := [.int v3]) (r := z_3) (W0 := (w_X8_get cA a_into a_into_cells 10 c_into)) (W1 := (w_X8_get cA a_into a_into_cells 10 c_into)) (isC := [1, 2]) (isR := [0, 3, 4, 5, 6, 7, 8, 9, 10, 11, 12]) (perm := [0, 11, 12, 1, 2, 3, 4, 5, 6, 7, 8, 9, 10]) (ws' := (w_X0_carrySmoke cA a_me a_q1 a_q2 a_height a_into a_nearest a_into_cells a_q1_one a_q1_two a_q1_length a_q1_draught a_q1_one_cells a_q1_two_cells a_q1_length_cells a_q2_lengths a_q2_lengths_cells u_breathing u_q1_doors u_q1_shafts c_into c_q1_galleries c_q1_one c_q1_two c_q1_length c_q2_lengths)) X (c_X8_get l D cA a_into a_into_cells 10 c_into v3 _ hz_3) 1 rfl rfl rfl gX0_carrySmoke_X8_get rfl rfl rfl ⟨rfl, hd_X8_get⟩ ⟨Nat.le_of_ble_eq_true rfl, Nat.le_of_ble_eq_true rfl⟩ rfl rfl (Nat.le_of_ble_eq_true rfl) rfl (by decide +kernel) rfl (by decide +kernel) (by decide +kernel) ⟨Nat.zero_le _, Nat.zero_le _⟩ rfl (by decide +kernel) dX0_carrySmoke_19 rfl ?_
      refine g_istore (lv' := [(4, .int z_3), (0, .ref a_me), (1, .ref a_q1), (2, .ref a_q2), (3, .int v3)]) X (by decide) rfl dX0_carrySmoke_22 rfl ?_
      refine g_iload X 0 rfl dX0_carrySmoke_24 rfl ?_
      refine g_iconst (v := (-1)) X dX0_carrySmoke_26 (by decide) rfl ?_
      refine g_icmp_eq (tgt := 51) X dX0_carrySmoke_27 (by decide) rfl h (fun c_4 h => ?_) (fun c_4 h => ?_)
      · refine g_lvs [1, 2, 3, 4] rfl ?_
        exact t_X0_carrySmoke_b51 X hret ih h
      · refine g_aload_n X 3 rfl rfl dX0_carrySmoke_30 rfl ?_
        refine g_aload_n X 2 rfl rfl dX0_carrySmoke_31 rfl ?_
        refine g_iload_n X 4 rfl rfl dX0_carrySmoke_32 rfl ?_
        refine g_iload X 0 rfl dX0_carrySmoke_33 rfl ?_
        obtain ⟨z_5, hz_5, h⟩ := bnd_s h
        refine g_callVI (rm := rm_X5_otherEnd) (As := [.int v3, .int z_3]) (r := z_5) (W0 := (w_X5_otherEnd cA a_q1 a_q1_one a_q1_two a_q1_length a_q1_draught a_q1_one_cells a_q1_two_cells c_q1_galleries u_q1_doors u_q1_shafts c_q1_one c_q1_two)) (W1 := (w_X5_otherEnd cA a_q1 a_q1_one a_q1_two a_q1_length a_q1_draught a_q1_one_cells a_q1_two_cells c_q1_galleries u_q1_doors u_q1_shafts c_q1_one c_q1_two)) (isC := [3, 4, 5, 6, 7]) (isR := [0, 1, 2, 8, 9, 10, 11, 12]) (perm := [0, 1, 2, 8, 9, 10, 11, 12, 3, 4, 5, 6, 7]) (ws' := (w_X0_carrySmoke cA a_me a_q1 a_q2 a_height a_into a_nearest a_into_cells a_q1_one a_q1_two a_q1_length a_q1_draught a_q1_one_cells a_q1_two_cells a_q1_length_cells a_q2_lengths a_q2_lengths_cells u_breathing u_q1_doors u_q1_shafts c_into c_q1_galleries c_q1_one c_q1_two c_q1_length c_q2_lengths)) X (c_X5_otherEnd l D cA a_q1 a_q1_one a_q1_two a_q1_length a_q1_draught a_q1_one_cells a_q1_two_cells c_q1_galleries u_q1_doors u_q1_shafts c_q1_one c_q1_two v3 z_3 _ hz_5) 3 rfl rfl rfl gX0_carrySmoke_X5_otherEnd rfl rfl rfl ⟨rfl, hd_X5_otherEnd⟩ ⟨Nat.le_of_ble_eq_true rfl, Nat.le_of_ble_eq_true rfl⟩ rfl rfl (Nat.le_of_ble_eq_true rfl) rfl (by decide +kernel) rfl (by decide +kernel) (by decide +kernel) ⟨Nat.zero_le _, Nat.zero_le _⟩ rfl (by decide +kernel) dX0_carrySmoke_35 rfl ?_
        refine g_iload X 0 rfl dX0_carrySmoke_38 rfl ?_
        refine g_aload_n X 2 rfl rfl dX0_carrySmoke_40 rfl ?_
        refine g_getf (C := RX5) (T := TX5) (N := 7) (v := .ref a_q1_length) X 3 rfl vc_X5 3 (by decide) iw_X0_carrySmoke_X5 fl_X0_carrySmoke_X5_3 rfl rfl dX0_carrySmoke_41 rfl ?_
        refine g_iload_n X 4 rfl rfl dX0_carrySmoke_44 rfl ?_
        obtain ⟨z_6, hz_6, h⟩ := bnd_s h
        refine g_callVI (rm := rm_X8_get) (As := [.int v3]) (r := z_6) (W0 := (w_X8_get cA a_q1_length a_q1_length_cells 10 c_q1_length)) (W1 := (w_X8_get cA a_q1_length a_q1_length_cells 10 c_q1_length)) (isC := [8, 9]) (isR := [0, 1, 2, 3, 4, 5, 6, 7, 10, 11, 12]) (perm := [0, 1, 2, 3, 4, 5, 6, 7, 11, 12, 8, 9, 10]) (ws' := (w_X0_carrySmoke cA a_me a_q1 a_q2 a_height a_into a_nearest a_into_cells a_q1_one a_q1_two a_q1_length a_q1_draught a_q1_one_cells a_q1_two_cells a_q1_length_cells a_q2_lengths a_q2_lengths_cells u_breathing u_q1_doors u_q1_shafts c_into c_q1_galleries c_q1_one c_q1_two c_q1_length c_q2_lengths)) X (c_X8_get l D cA a_q1_length a_q1_length_cells 10 c_q1_length v3 _ hz_6) 8 rfl rfl rfl gX0_carrySmoke_X8_get rfl rfl rfl ⟨rfl, hd_X8_get⟩ ⟨Nat.le_of_ble_eq_true rfl, Nat.le_of_ble_eq_true rfl⟩ rfl rfl (Nat.le_of_ble_eq_true rfl) rfl (by decide +kernel) rfl (by decide +kernel) (by decide +kernel) ⟨Nat.zero_le _, Nat.zero_le _⟩ rfl (by decide +kernel) dX0_carrySmoke_45 rfl ?_
        obtain ⟨z_7, hz_7, h⟩ := bnd_s h
        refine g_callVV (rm := rm_X9_link) (As := [.int z_5, .int z_3, .int z_6]) (W0 := (w_X9_link cA a_q2 a_q2_lengths a_q2_lengths_cells c_q2_lengths)) (W1 := (w_X9_link cA a_q2 a_q2_lengths a_q2_lengths_cells z_7)) (isC := [10, 11, 12]) (isR := [0, 1, 2, 3, 4, 5, 6, 7, 8, 9]) (perm := [0, 1, 2, 3, 4, 5, 6, 7, 8, 9, 10, 11, 12]) (ws' := (w_X0_carrySmoke cA a_me a_q1 a_q2 a_height a_into a_nearest a_into_cells a_q1_one a_q1_two a_q1_length a_q1_draught a_q1_one_cells a_q1_two_cells a_q1_length_cells a_q2_lengths a_q2_lengths_cells u_breathing u_q1_doors u_q1_shafts c_into c_q1_galleries c_q1_one c_q1_two c_q1_length z_7)) X (c_X9_link l D cA a_q2 a_q2_lengths a_q2_lengths_cells c_q2_lengths z_5 z_3 z_6 _ hz_7) 10 rfl rfl rfl gX0_carrySmoke_X9_link rfl rfl rfl ⟨rfl, hd_X9_link⟩ ⟨Nat.le_of_ble_eq_true rfl, Nat.le_of_ble_eq_true rfl⟩ rfl rfl (Nat.le_of_ble_eq_true rfl) rfl (by decide +kernel) rfl (by decide +kernel) (by decide +kernel) ⟨Nat.zero_le _, Nat.zero_le _⟩ rfl (by decide +kernel) dX0_carrySmoke_48 rfl ?_
        refine g_lvs [1, 2, 3, 4] rfl ?_
        exact t_X0_carrySmoke_b51 X hret ih h
set_option maxHeartbeats 4000000 in
set_option maxRecDepth 100000 in
theorem c_X0_carrySmoke (l : Launch) (D : va_G) (cA : ClassId) (a_me a_q1 a_q2 a_height a_into a_nearest a_into_cells a_q1_one a_q1_two a_q1_length a_q1_draught a_q1_one_cells a_q1_two_cells a_q1_length_cells a_q2_lengths a_q2_lengths_cells : Nat) (u_breathing : Int32) (u_q1_doors : Int32) (u_q1_shafts : Int32) (c_into : A32) (c_q1_galleries : Int32) (c_q1_one : A32) (c_q1_two : A32) (c_q1_length : A32) (c_q2_lengths : A32) (z : A32) (h : f_X0_carrySmoke c_into c_q1_galleries c_q1_one c_q1_two c_q1_length c_q2_lengths = some z) : CtV l yX0_carrySmoke wsX0_carrySmoke rm_X0_carrySmoke D cA [.ref a_me, .ref a_q1, .ref a_q2] (w_X0_carrySmoke cA a_me a_q1 a_q2 a_height a_into a_nearest a_into_cells a_q1_one a_q1_two a_q1_length a_q1_draught a_q1_one_cells a_q1_two_cells a_q1_length_cells a_q2_lengths a_q2_lengths_cells u_breathing u_q1_doors u_q1_shafts c_into c_q1_galleries c_q1_one c_q1_two c_q1_length c_q2_lengths) Unit (fun _ => (w_X0_carrySmoke cA a_me a_q1 a_q2 a_height a_into a_nearest a_into_cells a_q1_one a_q1_two a_q1_length a_q1_draught a_q1_one_cells a_q1_two_cells a_q1_length_cells a_q2_lengths a_q2_lengths_cells u_breathing u_q1_doors u_q1_shafts c_into c_q1_galleries c_q1_one c_q1_two c_q1_length z)) 0 0 := by
  refine ct_V (maxL := 5) (cc := cX0_carrySmoke) (by decide) rfl (Nat.le_of_ble_eq_true rfl) rfl (fun p e s m args below meth c A Q X _ hret => ?_)
  have hret := hret ()
  have h : (Option.bind (f_X9_clear c_q2_lengths) fun z_1 => f_X0_carrySmoke_b6 c_into c_q1_galleries c_q1_one c_q1_two c_q1_length FU z_1 0 : Option (A32)) = some z := h
  refine g_aload_n X 2 rfl rfl dX0_carrySmoke_0 rfl ?_
  obtain ⟨z_1, hz_1, h⟩ := bnd_s h
  refine g_callVV (rm := rm_X9_clear) (As := []) (W0 := (w_X9_clear cA a_q2 a_q2_lengths a_q2_lengths_cells c_q2_lengths)) (W1 := (w_X9_clear cA a_q2 a_q2_lengths a_q2_lengths_cells z_1)) (isC := [10, 11, 12]) (isR := [0, 1, 2, 3, 4, 5, 6, 7, 8, 9]) (perm := [0, 1, 2, 3, 4, 5, 6, 7, 8, 9, 10, 11, 12]) (ws' := (w_X0_carrySmoke cA a_me a_q1 a_q2 a_height a_into a_nearest a_into_cells a_q1_one a_q1_two a_q1_length a_q1_draught a_q1_one_cells a_q1_two_cells a_q1_length_cells a_q2_lengths a_q2_lengths_cells u_breathing u_q1_doors u_q1_shafts c_into c_q1_galleries c_q1_one c_q1_two c_q1_length z_1)) X (c_X9_clear l D cA a_q2 a_q2_lengths a_q2_lengths_cells c_q2_lengths _ hz_1) 10 rfl rfl rfl gX0_carrySmoke_X9_clear rfl rfl rfl ⟨rfl, hd_X9_clear⟩ ⟨Nat.le_of_ble_eq_true rfl, Nat.le_of_ble_eq_true rfl⟩ rfl rfl (Nat.le_of_ble_eq_true rfl) rfl (by decide +kernel) rfl (by decide +kernel) (by decide +kernel) ⟨Nat.zero_le _, Nat.zero_le _⟩ rfl (by decide +kernel) dX0_carrySmoke_1 rfl ?_
  refine g_iconst (v := 0) X dX0_carrySmoke_4 (by decide) rfl ?_
  refine g_istore_n (lv' := [(3, .int 0), (0, .ref a_me), (1, .ref a_q1), (2, .ref a_q2)]) X rfl (by decide) rfl dX0_carrySmoke_5 rfl ?_
  refine g_lvs [1, 2, 3, 0] rfl ?_
  exact t_X0_carrySmoke_b6 X hret _ _ _ h
abbrev rm_X3_begin : Room := { frames := 1, cells := 0, slots := 0, locals := 22 }
theorem hd_X3_begin : yX3_begin.cls ≠ "java/lang/invoke/MethodHandle" ∧ yX3_begin.cls ≠ "java/lang/invoke/VarHandle" ∧ (parseMethodDescriptor yX3_begin.desc).map (fun d => d.parameters.length) = some 1 := by decide +kernel
theorem iw_X3_begin_X3 : ∀ w ∈ wsX30, w ∈ wsX3_begin := fun w h => List.mem_cons_of_mem _ (List.mem_append_left _ (List.mem_append_right _ h))
theorem fl_X3_begin_X3_0 : Cond.fieldLink RX3 23 RX3 (TX3 0).2.1 (TX3 0).2.2.1 ∈ wsX3_begin := List.mem_of_getElem? (i := 1) rfl
theorem fl_X3_begin_X3_1 : Cond.fieldLink RX3 27 RX3 (TX3 1).2.1 (TX3 1).2.2.1 ∈ wsX3_begin := List.mem_of_getElem? (i := 2) rfl
theorem fl_X3_begin_X3_2 : Cond.fieldLink RX3 14 RX3 (TX3 2).2.1 (TX3 2).2.2.1 ∈ wsX3_begin := List.mem_of_getElem? (i := 3) rfl
theorem fl_X3_begin_X3_4 : Cond.fieldLink RX3 34 RX3 (TX3 4).2.1 (TX3 4).2.2.1 ∈ wsX3_begin := List.mem_of_getElem? (i := 4) rfl
theorem fl_X3_begin_X3_5 : Cond.fieldLink RX3 37 RX3 (TX3 5).2.1 (TX3 5).2.2.1 ∈ wsX3_begin := List.mem_of_getElem? (i := 5) rfl
abbrev w_X3_begin (cA : ClassId) (a_me a_gas a_place a_gas_cells : Nat) (c_open : Int32) (c_moon : Int32) (c_out : Int32) (c_gone : Int32) (c_gas : A32) : va_W := [(a_me, .inr (3, [.int c_open, .int c_moon, .ref a_gas, .ref a_place, .int c_out, .int c_gone])), (a_gas, .inr (8, [.ref a_gas_cells])), (a_gas_cells, .inl (cA, 7, .inl c_gas))]
set_option maxHeartbeats 4000000 in
set_option maxRecDepth 100000 in
theorem c_X3_begin (l : Launch) (D : va_G) (cA : ClassId) (a_me a_gas a_place a_gas_cells : Nat)  (c_open : Int32) (c_moon : Int32) (c_out : Int32) (c_gone : Int32) (c_gas : A32) (v1 : Int32) (z : Int32 × Int32 × Int32 × Int32 × A32) (h : f_X3_begin c_open c_moon c_out c_gone c_gas v1 = some z) : CtV l yX3_begin wsX3_begin rm_X3_begin D cA [.ref a_me, .int v1] (w_X3_begin cA a_me a_gas a_place a_gas_cells c_open c_moon c_out c_gone c_gas) Unit (fun _ => (w_X3_begin cA a_me a_gas a_place a_gas_cells z.1 z.2.1 z.2.2.1 z.2.2.2.1 z.2.2.2.2)) 0 0 := by
  refine ct_V (maxL := 2) (cc := cX3_begin) (by decide) rfl (Nat.le_of_ble_eq_true rfl) rfl (fun p e s m args below meth c A Q X _ hret => ?_)
  have hret := hret ()
  have h : (Option.bind (f_X8_fill 7 c_gas 0) fun z_1 => some (v1, 0, 0, 0, z_1) : Option (Int32 × Int32 × Int32 × Int32 × A32)) = some z := h
  refine g_aload_n X 0 rfl rfl dX3_begin_0 rfl ?_
  refine g_iload_n X 1 rfl rfl dX3_begin_1 rfl ?_
  refine g_putf (C := RX3) (T := TX3) (N := 6) (ty := .int) (ws' := (w_X3_begin cA a_me a_gas a_place a_gas_cells v1 c_moon c_out c_gone c_gas)) X 0 tyX3 tyX3_ok nmX3 rfl vc_X3 0 (by decide) iw_X3_begin_X3 fl_X3_begin_X3_0 rfl rfl pd_X3_0 rfl rfl (Nat.le_of_ble_eq_true rfl) rfl dX3_begin_2 rfl ?_
  refine g_aload_n X 0 rfl rfl dX3_begin_5 rfl ?_
  refine g_iconst (v := 0) X dX3_begin_6 (by decide) rfl ?_
  refine g_putf (C := RX3) (T := TX3) (N := 6) (ty := .boolean) (ws' := (w_X3_begin cA a_me a_gas a_place a_gas_cells v1 0 c_out c_gone c_gas)) X 0 tyX3 tyX3_ok nmX3 rfl vc_X3 1 (by decide) iw_X3_begin_X3 fl_X3_begin_X3_1 rfl rfl pd_X3_1 rfl rfl (Nat.le_of_ble_eq_true rfl) rfl dX3_begin_7 rfl ?_
  refine g_aload_n X 0 rfl rfl dX3_begin_10 rfl ?_
  refine g_getf (C := RX3) (T := TX3) (N := 6) (v := .ref a_gas) X 0 rfl vc_X3 2 (by decide) iw_X3_begin_X3 fl_X3_begin_X3_2 rfl rfl dX3_begin_11 rfl ?_
  refine g_iconst (v := 0) X dX3_begin_14 (by decide) rfl ?_
  obtain ⟨z_1, hz_1, h⟩ := bnd_s h
  refine g_callVV (rm := rm_X8_fill) (As := [.int 0]) (W0 := (w_X8_fill cA a_gas a_gas_cells 7 c_gas)) (W1 := (w_X8_fill cA a_gas a_gas_cells 7 z_1)) (isC := [1, 2]) (isR := [0]) (perm := [0, 1, 2]) (ws' := (w_X3_begin cA a_me a_gas a_place a_gas_cells v1 0 c_out c_gone z_1)) X (c_X8_fill l D cA a_gas a_gas_cells 7 c_gas 0 _ hz_1) 1 rfl rfl rfl gX3_begin_X8_fill rfl rfl rfl ⟨rfl, hd_X8_fill⟩ ⟨Nat.le_of_ble_eq_true rfl, Nat.le_of_ble_eq_true rfl⟩ rfl rfl (Nat.le_of_ble_eq_true rfl) rfl (by decide +kernel) rfl (by decide +kernel) (by decide +kernel) ⟨Nat.zero_le _, Nat.zero_le _⟩ rfl (by decide +kernel) dX3_begin_15 rfl ?_
  refine g_aload_n X 0 rfl rfl dX3_begin_18 rfl ?_
  refine g_iconst (v := 0) X dX3_begin_19 (by decide) rfl ?_
  refine g_putf (C := RX3) (T := TX3) (N := 6) (ty := .int) (ws' := (w_X3_begin cA a_me a_gas a_place a_gas_cells v1 0 0 c_gone z_1)) X 0 tyX3 tyX3_ok nmX3 rfl vc_X3 4 (by decide) iw_X3_begin_X3 fl_X3_begin_X3_4 rfl rfl pd_X3_4 rfl rfl (Nat.le_of_ble_eq_true rfl) rfl dX3_begin_20 rfl ?_
  refine g_aload_n X 0 rfl rfl dX3_begin_23 rfl ?_
  refine g_iconst (v := 0) X dX3_begin_24 (by decide) rfl ?_
  refine g_putf (C := RX3) (T := TX3) (N := 6) (ty := .int) (ws' := (w_X3_begin cA a_me a_gas a_place a_gas_cells v1 0 0 0 z_1)) X 0 tyX3 tyX3_ok nmX3 rfl vc_X3 5 (by decide) iw_X3_begin_X3 fl_X3_begin_X3_5 rfl rfl pd_X3_5 rfl rfl (Nat.le_of_ble_eq_true rfl) rfl dX3_begin_25 rfl ?_
  cases Option.some.inj h
  exact hret _ _ dX3_begin_28
abbrev rm_X3_copyFrom : Room := { frames := 2, cells := 0, slots := 0, locals := 43 }
theorem hd_X3_copyFrom : yX3_copyFrom.cls ≠ "java/lang/invoke/MethodHandle" ∧ yX3_copyFrom.cls ≠ "java/lang/invoke/VarHandle" ∧ (parseMethodDescriptor yX3_copyFrom.desc).map (fun d => d.parameters.length) = some 1 := by decide +kernel
theorem iw_X3_copyFrom_X3 : ∀ w ∈ wsX30, w ∈ wsX3_copyFrom := fun w h => List.mem_cons_of_mem _ (List.mem_append_left _ (List.mem_append_right _ h))
theorem fl_X3_copyFrom_X3_0 : Cond.fieldLink RX3 23 RX3 (TX3 0).2.1 (TX3 0).2.2.1 ∈ wsX3_copyFrom := List.mem_of_getElem? (i := 1) rfl
theorem fl_X3_copyFrom_X3_1 : Cond.fieldLink RX3 27 RX3 (TX3 1).2.1 (TX3 1).2.2.1 ∈ wsX3_copyFrom := List.mem_of_getElem? (i := 2) rfl
theorem fl_X3_copyFrom_X3_2 : Cond.fieldLink RX3 14 RX3 (TX3 2).2.1 (TX3 2).2.2.1 ∈ wsX3_copyFrom := List.mem_of_getElem? (i := 3) rfl
theorem fl_X3_copyFrom_X3_3 : Cond.fieldLink RX3 20 RX3 (TX3 3).2.1 (TX3 3).2.2.1 ∈ wsX3_copyFrom := List.mem_of_getElem? (i := 4) rfl
theorem fl_X3_copyFrom_X3_4 : Cond.fieldLink RX3 34 RX3 (TX3 4).2.1 (TX3 4).2.2.1 ∈ wsX3_copyFrom := List.mem_of_getElem? (i := 5) rfl
theorem fl_X3_copyFrom_X3_5 : Cond.fieldLink RX3 37 RX3 (TX3 5).2.1 (TX3 5).2.2.1 ∈ wsX3_copyFrom := List.mem_of_getElem? (i := 6) rfl
abbrev w_X3_copyFrom (cA : ClassId) (a_me a_q1 a_gas a_place a_gas_cells a_place_cells a_q1_gas a_q1_place a_q1_gas_cells a_q1_place_cells : Nat) (c_open : Int32) (c_moon : Int32) (c_out : Int32) (c_gone : Int32) (c_gas : A32) (c_place : A32) (c_q1_open : Int32) (c_q1_moon : Int32) (c_q1_out : Int32) (c_q1_gone : Int32) (c_q1_gas : A32) (c_q1_place : A32) : va_W := [(a_me, .inr (3, [.int c_open, .int c_moon, .ref a_gas, .ref a_place, .int c_out, .int c_gone])), (a_gas, .inr (8, [.ref a_gas_cells])), (a_gas_cells, .inl (cA, 7, .inl c_gas)), (a_place, .inr (8, [.ref a_place_cells])), (a_place_cells, .inl (cA, 6, .inl c_place)), (a_q1, .inr (3, [.int c_q1_open, .int c_q1_moon, .ref a_q1_gas, .ref a_q1_place, .int c_q1_out, .int c_q1_gone])), (a_q1_gas, .inr (8, [.ref a_q1_gas_cells])), (a_q1_gas_cells, .inl (cA, 7, .inl c_q1_gas)), (a_q1_place, .inr (8, [.ref a_q1_place_cells])), (a_q1_place_cells, .inl (cA, 6, .inl c_q1_place))]
set_option maxHeartbeats 4000000 in
set_option maxRecDepth 100000 in
theorem c_X3_copyFrom (l : Launch) (D : va_G) (cA : ClassId) (a_me a_q1 a_gas a_place a_gas_cells a_place_cells a_q1_gas a_q1_place a_q1_gas_cells a_q1_place_cells : Nat)  (c_open : Int32) (c_moon : Int32) (c_out : Int32) (c_gone : Int32) (c_gas : A32) (c_place : A32) (c_q1_open : Int32) (c_q1_moon : Int32) (c_q1_out : Int32) (c_q1_gone : Int32) (c_q1_gas : A32) (c_q1_place : A32) (z : Int32 × Int32 × Int32 × Int32 × A32 × A32) (h : f_X3_copyFrom c_open c_moon c_out c_gone c_gas c_place c_q1_open c_q1_moon c_q1_out c_q1_gone c_q1_gas c_q1_place = some z) : CtV l yX3_copyFrom wsX3_copyFrom rm_X3_copyFrom D cA [.ref a_me, .ref a_q1] (w_X3_copyFrom cA a_me a_q1 a_gas a_place a_gas_cells a_place_cells a_q1_gas a_q1_place a_q1_gas_cells a_q1_place_cells c_open c_moon c_out c_gone c_gas c_place c_q1_open c_q1_moon c_q1_out c_q1_gone c_q1_gas c_q1_place) Unit (fun _ => (w_X3_copyFrom cA a_me a_q1 a_gas a_place a_gas_cells a_place_cells a_q1_gas a_q1_place a_q1_gas_cells a_q1_place_cells z.1 z.2.1 z.2.2.1 z.2.2.2.1 z.2.2.2.2.1 z.2.2.2.2.2 c_q1_open c_q1_moon c_q1_out c_q1_gone c_q1_gas c_q1_place)) 0 0 := by
  refine ct_V (maxL := 2) (cc := cX3_copyFrom) (by decide) rfl (Nat.le_of_ble_eq_true rfl) rfl (fun p e s m args below meth c A Q X _ hret => ?_)
  have hret := hret ()
  have h : (if c_q1_moon = 0 ∨ c_q1_moon = 1 then Option.bind (f_X8_copyFrom 7 7 c_gas c_q1_gas) fun z_2 => Option.bind (f_X8_copyFrom 6 6 c_place c_q1_place) fun z_3 => some (c_q1_open, c_q1_moon, c_q1_out, c_q1_gone, z_2, z_3) else none : Option (Int32 × Int32 × Int32 × Int32 × A32 × A32)) = some z := h
  refine g_aload_n X 0 rfl rfl dX3_copyFrom_0 rfl ?_
  refine g_aload_n X 1 rfl rfl dX3_copyFrom_1 rfl ?_
  refine g_getf (C := RX3) (T := TX3) (N := 6) (v := .int c_q1_open) X 5 rfl vc_X3 0 (by decide) iw_X3_copyFrom_X3 fl_X3_copyFrom_X3_0 rfl rfl dX3_copyFrom_2 rfl ?_
  refine g_putf (C := RX3) (T := TX3) (N := 6) (ty := .int) (ws' := (w_X3_copyFrom cA a_me a_q1 a_gas a_place a_gas_cells a_place_cells a_q1_gas a_q1_place a_q1_gas_cells a_q1_place_cells c_q1_open c_moon c_out c_gone c_gas c_place c_q1_open c_q1_moon c_q1_out c_q1_gone c_q1_gas c_q1_place)) X 0 tyX3 tyX3_ok nmX3 rfl vc_X3 0 (by decide) iw_X3_copyFrom_X3 fl_X3_copyFrom_X3_0 rfl rfl pd_X3_0 rfl rfl (Nat.le_of_ble_eq_true rfl) rfl dX3_copyFrom_5 rfl ?_
  refine g_aload_n X 0 rfl rfl dX3_copyFrom_8 rfl ?_
  refine g_aload_n X 1 rfl rfl dX3_copyFrom_9 rfl ?_
  refine g_getf (C := RX3) (T := TX3) (N := 6) (v := .int c_q1_moon) X 5 rfl vc_X3 1 (by decide) iw_X3_copyFrom_X3 fl_X3_copyFrom_X3_1 rfl rfl dX3_copyFrom_10 rfl ?_
  obtain ⟨c_1, h⟩ := ite_y h
  refine g_putf (C := RX3) (T := TX3) (N := 6) (ty := .boolean) (ws' := (w_X3_copyFrom cA a_me a_q1 a_gas a_place a_gas_cells a_place_cells a_q1_gas a_q1_place a_q1_gas_cells a_q1_place_cells c_q1_open c_q1_moon c_out c_gone c_gas c_place c_q1_open c_q1_moon c_q1_out c_q1_gone c_q1_gas c_q1_place)) X 0 tyX3 tyX3_ok nmX3 rfl vc_X3 1 (by decide) iw_X3_copyFrom_X3 fl_X3_copyFrom_X3_1 rfl rfl pd_X3_1 (nar_z c_1) (fit_z c_1) (Nat.le_of_ble_eq_true rfl) rfl dX3_copyFrom_13 rfl ?_
  refine g_aload_n X 0 rfl rfl dX3_copyFrom_16 rfl ?_
  refine g_getf (C := RX3) (T := TX3) (N := 6) (v := .ref a_gas) X 0 rfl vc_X3 2 (by decide) iw_X3_copyFrom_X3 fl_X3_copyFrom_X3_2 rfl rfl dX3_copyFrom_17 rfl ?_
  refine g_aload_n X 1 rfl rfl dX3_copyFrom_20 rfl ?_
  refine g_getf (C := RX3) (T := TX3) (N := 6) (v := .ref a_q1_gas) X 5 rfl vc_X3 2 (by decide) iw_X3_copyFrom_X3 fl_X3_copyFrom_X3_2 rfl rfl dX3_copyFrom_21 rfl ?_
  obtain ⟨z_2, hz_2, h⟩ := bnd_s h
  refine g_callVV (rm := rm_X8_copyFrom) (As := [.ref a_q1_gas]) (W0 := (w_X8_copyFrom cA a_gas a_q1_gas a_gas_cells a_q1_gas_cells 7 7 c_gas c_q1_gas)) (W1 := (w_X8_copyFrom cA a_gas a_q1_gas a_gas_cells a_q1_gas_cells 7 7 z_2 c_q1_gas)) (isC := [1, 2, 6, 7]) (isR := [0, 3, 4, 5, 8, 9]) (perm := [0, 6, 7, 1, 2, 3, 8, 9, 4, 5]) (ws' := (w_X3_copyFrom cA a_me a_q1 a_gas a_place a_gas_cells a_place_cells a_q1_gas a_q1_place a_q1_gas_cells a_q1_place_cells c_q1_open c_q1_moon c_out c_gone z_2 c_place c_q1_open c_q1_moon c_q1_out c_q1_gone c_q1_gas c_q1_place)) X (c_X8_copyFrom l D cA a_gas a_q1_gas a_gas_cells a_q1_gas_cells 7 7 c_gas c_q1_gas _ hz_2) 1 rfl rfl rfl gX3_copyFrom_X8_copyFrom rfl rfl rfl ⟨rfl, hd_X8_copyFrom⟩ ⟨Nat.le_of_ble_eq_true rfl, Nat.le_of_ble_eq_true rfl⟩ rfl rfl (Nat.le_of_ble_eq_true rfl) rfl (by decide +kernel) rfl (by decide +kernel) (by decide +kernel) ⟨Nat.zero_le _, Nat.zero_le _⟩ rfl (by decide +kernel) dX3_copyFrom_24 rfl ?_
  refine g_aload_n X 0 rfl rfl dX3_copyFrom_27 rfl ?_
  refine g_getf (C := RX3) (T := TX3) (N := 6) (v := .ref a_place) X 0 rfl vc_X3 3 (by decide) iw_X3_copyFrom_X3 fl_X3_copyFrom_X3_3 rfl rfl dX3_copyFrom_28 rfl ?_
  refine g_aload_n X 1 rfl rfl dX3_copyFrom_31 rfl ?_
  refine g_getf (C := RX3) (T := TX3) (N := 6) (v := .ref a_q1_place) X 5 rfl vc_X3 3 (by decide) iw_X3_copyFrom_X3 fl_X3_copyFrom_X3_3 rfl rfl dX3_copyFrom_32 rfl ?_
  obtain ⟨z_3, hz_3, h⟩ := bnd_s h
  refine g_callVV (rm := rm_X8_copyFrom) (As := [.ref a_q1_place]) (W0 := (w_X8_copyFrom cA a_place a_q1_place a_place_cells a_q1_place_cells 6 6 c_place c_q1_place)) (W1 := (w_X8_copyFrom cA a_place a_q1_place a_place_cells a_q1_place_cells 6 6 z_3 c_q1_place)) (isC := [3, 4, 8, 9]) (isR := [0, 1, 2, 5, 6, 7]) (perm := [0, 1, 2, 6, 7, 3, 4, 5, 8, 9]) (ws' := (w_X3_copyFrom cA a_me a_q1 a_gas a_place a_gas_cells a_place_cells a_q1_gas a_q1_place a_q1_gas_cells a_q1_place_cells c_q1_open c_q1_moon c_out c_gone z_2 z_3 c_q1_open c_q1_moon c_q1_out c_q1_gone c_q1_gas c_q1_place)) X (c_X8_copyFrom l D cA a_place a_q1_place a_place_cells a_q1_place_cells 6 6 c_place c_q1_place _ hz_3) 3 rfl rfl rfl gX3_copyFrom_X8_copyFrom rfl rfl rfl ⟨rfl, hd_X8_copyFrom⟩ ⟨Nat.le_of_ble_eq_true rfl, Nat.le_of_ble_eq_true rfl⟩ rfl rfl (Nat.le_of_ble_eq_true rfl) rfl (by decide +kernel) rfl (by decide +kernel) (by decide +kernel) ⟨Nat.zero_le _, Nat.zero_le _⟩ rfl (by decide +kernel) dX3_copyFrom_35 rfl ?_
  refine g_aload_n X 0 rfl rfl dX3_copyFrom_38 rfl ?_
  refine g_aload_n X 1 rfl rfl dX3_copyFrom_39 rfl ?_
  refine g_getf (C := RX3) (T := TX3) (N := 6) (v := .int c_q1_out) X 5 rfl vc_X3 4 (by decide) iw_X3_copyFrom_X3 fl_X3_copyFrom_X3_4 rfl rfl dX3_copyFrom_40 rfl ?_
  refine g_putf (C := RX3) (T := TX3) (N := 6) (ty := .int) (ws' := (w_X3_copyFrom cA a_me a_q1 a_gas a_place a_gas_cells a_place_cells a_q1_gas a_q1_place a_q1_gas_cells a_q1_place_cells c_q1_open c_q1_moon c_q1_out c_gone z_2 z_3 c_q1_open c_q1_moon c_q1_out c_q1_gone c_q1_gas c_q1_place)) X 0 tyX3 tyX3_ok nmX3 rfl vc_X3 4 (by decide) iw_X3_copyFrom_X3 fl_X3_copyFrom_X3_4 rfl rfl pd_X3_4 rfl rfl (Nat.le_of_ble_eq_true rfl) rfl dX3_copyFrom_43 rfl ?_
  refine g_aload_n X 0 rfl rfl dX3_copyFrom_46 rfl ?_
  refine g_aload_n X 1 rfl rfl dX3_copyFrom_47 rfl ?_
  refine g_getf (C := RX3) (T := TX3) (N := 6) (v := .int c_q1_gone) X 5 rfl vc_X3 5 (by decide) iw_X3_copyFrom_X3 fl_X3_copyFrom_X3_5 rfl rfl dX3_copyFrom_48 rfl ?_
  refine g_putf (C := RX3) (T := TX3) (N := 6) (ty := .int) (ws' := (w_X3_copyFrom cA a_me a_q1 a_gas a_place a_gas_cells a_place_cells a_q1_gas a_q1_place a_q1_gas_cells a_q1_place_cells c_q1_open c_q1_moon c_q1_out c_q1_gone z_2 z_3 c_q1_open c_q1_moon c_q1_out c_q1_gone c_q1_gas c_q1_place)) X 0 tyX3 tyX3_ok nmX3 rfl vc_X3 5 (by decide) iw_X3_copyFrom_X3 fl_X3_copyFrom_X3_5 rfl rfl pd_X3_5 rfl rfl (Nat.le_of_ble_eq_true rfl) rfl dX3_copyFrom_51 rfl ?_
  cases Option.some.inj h
  exact hret _ _ dX3_copyFrom_54
abbrev rm_X3_passMinute : Room := { frames := 2, cells := 0, slots := 0, locals := 42 }
theorem hd_X3_passMinute : yX3_passMinute.cls ≠ "java/lang/invoke/MethodHandle" ∧ yX3_passMinute.cls ≠ "java/lang/invoke/VarHandle" ∧ (parseMethodDescriptor yX3_passMinute.desc).map (fun d => d.parameters.length) = some 2 := by decide +kernel
theorem iw_X3_passMinute_X1 : ∀ w ∈ wsX10, w ∈ wsX3_passMinute := fun w h => List.mem_cons_of_mem _ (List.mem_append_left _ (List.mem_append_right _ h))
theorem iw_X3_passMinute_X3 : ∀ w ∈ wsX30, w ∈ wsX3_passMinute := fun w h => List.mem_cons_of_mem _ (List.mem_append_left _ (List.mem_append_left _ (List.mem_append_right _ h)))
theorem fl_X3_passMinute_X3_2 : Cond.fieldLink RX3 14 RX3 (TX3 2).2.1 (TX3 2).2.2.1 ∈ wsX3_passMinute := List.mem_of_getElem? (i := 1) rfl
theorem fl_X3_passMinute_X1_1 : Cond.fieldLink RX3 61 RX1 (TX1 1).2.1 (TX1 1).2.2.1 ∈ wsX3_passMinute := List.mem_of_getElem? (i := 6) rfl
theorem fl_X3_passMinute_X3_5 : Cond.fieldLink RX3 37 RX3 (TX3 5).2.1 (TX3 5).2.2.1 ∈ wsX3_passMinute := List.mem_of_getElem? (i := 9) rfl
theorem fl_X3_passMinute_X3_3 : Cond.fieldLink RX3 20 RX3 (TX3 3).2.1 (TX3 3).2.2.1 ∈ wsX3_passMinute := List.mem_of_getElem? (i := 7) rfl
theorem fl_X3_passMinute_X3_4 : Cond.fieldLink RX3 34 RX3 (TX3 4).2.1 (TX3 4).2.2.1 ∈ wsX3_passMinute := List.mem_of_getElem? (i := 8) rfl
abbrev w_X3_passMinute (cA : ClassId) (a_me a_q1 a_gas a_place a_gas_cells a_place_cells a_q1_kinds a_q1_kinds_cells : Nat) (u_open : Int32) (u_moon : Int32) (c_out : Int32) (c_gone : Int32) (c_gas : A32) (c_place : A32) (c_q1_size : Int32) (c_q1_kinds : A32) : va_W := [(a_me, .inr (3, [.int u_open, .int u_moon, .ref a_gas, .ref a_place, .int c_out, .int c_gone])), (a_gas, .inr (8, [.ref a_gas_cells])), (a_gas_cells, .inl (cA, 7, .inl c_gas)), (a_place, .inr (8, [.ref a_place_cells])), (a_place_cells, .inl (cA, 6, .inl c_place)), (a_q1, .inr (1, [.ref a_q1_kinds, .int c_q1_size])), (a_q1_kinds, .inr (8, [.ref a_q1_kinds_cells])), (a_q1_kinds_cells, .inl (cA, 6, .inl c_q1_kinds))]
set_option maxHeartbeats 4000000 in
set_option maxRecDepth 100000 in
theorem t_X3_passMinute_b53 {l : Launch} {D : va_G} {cA : ClassId} {p : Program} {e : Env} {s : State} {m : MethodId} {args : Array Value} {below : List Frame} {meth : Method} {c : Code} {A : Nat → Prop} {Q : State → Prop} {z : Int32 × Int32 × A32} {a_me a_q1 a_gas a_place a_gas_cells a_place_cells a_q1_kinds a_q1_kinds_cells : Nat} {u_open : Int32} {u_moon : Int32}  {c_out : Int32} {c_gone : Int32} {c_gas : A32} {c_place : A32} {c_q1_size : Int32} {c_q1_kinds : A32} {t1 : Int32} {t2 : Int32} {v2 : Int32} {v3 : Int32} {k2 : A32 → Int32 → Option (Int32 × Int32 × A32)} (X : GX p s m args c cX3_passMinute RX3 wsX3_passMinute D cA A 5) (hret : RtV p l e rm_X3_passMinute s m args below meth c cX3_passMinute D A 5 0 0 Q (w_X3_passMinute cA a_me a_q1 a_gas a_place a_gas_cells a_place_cells a_q1_kinds a_q1_kinds_cells u_open u_moon z.1 z.2.1 z.2.2 c_place c_q1_size c_q1_kinds)) (hk2 : ∀ (c_gas : A32) (v3 : Int32), k2 c_gas v3 = some z → G p l e rm_X3_passMinute s m args below meth c D A 5 0 0 Q 2 [(0, .ref a_me), (1, .ref a_q1), (2, .int v2), (3, .int v3)] [] (w_X3_passMinute cA a_me a_q1 a_gas a_place a_gas_cells a_place_cells a_q1_kinds a_q1_kinds_cells u_open u_moon c_out c_gone c_gas c_place c_q1_size c_q1_kinds)) (h : f_X3_passMinute_b53 k2 c_out c_gone c_gas c_place c_q1_size c_q1_kinds t1 t2 v2 v3 = some z) : G p l e rm_X3_passMinute s m args below meth c D A 5 0 0 Q 53 [(0, .ref a_me), (1, .ref a_q1), (2, .int v2), (3, .int v3)] [.int t2, .int t1, .ref a_gas] (w_X3_passMinute cA a_me a_q1 a_gas a_place a_gas_cells a_place_cells a_q1_kinds a_q1_kinds_cells u_open u_moon c_out c_gone c_gas c_place c_q1_size c_q1_kinds) := by
  have h : (Option.bind (f_X8_set 7 c_gas t1 t2) fun z_1 => nam (v3 + 1) fun v3_2 => k2 z_1 v3_2 : Option (Int32 × Int32 × A32)) = some z := h
  obtain ⟨z_1, hz_1, h⟩ := bnd_s h
  refine g_callVV (rm := rm_X8_set) (As := [.int t1, .int t2]) (W0 := (w_X8_set cA a_gas a_gas_cells 7 c_gas)) (W1 := (w_X8_set cA a_gas a_gas_cells 7 z_1)) (isC := [1, 2]) (isR := [0, 3, 4, 5, 6, 7]) (perm := [0, 6, 7, 1, 2, 3, 4, 5]) (ws' := (w_X3_passMinute cA a_me a_q1 a_gas a_place a_gas_cells a_place_cells a_q1_kinds a_q1_kinds_cells u_open u_moon c_out c_gone z_1 c_place c_q1_size c_q1_kinds)) X (c_X8_set l D cA a_gas a_gas_cells 7 c_gas t1 t2 _ hz_1) 1 rfl rfl rfl gX3_passMinute_X8_set rfl rfl rfl ⟨rfl, hd_X8_set⟩ ⟨Nat.le_of_ble_eq_true rfl, Nat.le_of_ble_eq_true rfl⟩ rfl rfl (Nat.le_of_ble_eq_true rfl) rfl (by decide +kernel) rfl (by decide +kernel) (by decide +kernel) ⟨Nat.zero_le _, Nat.zero_le _⟩ rfl (by decide +kernel) dX3_passMinute_53 rfl ?_
  obtain ⟨v3_2, ev3_2, h⟩ := nam_s h
  refine g_iinc (v := v3_2) (lv' := [(3, .int v3_2), (0, .ref a_me), (1, .ref a_q1), (2, .int v2)]) X 3 rfl (by rw [ev3_2]; rfl) (by decide) rfl dX3_passMinute_56 rfl ?_
  refine g_goto (tgt := 2) X dX3_passMinute_59 (by decide) ?_
  refine g_lvs [1, 2, 3, 0] rfl ?_
  exact hk2 _ _ h
set_option maxHeartbeats 4000000 in
set_option maxRecDepth 100000 in
theorem t_X3_passMinute_b22 {l : Launch} {D : va_G} {cA : ClassId} {p : Program} {e : Env} {s : State} {m : MethodId} {args : Array Value} {below : List Frame} {meth : Method} {c : Code} {A : Nat → Prop} {Q : State → Prop} {z : Int32 × Int32 × A32} {a_me a_q1 a_gas a_place a_gas_cells a_place_cells a_q1_kinds a_q1_kinds_cells : Nat} {u_open : Int32} {u_moon : Int32}  {c_out : Int32} {c_gone : Int32} {c_gas : A32} {c_place : A32} {c_q1_size : Int32} {c_q1_kinds : A32} {t0 : Int32} {v2 : Int32} {v3 : Int32} {k2 : A32 → Int32 → Option (Int32 × Int32 × A32)} (X : GX p s m args c cX3_passMinute RX3 wsX3_passMinute D cA A 5) (hret : RtV p l e rm_X3_passMinute s m args below meth c cX3_passMinute D A 5 0 0 Q (w_X3_passMinute cA a_me a_q1 a_gas a_place a_gas_cells a_place_cells a_q1_kinds a_q1_kinds_cells u_open u_moon z.1 z.2.1 z.2.2 c_place c_q1_size c_q1_kinds)) (hk2 : ∀ (c_gas : A32) (v3 : Int32), k2 c_gas v3 = some z → G p l e rm_X3_passMinute s m args below meth c D A 5 0 0 Q 2 [(0, .ref a_me), (1, .ref a_q1), (2, .int v2), (3, .int v3)] [] (w_X3_passMinute cA a_me a_q1 a_gas a_place a_gas_cells a_place_cells a_q1_kinds a_q1_kinds_cells u_open u_moon c_out c_gone c_gas c_place c_q1_size c_q1_kinds)) (h : f_X3_passMinute_b22 k2 c_out c_gone c_gas c_place c_q1_size c_q1_kinds t0 v2 v3 = some z) : G p l e rm_X3_passMinute s m args below meth c D A 5 0 0 Q 22 [(0, .ref a_me), (1, .ref a_q1), (2, .int v2), (3, .int v3)] [.int t0] (w_X3_passMinute cA a_me a_q1 a_gas a_place a_gas_cells a_place_cells a_q1_kinds a_q1_kinds_cells u_open u_moon c_out c_gone c_gas c_place c_q1_size c_q1_kinds) := by
  have h : (if t0 = 0 then Option.bind (f_X8_get 7 c_gas v3) fun z_2 => f_X3_passMinute_b53 k2 c_out c_gone c_gas c_place c_q1_size c_q1_kinds v3 (if (z_2 + 1) < 9 then z_2 + 1 else 9) v2 v3 else f_X3_passMinute_b53 k2 c_out c_gone c_gas c_place c_q1_size c_q1_kinds v3 0 v2 v3 : Option (Int32 × Int32 × A32)) = some z := h
  refine g_istore (lv' := [(4, .int t0), (0, .ref a_me), (1, .ref a_q1), (2, .int v2), (3, .int v3)]) X (by decide) rfl dX3_passMinute_22 rfl ?_
  refine g_aload_n X 1 rfl rfl dX3_passMinute_24 rfl ?_
  refine g_getf (C := RX3) (T := TX3) (N := 6) (v := .ref a_gas) X 0 rfl vc_X3 2 (by decide) iw_X3_passMinute_X3 fl_X3_passMinute_X3_2 rfl rfl dX3_passMinute_25 rfl ?_
  refine g_iload_n X 4 rfl rfl dX3_passMinute_28 rfl ?_
  refine g_iload X 0 rfl dX3_passMinute_29 rfl ?_
  refine g_if_eq (tgt := 38) X dX3_passMinute_31 (by decide) rfl h (fun c_1 h => ?_) (fun c_1 h => ?_)
  · refine g_bipush (v := 9) X dX3_passMinute_38 (by decide) rfl ?_
    refine g_aload_n X 1 rfl rfl dX3_passMinute_40 rfl ?_
    refine g_getf (C := RX3) (T := TX3) (N := 6) (v := .ref a_gas) X 0 rfl vc_X3 2 (by decide) iw_X3_passMinute_X3 fl_X3_passMinute_X3_2 rfl rfl dX3_passMinute_41 rfl ?_
    refine g_iload_n X 4 rfl rfl dX3_passMinute_44 rfl ?_
    obtain ⟨z_2, hz_2, h⟩ := bnd_s h
    refine g_callVI (rm := rm_X8_get) (As := [.int v3]) (r := z_2) (W0 := (w_X8_get cA a_gas a_gas_cells 7 c_gas)) (W1 := (w_X8_get cA a_gas a_gas_cells 7 c_gas)) (isC := [1, 2]) (isR := [0, 3, 4, 5, 6, 7]) (perm := [0, 6, 7, 1, 2, 3, 4, 5]) (ws' := (w_X3_passMinute cA a_me a_q1 a_gas a_place a_gas_cells a_place_cells a_q1_kinds a_q1_kinds_cells u_open u_moon c_out c_gone c_gas c_place c_q1_size c_q1_kinds)) X (c_X8_get l D cA a_gas a_gas_cells 7 c_gas v3 _ hz_2) 1 rfl rfl rfl gX3_passMinute_X8_get rfl rfl rfl ⟨rfl, hd_X8_get⟩ ⟨Nat.le_of_ble_eq_true rfl, Nat.le_of_ble_eq_true rfl⟩ rfl rfl (Nat.le_of_ble_eq_true rfl) rfl (by decide +kernel) rfl (by decide +kernel) (by decide +kernel) ⟨Nat.zero_le _, Nat.zero_le _⟩ rfl (by decide +kernel) dX3_passMinute_45 rfl ?_
    refine g_iconst (v := 1) X dX3_passMinute_48 (by decide) rfl ?_
    refine g_iadd X dX3_passMinute_49 rfl ?_
    refine g_mmin X (by decide +kernel) (by decide +kernel) (by decide +kernel) (by decide +kernel) (Nat.le_of_ble_eq_true rfl) (Nat.le_of_ble_eq_true rfl) (Nat.zero_le _) (Nat.zero_le _) dX3_passMinute_50 rfl ?_
    refine g_lvs [1, 2, 3, 4] rfl ?_
    exact t_X3_passMinute_b53 X hret hk2 h
  · refine g_iconst (v := 0) X dX3_passMinute_34 (by decide) rfl ?_
    refine g_goto (tgt := 53) X dX3_passMinute_35 (by decide) ?_
    refine g_lvs [1, 2, 3, 4] rfl ?_
    exact t_X3_passMinute_b53 X hret hk2 h
set_option maxHeartbeats 4000000 in
set_option maxRecDepth 100000 in
theorem t_X3_passMinute_b107 {l : Launch} {D : va_G} {cA : ClassId} {p : Program} {e : Env} {s : State} {m : MethodId} {args : Array Value} {below : List Frame} {meth : Method} {c : Code} {A : Nat → Prop} {Q : State → Prop} {z : Int32 × Int32 × A32} {a_me a_q1 a_gas a_place a_gas_cells a_place_cells a_q1_kinds a_q1_kinds_cells : Nat} {u_open : Int32} {u_moon : Int32}  {c_out : Int32} {c_gone : Int32} {c_gas : A32} {c_place : A32} {c_q1_size : Int32} {c_q1_kinds : A32} {v3 : Int32} {k64 : Int32 → Int32 → Option (Int32 × Int32 × A32)} (X : GX p s m args c cX3_passMinute RX3 wsX3_passMinute D cA A 5) (hret : RtV p l e rm_X3_passMinute s m args below meth c cX3_passMinute D A 5 0 0 Q (w_X3_passMinute cA a_me a_q1 a_gas a_place a_gas_cells a_place_cells a_q1_kinds a_q1_kinds_cells u_open u_moon z.1 z.2.1 z.2.2 c_place c_q1_size c_q1_kinds)) (hk64 : ∀ (c_out : Int32) (v3 : Int32), k64 c_out v3 = some z → G p l e rm_X3_passMinute s m args below meth c D A 5 0 0 Q 64 [(0, .ref a_me), (1, .ref a_q1), (3, .int v3)] [] (w_X3_passMinute cA a_me a_q1 a_gas a_place a_gas_cells a_place_cells a_q1_kinds a_q1_kinds_cells u_open u_moon c_out c_gone c_gas c_place c_q1_size c_q1_kinds)) (h : f_X3_passMinute_b107 k64 c_out c_gone c_gas c_place c_q1_size c_q1_kinds v3 = some z) : G p l e rm_X3_passMinute s m args below meth c D A 5 0 0 Q 107 [(0, .ref a_me), (1, .ref a_q1), (3, .int v3)] [] (w_X3_passMinute cA a_me a_q1 a_gas a_place a_gas_cells a_place_cells a_q1_kinds a_q1_kinds_cells u_open u_moon c_out c_gone c_gas c_place c_q1_size c_q1_kinds) := by
  have h : (nam (v3 + 1) fun v3_1 => k64 c_out v3_1 : Option (Int32 × Int32 × A32)) = some z := h
  obtain ⟨v3_1, ev3_1, h⟩ := nam_s h
  refine g_iinc (v := v3_1) (lv' := [(3, .int v3_1), (0, .ref a_me), (1, .ref a_q1)]) X 2 rfl (by rw [ev3_1]; rfl) (by decide) rfl dX3_passMinute_107 rfl ?_
  refine g_goto (tgt := 64) X dX3_passMinute_110 (by decide) ?_
  refine g_lvs [1, 2, 0] rfl ?_
  exact hk64 _ _ h
set_option maxHeartbeats 4000000 in
set_option maxRecDepth 100000 in
theorem t_X3_passMinute_b64 {l : Launch} {D : va_G} {cA : ClassId} {p : Program} {e : Env} {s : State} {m : MethodId} {args : Array Value} {below : List Frame} {meth : Method} {c : Code} {A : Nat → Prop} {Q : State → Prop} {z : Int32 × Int32 × A32} {a_me a_q1 a_gas a_place a_gas_cells a_place_cells a_q1_kinds a_q1_kinds_cells : Nat} {u_open : Int32} {u_moon : Int32}  {c_gone : Int32} {c_gas : A32} {c_place : A32} {c_q1_size : Int32} {c_q1_kinds : A32}  (X : GX p s m args c cX3_passMinute RX3 wsX3_passMinute D cA A 5) (hret : RtV p l e rm_X3_passMinute s m args below meth c cX3_passMinute D A 5 0 0 Q (w_X3_passMinute cA a_me a_q1 a_gas a_place a_gas_cells a_place_cells a_q1_kinds a_q1_kinds_cells u_open u_moon z.1 z.2.1 z.2.2 c_place c_q1_size c_q1_kinds))  : ∀ (fu : Nat) (c_out : Int32) (v3 : Int32), f_X3_passMinute_b64 c_gone c_gas c_place c_q1_size c_q1_kinds fu c_out v3 = some z → G p l e rm_X3_passMinute s m args below meth c D A 5 0 0 Q 64 [(0, .ref a_me), (1, .ref a_q1), (3, .int v3)] [] (w_X3_passMinute cA a_me a_q1 a_gas a_place a_gas_cells a_place_cells a_q1_kinds a_q1_kinds_cells u_open u_moon c_out c_gone c_gas c_place c_q1_size c_q1_kinds) := by
  intro fu
  induction fu with
  | zero => intro c_out v3 h; exact absurd (show (none : Option (Int32 × Int32 × A32)) = some z from h) (by simp)
  | succ fu ih =>
    intro c_out v3 h
    have h : (if c_q1_size ≤ v3 then nam (c_gone + 1) fun w_2 => some (c_out, w_2, c_gas) else Option.bind (f_X8_get 6 c_place v3) fun z_3 => Option.bind (f_X8_get 7 c_gas z_3) fun z_4 => Option.bind (f_X1_bears c_q1_kinds v3) fun z_5 => if z_4 ≤ z_5 then f_X3_passMinute_b107 (f_X3_passMinute_b64 c_gone c_gas c_place c_q1_size c_q1_kinds fu) c_out c_gone c_gas c_place c_q1_size c_q1_kinds v3 else nam (c_out ||| (1 <<< (v3 &&& 31))) fun w_7 => f_X3_passMinute_b107 (f_X3_passMinute_b64 c_gone c_gas c_place c_q1_size c_q1_kinds fu) w_7 c_gone c_gas c_place c_q1_size c_q1_kinds v3 : Option (Int32 × Int32 × A32)) = some z := h
    refine g_iload_n X 2 rfl rfl dX3_passMinute_64 rfl ?_
    refine g_aload_n X 1 rfl rfl dX3_passMinute_65 rfl ?_
    refine g_getf (C := RX1) (T := TX1) (N := 2) (v := .int c_q1_size) X 5 rfl vc_X1 1 (by decide) iw_X3_passMinute_X1 fl_X3_passMinute_X1_1 rfl rfl dX3_passMinute_66 rfl ?_
    refine g_icmp_ge (tgt := 113) X dX3_passMinute_69 (by decide) rfl h (fun c_1 h => ?_) (fun c_1 h => ?_)
    · refine g_aload_n X 0 rfl rfl dX3_passMinute_113 rfl ?_
      refine g_dup X dX3_passMinute_114 rfl rfl ?_
      refine g_getf (C := RX3) (T := TX3) (N := 6) (v := .int c_gone) X 0 rfl vc_X3 5 (by decide) iw_X3_passMinute_X3 fl_X3_passMinute_X3_5 rfl rfl dX3_passMinute_115 rfl ?_
      refine g_iconst (v := 1) X dX3_passMinute_118 (by decide) rfl ?_
      refine g_iadd X dX3_passMinute_119 rfl ?_
      refine g_nami h (fun w_2 h => ?_)
      refine g_putf (C := RX3) (T := TX3) (N := 6) (ty := .int) (ws' := (w_X3_passMinute cA a_me a_q1 a_gas a_place a_gas_cells a_place_cells a_q1_kinds a_q1_kinds_cells u_open u_moon c_out w_2 c_gas c_place c_q1_size c_q1_kinds)) X 0 tyX3 tyX3_ok nmX3 rfl vc_X3 5 (by decide) iw_X3_passMinute_X3 fl_X3_passMinute_X3_5 rfl rfl pd_X3_5 rfl rfl (Nat.le_of_ble_eq_true rfl) rfl dX3_passMinute_120 rfl ?_
      cases Option.some.inj h
      exact hret _ _ dX3_passMinute_123
    · refine g_aload_n X 0 rfl rfl dX3_passMinute_72 rfl ?_
      refine g_getf (C := RX3) (T := TX3) (N := 6) (v := .ref a_gas) X 0 rfl vc_X3 2 (by decide) iw_X3_passMinute_X3 fl_X3_passMinute_X3_2 rfl rfl dX3_passMinute_73 rfl ?_
      refine g_aload_n X 0 rfl rfl dX3_passMinute_76 rfl ?_
      refine g_getf (C := RX3) (T := TX3) (N := 6) (v := .ref a_place) X 0 rfl vc_X3 3 (by decide) iw_X3_passMinute_X3 fl_X3_passMinute_X3_3 rfl rfl dX3_passMinute_77 rfl ?_
      refine g_iload_n X 2 rfl rfl dX3_passMinute_80 rfl ?_
      obtain ⟨z_3, hz_3, h⟩ := bnd_s h
      refine g_callVI (rm := rm_X8_get) (As := [.int v3]) (r := z_3) (W0 := (w_X8_get cA a_place a_place_cells 6 c_place)) (W1 := (w_X8_get cA a_place a_place_cells 6 c_place)) (isC := [3, 4]) (isR := [0, 1, 2, 5, 6, 7]) (perm := [0, 1, 2, 6, 7, 3, 4, 5]) (ws' := (w_X3_passMinute cA a_me a_q1 a_gas a_place a_gas_cells a_place_cells a_q1_kinds a_q1_kinds_cells u_open u_moon c_out c_gone c_gas c_place c_q1_size c_q1_kinds)) X (c_X8_get l D cA a_place a_place_cells 6 c_place v3 _ hz_3) 3 rfl rfl rfl gX3_passMinute_X8_get rfl rfl rfl ⟨rfl, hd_X8_get⟩ ⟨Nat.le_of_ble_eq_true rfl, Nat.le_of_ble_eq_true rfl⟩ rfl rfl (Nat.le_of_ble_eq_true rfl) rfl (by decide +kernel) rfl (by decide +kernel) (by decide +kernel) ⟨Nat.zero_le _, Nat.zero_le _⟩ rfl (by decide +kernel) dX3_passMinute_81 rfl ?_
      obtain ⟨z_4, hz_4, h⟩ := bnd_s h
      refine g_callVI (rm := rm_X8_get) (As := [.int z_3]) (r := z_4) (W0 := (w_X8_get cA a_gas a_gas_cells 7 c_gas)) (W1 := (w_X8_get cA a_gas a_gas_cells 7 c_gas)) (isC := [1, 2]) (isR := [0, 3, 4, 5, 6, 7]) (perm := [0, 6, 7, 1, 2, 3, 4, 5]) (ws' := (w_X3_passMinute cA a_me a_q1 a_gas a_place a_gas_cells a_place_cells a_q1_kinds a_q1_kinds_cells u_open u_moon c_out c_gone c_gas c_place c_q1_size c_q1_kinds)) X (c_X8_get l D cA a_gas a_gas_cells 7 c_gas z_3 _ hz_4) 1 rfl rfl rfl gX3_passMinute_X8_get rfl rfl rfl ⟨rfl, hd_X8_get⟩ ⟨Nat.le_of_ble_eq_true rfl, Nat.le_of_ble_eq_true rfl⟩ rfl rfl (Nat.le_of_ble_eq_true rfl) rfl (by decide +kernel) rfl (by decide +kernel) (by decide +kernel) ⟨Nat.zero_le _, Nat.zero_le _⟩ rfl (by decide +kernel) dX3_passMinute_84 rfl ?_
      refine g_aload_n X 1 rfl rfl dX3_passMinute_87 rfl ?_
      refine g_iload_n X 2 rfl rfl dX3_passMinute_88 rfl ?_
      obtain ⟨z_5, hz_5, h⟩ := bnd_s h
      refine g_callVI (rm := rm_X1_bears) (As := [.int v3]) (r := z_5) (W0 := (w_X1_bears cA a_q1 a_q1_kinds a_q1_kinds_cells c_q1_size c_q1_kinds)) (W1 := (w_X1_bears cA a_q1 a_q1_kinds a_q1_kinds_cells c_q1_size c_q1_kinds)) (isC := [5, 6, 7]) (isR := [0, 1, 2, 3, 4]) (perm := [0, 1, 2, 3, 4, 5, 6, 7]) (ws' := (w_X3_passMinute cA a_me a_q1 a_gas a_place a_gas_cells a_place_cells a_q1_kinds a_q1_kinds_cells u_open u_moon c_out c_gone c_gas c_place c_q1_size c_q1_kinds)) X (c_X1_bears l D cA a_q1 a_q1_kinds a_q1_kinds_cells c_q1_size c_q1_kinds v3 _ hz_5) 5 rfl rfl rfl gX3_passMinute_X1_bears rfl rfl rfl ⟨rfl, hd_X1_bears⟩ ⟨Nat.le_of_ble_eq_true rfl, Nat.le_of_ble_eq_true rfl⟩ rfl rfl (Nat.le_of_ble_eq_true rfl) rfl (by decide +kernel) rfl (by decide +kernel) (by decide +kernel) ⟨Nat.zero_le _, Nat.zero_le _⟩ rfl (by decide +kernel) dX3_passMinute_89 rfl ?_
      refine g_icmp_le (tgt := 107) X dX3_passMinute_92 (by decide) rfl h (fun c_6 h => ?_) (fun c_6 h => ?_)
      · exact t_X3_passMinute_b107 X hret ih h
      · refine g_aload_n X 0 rfl rfl dX3_passMinute_95 rfl ?_
        refine g_dup X dX3_passMinute_96 rfl rfl ?_
        refine g_getf (C := RX3) (T := TX3) (N := 6) (v := .int c_out) X 0 rfl vc_X3 4 (by decide) iw_X3_passMinute_X3 fl_X3_passMinute_X3_4 rfl rfl dX3_passMinute_97 rfl ?_
        refine g_iconst (v := 1) X dX3_passMinute_100 (by decide) rfl ?_
        refine g_iload_n X 2 rfl rfl dX3_passMinute_101 rfl ?_
        refine g_ishl X dX3_passMinute_102 rfl ?_
        refine g_ior X dX3_passMinute_103 rfl ?_
        refine g_nami h (fun w_7 h => ?_)
        refine g_putf (C := RX3) (T := TX3) (N := 6) (ty := .int) (ws' := (w_X3_passMinute cA a_me a_q1 a_gas a_place a_gas_cells a_place_cells a_q1_kinds a_q1_kinds_cells u_open u_moon w_7 c_gone c_gas c_place c_q1_size c_q1_kinds)) X 0 tyX3 tyX3_ok nmX3 rfl vc_X3 4 (by decide) iw_X3_passMinute_X3 fl_X3_passMinute_X3_4 rfl rfl pd_X3_4 rfl rfl (Nat.le_of_ble_eq_true rfl) rfl dX3_passMinute_104 rfl ?_
        exact t_X3_passMinute_b107 X hret ih h
set_option maxHeartbeats 4000000 in
set_option maxRecDepth 100000 in
theorem t_X3_passMinute_b2 {l : Launch} {D : va_G} {cA : ClassId} {p : Program} {e : Env} {s : State} {m : MethodId} {args : Array Value} {below : List Frame} {meth : Method} {c : Code} {A : Nat → Prop} {Q : State → Prop} {z : Int32 × Int32 × A32} {a_me a_q1 a_gas a_place a_gas_cells a_place_cells a_q1_kinds a_q1_kinds_cells : Nat} {u_open : Int32} {u_moon : Int32}  {c_out : Int32} {c_gone : Int32} {c_place : A32} {c_q1_size : Int32} {c_q1_kinds : A32} {v2 : Int32}  (X : GX p s m args c cX3_passMinute RX3 wsX3_passMinute D cA A 5) (hret : RtV p l e rm_X3_passMinute s m args below meth c cX3_passMinute D A 5 0 0 Q (w_X3_passMinute cA a_me a_q1 a_gas a_place a_gas_cells a_place_cells a_q1_kinds a_q1_kinds_cells u_open u_moon z.1 z.2.1 z.2.2 c_place c_q1_size c_q1_kinds))  : ∀ (fu : Nat) (c_gas : A32) (v3 : Int32), f_X3_passMinute_b2 c_out c_gone c_place c_q1_size c_q1_kinds v2 fu c_gas v3 = some z → G p l e rm_X3_passMinute s m args below meth c D A 5 0 0 Q 2 [(0, .ref a_me), (1, .ref a_q1), (2, .int v2), (3, .int v3)] [] (w_X3_passMinute cA a_me a_q1 a_gas a_place a_gas_cells a_place_cells a_q1_kinds a_q1_kinds_cells u_open u_moon c_out c_gone c_gas c_place c_q1_size c_q1_kinds) := by
  intro fu
  induction fu with
  | zero => intro c_gas v3 h; exact absurd (show (none : Option (Int32 × Int32 × A32)) = some z from h) (by simp)
  | succ fu ih =>
    intro c_gas v3 h
    have h : (if 7 ≤ v3 then f_X3_passMinute_b64 c_gone c_gas c_place c_q1_size c_q1_kinds FU c_out 0 else Option.bind (f_X10_bit v2 v3) fun z_2 => if z_2 = 1 then f_X3_passMinute_b22 (f_X3_passMinute_b2 c_out c_gone c_place c_q1_size c_q1_kinds v2 fu) c_out c_gone c_gas c_place c_q1_size c_q1_kinds 1 v2 v3 else f_X3_passMinute_b22 (f_X3_passMinute_b2 c_out c_gone c_place c_q1_size c_q1_kinds v2 fu) c_out c_gone c_gas c_place c_q1_size c_q1_kinds 0 v2 v3 : Option (Int32 × Int32 × A32)) = some z := h
    refine g_iload_n X 3 rfl rfl dX3_passMinute_2 rfl ?_
    refine g_bipush (v := 7) X dX3_passMinute_3 (by decide) rfl ?_
    refine g_icmp_ge (tgt := 62) X dX3_passMinute_5 (by decide) rfl h (fun c_1 h => ?_) (fun c_1 h => ?_)
    · refine g_iconst (v := 0) X dX3_passMinute_62 (by decide) rfl ?_
      refine g_istore_n (lv' := [(3, .int 0), (0, .ref a_me), (1, .ref a_q1), (2, .int v2)]) X rfl (by decide) rfl dX3_passMinute_63 rfl ?_
      refine g_lvs [1, 2, 0] rfl ?_
      exact t_X3_passMinute_b64 X hret _ _ _ h
    · refine g_iload_n X 2 rfl rfl dX3_passMinute_8 rfl ?_
      refine g_iload_n X 3 rfl rfl dX3_passMinute_9 rfl ?_
      obtain ⟨z_2, hz_2, h⟩ := bnd_s h
      refine g_callSNI (rm := rm_X10_bit) (As := [.int v2, .int v3]) (r := z_2) (W0 := []) (W1 := []) (isC := []) (isR := [0, 1, 2, 3, 4, 5, 6, 7]) (perm := [0, 1, 2, 3, 4, 5, 6, 7]) (ws' := (w_X3_passMinute cA a_me a_q1 a_gas a_place a_gas_cells a_place_cells a_q1_kinds a_q1_kinds_cells u_open u_moon c_out c_gone c_gas c_place c_q1_size c_q1_kinds)) X (c_X10_bit l D cA v2 v3 _ hz_2) gX3_passMinute_X10_bit_n44 (by decide +kernel) (by decide +kernel) (by decide +kernel) rfl rfl rfl hd_X10_bit ⟨Nat.le_of_ble_eq_true rfl, Nat.le_of_ble_eq_true rfl⟩ rfl rfl (Nat.le_of_ble_eq_true rfl) rfl (by decide +kernel) rfl (by decide +kernel) (by decide +kernel) ⟨Nat.zero_le _, Nat.zero_le _⟩ rfl (by decide +kernel) dX3_passMinute_10 rfl ?_
      refine g_iconst (v := 1) X dX3_passMinute_13 (by decide) rfl ?_
      refine g_icmp_ne (tgt := 21) X dX3_passMinute_14 (by decide) rfl h (fun c_3 h => ?_) (fun c_3 h => ?_)
      · refine g_iconst (v := 0) X dX3_passMinute_21 (by decide) rfl ?_
        exact t_X3_passMinute_b22 X hret ih h
      · refine g_iconst (v := 1) X dX3_passMinute_17 (by decide) rfl ?_
        refine g_goto (tgt := 22) X dX3_passMinute_18 (by decide) ?_
        exact t_X3_passMinute_b22 X hret ih h
set_option maxHeartbeats 4000000 in
set_option maxRecDepth 100000 in
theorem c_X3_passMinute (l : Launch) (D : va_G) (cA : ClassId) (a_me a_q1 a_gas a_place a_gas_cells a_place_cells a_q1_kinds a_q1_kinds_cells : Nat) (u_open : Int32) (u_moon : Int32) (c_out : Int32) (c_gone : Int32) (c_gas : A32) (c_place : A32) (c_q1_size : Int32) (c_q1_kinds : A32) (v2 : Int32) (z : Int32 × Int32 × A32) (h : f_X3_passMinute c_out c_gone c_gas c_place c_q1_size c_q1_kinds v2 = some z) : CtV l yX3_passMinute wsX3_passMinute rm_X3_passMinute D cA [.ref a_me, .ref a_q1, .int v2] (w_X3_passMinute cA a_me a_q1 a_gas a_place a_gas_cells a_place_cells a_q1_kinds a_q1_kinds_cells u_open u_moon c_out c_gone c_gas c_place c_q1_size c_q1_kinds) Unit (fun _ => (w_X3_passMinute cA a_me a_q1 a_gas a_place a_gas_cells a_place_cells a_q1_kinds a_q1_kinds_cells u_open u_moon z.1 z.2.1 z.2.2 c_place c_q1_size c_q1_kinds)) 0 0 := by
  refine ct_V (maxL := 5) (cc := cX3_passMinute) (by decide) rfl (Nat.le_of_ble_eq_true rfl) rfl (fun p e s m args below meth c A Q X _ hret => ?_)
  have hret := hret ()
  have h : (f_X3_passMinute_b2 c_out c_gone c_place c_q1_size c_q1_kinds v2 FU c_gas 0 : Option (Int32 × Int32 × A32)) = some z := h
  refine g_iconst (v := 0) X dX3_passMinute_0 (by decide) rfl ?_
  refine g_istore_n (lv' := [(3, .int 0), (0, .ref a_me), (1, .ref a_q1), (2, .int v2)]) X rfl (by decide) rfl dX3_passMinute_1 rfl ?_
  refine g_lvs [1, 2, 3, 0] rfl ?_
  exact t_X3_passMinute_b2 X hret _ _ _ h
abbrev rm_X5_isRead : Room := { frames := 0, cells := 0, slots := 0, locals := 0 }
theorem hd_X5_isRead : yX5_isRead.cls ≠ "java/lang/invoke/MethodHandle" ∧ yX5_isRead.cls ≠ "java/lang/invoke/VarHandle" ∧ (parseMethodDescriptor yX5_isRead.desc).map (fun d => d.parameters.length) = some 0 := by decide +kernel
theorem iw_X5_isRead_X5 : ∀ w ∈ wsX50, w ∈ wsX5_isRead := fun w h => List.mem_cons_of_mem _ (List.mem_append_right _ h)
theorem fl_X5_isRead_X5_0 : Cond.fieldLink RX5 29 RX5 (TX5 0).2.1 (TX5 0).2.2.1 ∈ wsX5_isRead := List.mem_of_getElem? (i := 1) rfl
abbrev w_X5_isRead (cA : ClassId) (a_me a_one a_two a_length a_draught : Nat) (u_doors : Int32) (u_shafts : Int32) (c_galleries : Int32) : va_W := [(a_me, .inr (5, [.int c_galleries, .ref a_one, .ref a_two, .ref a_length, .int u_doors, .ref a_draught, .int u_shafts]))]
set_option maxHeartbeats 4000000 in
set_option maxRecDepth 100000 in
theorem c_X5_isRead (l : Launch) (D : va_G) (cA : ClassId) (a_me a_one a_two a_length a_draught : Nat) (u_doors : Int32) (u_shafts : Int32) (c_galleries : Int32) (z : Int32) (h : f_X5_isRead c_galleries = some z) : CtI l yX5_isRead wsX5_isRead rm_X5_isRead D cA [.ref a_me] (w_X5_isRead cA a_me a_one a_two a_length a_draught u_doors u_shafts c_galleries) z (w_X5_isRead cA a_me a_one a_two a_length a_draught u_doors u_shafts c_galleries) := by
  refine ct_I (maxL := 1) (ty := .boolean) (cc := cX5_isRead) (by decide) rfl (Nat.le_of_ble_eq_true rfl) rfl (fun p e s m args below meth c A Q X hret => ?_)
  have h : (if c_galleries ≤ 0 then some 0 else some 1 : Option (Int32)) = some z := h
  refine g_aload_n X 0 rfl rfl dX5_isRead_0 rfl ?_
  refine g_getf (C := RX5) (T := TX5) (N := 7) (v := .int c_galleries) X 0 rfl vc_X5 0 (by decide) iw_X5_isRead_X5 fl_X5_isRead_X5_0 rfl rfl dX5_isRead_1 rfl ?_
  refine g_if_le (tgt := 11) X dX5_isRead_4 (by decide) rfl h (fun c_1 h => ?_) (fun c_1 h => ?_)
  · refine g_iconst (v := 0) X dX5_isRead_11 (by decide) rfl ?_
    cases Option.some.inj h
    exact hret _ _ dX5_isRead_12 (nar_z (Or.inl rfl))
  · refine g_iconst (v := 1) X dX5_isRead_7 (by decide) rfl ?_
    refine g_goto (tgt := 12) X dX5_isRead_8 (by decide) ?_
    cases Option.some.inj h
    exact hret _ _ dX5_isRead_12 (nar_z (Or.inr rfl))
abbrev rm_X5_hasGallery : Room := { frames := 0, cells := 0, slots := 0, locals := 0 }
theorem hd_X5_hasGallery : yX5_hasGallery.cls ≠ "java/lang/invoke/MethodHandle" ∧ yX5_hasGallery.cls ≠ "java/lang/invoke/VarHandle" ∧ (parseMethodDescriptor yX5_hasGallery.desc).map (fun d => d.parameters.length) = some 1 := by decide +kernel
theorem iw_X5_hasGallery_X5 : ∀ w ∈ wsX50, w ∈ wsX5_hasGallery := fun w h => List.mem_cons_of_mem _ (List.mem_append_right _ h)
theorem fl_X5_hasGallery_X5_0 : Cond.fieldLink RX5 29 RX5 (TX5 0).2.1 (TX5 0).2.2.1 ∈ wsX5_hasGallery := List.mem_of_getElem? (i := 1) rfl
abbrev w_X5_hasGallery (cA : ClassId) (a_me a_one a_two a_length a_draught : Nat) (u_doors : Int32) (u_shafts : Int32) (c_galleries : Int32) : va_W := [(a_me, .inr (5, [.int c_galleries, .ref a_one, .ref a_two, .ref a_length, .int u_doors, .ref a_draught, .int u_shafts]))]
set_option maxHeartbeats 4000000 in
set_option maxRecDepth 100000 in
theorem c_X5_hasGallery (l : Launch) (D : va_G) (cA : ClassId) (a_me a_one a_two a_length a_draught : Nat) (u_doors : Int32) (u_shafts : Int32) (c_galleries : Int32) (v1 : Int32) (z : Int32) (h : f_X5_hasGallery c_galleries v1 = some z) : CtI l yX5_hasGallery wsX5_hasGallery rm_X5_hasGallery D cA [.ref a_me, .int v1] (w_X5_hasGallery cA a_me a_one a_two a_length a_draught u_doors u_shafts c_galleries) z (w_X5_hasGallery cA a_me a_one a_two a_length a_draught u_doors u_shafts c_galleries) := by
  refine ct_I (maxL := 2) (ty := .boolean) (cc := cX5_hasGallery) (by decide) rfl (Nat.le_of_ble_eq_true rfl) rfl (fun p e s m args below meth c A Q X hret => ?_)
  have h : (if v1 < 0 then some 0 else if c_galleries ≤ v1 then some 0 else some 1 : Option (Int32)) = some z := h
  refine g_iload_n X 1 rfl rfl dX5_hasGallery_0 rfl ?_
  refine g_if_lt (tgt := 16) X dX5_hasGallery_1 (by decide) rfl h (fun c_1 h => ?_) (fun c_1 h => ?_)
  · refine g_iconst (v := 0) X dX5_hasGallery_16 (by decide) rfl ?_
    cases Option.some.inj h
    exact hret _ _ dX5_hasGallery_17 (nar_z (Or.inl rfl))
  · refine g_iload_n X 1 rfl rfl dX5_hasGallery_4 rfl ?_
    refine g_aload_n X 0 rfl rfl dX5_hasGallery_5 rfl ?_
    refine g_getf (C := RX5) (T := TX5) (N := 7) (v := .int c_galleries) X 0 rfl vc_X5 0 (by decide) iw_X5_hasGallery_X5 fl_X5_hasGallery_X5_0 rfl rfl dX5_hasGallery_6 rfl ?_
    refine g_icmp_ge (tgt := 16) X dX5_hasGallery_9 (by decide) rfl h (fun c_2 h => ?_) (fun c_2 h => ?_)
    · refine g_iconst (v := 0) X dX5_hasGallery_16 (by decide) rfl ?_
      cases Option.some.inj h
      exact hret _ _ dX5_hasGallery_17 (nar_z (Or.inl rfl))
    · refine g_iconst (v := 1) X dX5_hasGallery_12 (by decide) rfl ?_
      refine g_goto (tgt := 17) X dX5_hasGallery_13 (by decide) ?_
      cases Option.some.inj h
      exact hret _ _ dX5_hasGallery_17 (nar_z (Or.inr rfl))
abbrev rm_X5_isShaft : Room := { frames := 1, cells := 0, slots := 0, locals := 21 }
theorem hd_X5_isShaft : yX5_isShaft.cls ≠ "java/lang/invoke/MethodHandle" ∧ yX5_isShaft.cls ≠ "java/lang/invoke/VarHandle" ∧ (parseMethodDescriptor yX5_isShaft.desc).map (fun d => d.parameters.length) = some 1 := by decide +kernel
theorem iw_X5_isShaft_X5 : ∀ w ∈ wsX50, w ∈ wsX5_isShaft := fun w h => List.mem_cons_of_mem _ (List.mem_append_right _ h)
theorem fl_X5_isShaft_X5_6 : Cond.fieldLink RX5 33 RX5 (TX5 6).2.1 (TX5 6).2.2.1 ∈ wsX5_isShaft := List.mem_of_getElem? (i := 1) rfl
abbrev w_X5_isShaft (cA : ClassId) (a_me a_one a_two a_length a_draught : Nat) (u_galleries : Int32) (u_doors : Int32) (c_shafts : Int32) : va_W := [(a_me, .inr (5, [.int u_galleries, .ref a_one, .ref a_two, .ref a_length, .int u_doors, .ref a_draught, .int c_shafts]))]
set_option maxHeartbeats 4000000 in
set_option maxRecDepth 100000 in
theorem c_X5_isShaft (l : Launch) (D : va_G) (cA : ClassId) (a_me a_one a_two a_length a_draught : Nat) (u_galleries : Int32) (u_doors : Int32) (c_shafts : Int32) (v1 : Int32) (z : Int32) (h : f_X5_isShaft c_shafts v1 = some z) : CtI l yX5_isShaft wsX5_isShaft rm_X5_isShaft D cA [.ref a_me, .int v1] (w_X5_isShaft cA a_me a_one a_two a_length a_draught u_galleries u_doors c_shafts) z (w_X5_isShaft cA a_me a_one a_two a_length a_draught u_galleries u_doors c_shafts) := by
  refine ct_I (maxL := 2) (ty := .boolean) (cc := cX5_isShaft) (by decide) rfl (Nat.le_of_ble_eq_true rfl) rfl (fun p e s m args below meth c A Q X hret => ?_)
  have h : (Option.bind (f_X10_bit c_shafts v1) fun z_1 => if z_1 = 1 then some 1 else some 0 : Option (Int32)) = some z := h
  refine g_aload_n X 0 rfl rfl dX5_isShaft_0 rfl ?_
  refine g_getf (C := RX5) (T := TX5) (N := 7) (v := .int c_shafts) X 0 rfl vc_X5 6 (by decide) iw_X5_isShaft_X5 fl_X5_isShaft_X5_6 rfl rfl dX5_isShaft_1 rfl ?_
  refine g_iload_n X 1 rfl rfl dX5_isShaft_4 rfl ?_
  obtain ⟨z_1, hz_1, h⟩ := bnd_s h
  refine g_callSNI (rm := rm_X10_bit) (As := [.int c_shafts, .int v1]) (r := z_1) (W0 := []) (W1 := []) (isC := []) (isR := [0]) (perm := [0]) (ws' := (w_X5_isShaft cA a_me a_one a_two a_length a_draught u_galleries u_doors c_shafts)) X (c_X10_bit l D cA c_shafts v1 _ hz_1) gX5_isShaft_X10_bit_n36 (by decide +kernel) (by decide +kernel) (by decide +kernel) rfl rfl rfl hd_X10_bit ⟨Nat.le_of_ble_eq_true rfl, Nat.le_of_ble_eq_true rfl⟩ rfl rfl (Nat.le_of_ble_eq_true rfl) rfl (by decide +kernel) rfl (by decide +kernel) (by decide +kernel) ⟨Nat.zero_le _, Nat.zero_le _⟩ rfl (by decide +kernel) dX5_isShaft_5 rfl ?_
  refine g_iconst (v := 1) X dX5_isShaft_8 (by decide) rfl ?_
  refine g_icmp_ne (tgt := 16) X dX5_isShaft_9 (by decide) rfl h (fun c_2 h => ?_) (fun c_2 h => ?_)
  · refine g_iconst (v := 0) X dX5_isShaft_16 (by decide) rfl ?_
    cases Option.some.inj h
    exact hret _ _ dX5_isShaft_17 (nar_z (Or.inl rfl))
  · refine g_iconst (v := 1) X dX5_isShaft_12 (by decide) rfl ?_
    refine g_goto (tgt := 17) X dX5_isShaft_13 (by decide) ?_
    cases Option.some.inj h
    exact hret _ _ dX5_isShaft_17 (nar_z (Or.inr rfl))
abbrev rm_X5_allGalleries : Room := { frames := 0, cells := 0, slots := 0, locals := 0 }
theorem hd_X5_allGalleries : yX5_allGalleries.cls ≠ "java/lang/invoke/MethodHandle" ∧ yX5_allGalleries.cls ≠ "java/lang/invoke/VarHandle" ∧ (parseMethodDescriptor yX5_allGalleries.desc).map (fun d => d.parameters.length) = some 0 := by decide +kernel
theorem iw_X5_allGalleries_X5 : ∀ w ∈ wsX50, w ∈ wsX5_allGalleries := fun w h => List.mem_cons_of_mem _ (List.mem_append_right _ h)
theorem fl_X5_allGalleries_X5_0 : Cond.fieldLink RX5 29 RX5 (TX5 0).2.1 (TX5 0).2.2.1 ∈ wsX5_allGalleries := List.mem_of_getElem? (i := 1) rfl
abbrev w_X5_allGalleries (cA : ClassId) (a_me a_one a_two a_length a_draught : Nat) (u_doors : Int32) (u_shafts : Int32) (c_galleries : Int32) : va_W := [(a_me, .inr (5, [.int c_galleries, .ref a_one, .ref a_two, .ref a_length, .int u_doors, .ref a_draught, .int u_shafts]))]
set_option maxHeartbeats 4000000 in
set_option maxRecDepth 100000 in
theorem c_X5_allGalleries (l : Launch) (D : va_G) (cA : ClassId) (a_me a_one a_two a_length a_draught : Nat) (u_doors : Int32) (u_shafts : Int32) (c_galleries : Int32) (z : Int32) (h : f_X5_allGalleries c_galleries = some z) : CtI l yX5_allGalleries wsX5_allGalleries rm_X5_allGalleries D cA [.ref a_me] (w_X5_allGalleries cA a_me a_one a_two a_length a_draught u_doors u_shafts c_galleries) z (w_X5_allGalleries cA a_me a_one a_two a_length a_draught u_doors u_shafts c_galleries) := by
  refine ct_I (maxL := 1) (ty := .int) (cc := cX5_allGalleries) (by decide) rfl (Nat.le_of_ble_eq_true rfl) rfl (fun p e s m args below meth c A Q X hret => ?_)
  have h : (some ((1 <<< (c_galleries &&& 31)) - 1) : Option (Int32)) = some z := h
  refine g_iconst (v := 1) X dX5_allGalleries_0 (by decide) rfl ?_
  refine g_aload_n X 0 rfl rfl dX5_allGalleries_1 rfl ?_
  refine g_getf (C := RX5) (T := TX5) (N := 7) (v := .int c_galleries) X 0 rfl vc_X5 0 (by decide) iw_X5_allGalleries_X5 fl_X5_allGalleries_X5_0 rfl rfl dX5_allGalleries_2 rfl ?_
  refine g_ishl X dX5_allGalleries_5 rfl ?_
  refine g_iconst (v := 1) X dX5_allGalleries_6 (by decide) rfl ?_
  refine g_isub X dX5_allGalleries_7 rfl ?_
  cases Option.some.inj h
  exact hret _ _ dX5_allGalleries_8 rfl
abbrev rm_X5_readShafts : Room := { frames := 2, cells := 0, slots := 0, locals := 42 }
theorem hd_X5_readShafts : yX5_readShafts.cls ≠ "java/lang/invoke/MethodHandle" ∧ yX5_readShafts.cls ≠ "java/lang/invoke/VarHandle" ∧ (parseMethodDescriptor yX5_readShafts.desc).map (fun d => d.parameters.length) = some 2 := by decide +kernel
theorem iw_X5_readShafts_X4 : ∀ w ∈ wsX40, w ∈ wsX5_readShafts := fun w h => List.mem_cons_of_mem _ (List.mem_append_left _ (List.mem_append_right _ h))
theorem iw_X5_readShafts_X5 : ∀ w ∈ wsX50, w ∈ wsX5_readShafts := fun w h => List.mem_cons_of_mem _ (List.mem_append_left _ (List.mem_append_left _ (List.mem_append_right _ h)))
theorem fl_X5_readShafts_X5_5 : Cond.fieldLink RX5 26 RX5 (TX5 5).2.1 (TX5 5).2.2.1 ∈ wsX5_readShafts := List.mem_of_getElem? (i := 1) rfl
theorem fl_X5_readShafts_X5_6 : Cond.fieldLink RX5 33 RX5 (TX5 6).2.1 (TX5 6).2.2.1 ∈ wsX5_readShafts := List.mem_of_getElem? (i := 2) rfl
theorem fl_X5_readShafts_X4_1 : Cond.fieldLink RX5 66 RX4 (TX4 1).2.1 (TX4 1).2.2.1 ∈ wsX5_readShafts := List.mem_of_getElem? (i := 3) rfl
abbrev w_X5_readShafts (cA : ClassId) (a_me a_q1 a_one a_two a_length a_draught a_draught_cells a_q1_letters a_q1_reader a_q1_letters_cells : Nat) (u_galleries : Int32) (u_doors : Int32) (c_shafts : Int32) (c_draught : A32) (c_q1_length : Int32) (c_q1_letters : A32) : va_W := [(a_me, .inr (5, [.int u_galleries, .ref a_one, .ref a_two, .ref a_length, .int u_doors, .ref a_draught, .int c_shafts])), (a_draught, .inr (8, [.ref a_draught_cells])), (a_draught_cells, .inl (cA, 7, .inl c_draught)), (a_q1, .inr (4, [.ref a_q1_letters, .int c_q1_length, .ref a_q1_reader])), (a_q1_letters, .inr (8, [.ref a_q1_letters_cells])), (a_q1_letters_cells, .inl (cA, 66, .inl c_q1_letters))]
set_option maxHeartbeats 4000000 in
set_option maxRecDepth 100000 in
theorem t_X5_readShafts_b15 {l : Launch} {D : va_G} {cA : ClassId} {p : Program} {e : Env} {s : State} {m : MethodId} {args : Array Value} {below : List Frame} {meth : Method} {c : Code} {A : Nat → Prop} {Q : State → Prop} {z : Int32 × A32} {a_me a_q1 a_one a_two a_length a_draught a_draught_cells a_q1_letters a_q1_reader a_q1_letters_cells : Nat} {u_galleries : Int32} {u_doors : Int32}  {c_q1_length : Int32} {c_q1_letters : A32}  (X : GX p s m args c cX5_readShafts RX5 wsX5_readShafts D cA A 4) (hret : RtV p l e rm_X5_readShafts s m args below meth c cX5_readShafts D A 4 0 0 Q (w_X5_readShafts cA a_me a_q1 a_one a_two a_length a_draught a_draught_cells a_q1_letters a_q1_reader a_q1_letters_cells u_galleries u_doors z.1 z.2 c_q1_length c_q1_letters))  : ∀ (fu : Nat) (c_shafts : Int32) (c_draught : A32) (v3 : Int32), f_X5_readShafts_b15 c_q1_length c_q1_letters fu c_shafts c_draught v3 = some z → G p l e rm_X5_readShafts s m args below meth c D A 4 0 0 Q 15 [(0, .ref a_me), (1, .ref a_q1), (3, .int v3)] [] (w_X5_readShafts cA a_me a_q1 a_one a_two a_length a_draught a_draught_cells a_q1_letters a_q1_reader a_q1_letters_cells u_galleries u_doors c_shafts c_draught c_q1_length c_q1_letters) := by
  intro fu
  induction fu with
  | zero => intro c_shafts c_draught v3 h; exact absurd (show (none : Option (Int32 × A32)) = some z from h) (by simp)
  | succ fu ih =>
    intro c_shafts c_draught v3 h
    have h : (if c_q1_length ≤ (v3 + 1) then some (c_shafts, c_draught) else Option.bind (f_X4_digit c_q1_letters v3) fun z_2 => Option.bind (f_X4_digit c_q1_letters (v3 + 1)) fun z_3 => Option.bind (f_X8_set 7 c_draught z_2 z_3) fun z_4 => Option.bind (f_X4_digit c_q1_letters v3) fun z_5 => nam (c_shafts ||| (1 <<< (z_5 &&& 31))) fun w_6 => nam (v3 + 2) fun v3_7 => (f_X5_readShafts_b15 c_q1_length c_q1_letters fu) w_6 z_4 v3_7 : Option (Int32 × A32)) = some z := h
    refine g_iload_n X 2 rfl rfl dX5_readShafts_15 rfl ?_
    refine g_iconst (v := 1) X dX5_readShafts_16 (by decide) rfl ?_
    refine g_iadd X dX5_readShafts_17 rfl ?_
    refine g_aload_n X 1 rfl rfl dX5_readShafts_18 rfl ?_
    refine g_getf (C := RX4) (T := TX4) (N := 3) (v := .int c_q1_length) X 3 rfl vc_X4 1 (by decide) iw_X5_readShafts_X4 fl_X5_readShafts_X4_1 rfl rfl dX5_readShafts_19 rfl ?_
    refine g_icmp_ge (tgt := 66) X dX5_readShafts_22 (by decide) rfl h (fun c_1 h => ?_) (fun c_1 h => ?_)
    · cases Option.some.inj h
      exact hret _ _ dX5_readShafts_66
    · refine g_aload_n X 0 rfl rfl dX5_readShafts_25 rfl ?_
      refine g_getf (C := RX5) (T := TX5) (N := 7) (v := .ref a_draught) X 0 rfl vc_X5 5 (by decide) iw_X5_readShafts_X5 fl_X5_readShafts_X5_5 rfl rfl dX5_readShafts_26 rfl ?_
      refine g_aload_n X 1 rfl rfl dX5_readShafts_29 rfl ?_
      refine g_iload_n X 2 rfl rfl dX5_readShafts_30 rfl ?_
      obtain ⟨z_2, hz_2, h⟩ := bnd_s h
      refine g_callVI (rm := rm_X4_digit) (As := [.int v3]) (r := z_2) (W0 := (w_X4_digit cA a_q1 a_q1_letters a_q1_reader a_q1_letters_cells c_q1_length c_q1_letters)) (W1 := (w_X4_digit cA a_q1 a_q1_letters a_q1_reader a_q1_letters_cells c_q1_length c_q1_letters)) (isC := [3, 4, 5]) (isR := [0, 1, 2]) (perm := [0, 1, 2, 3, 4, 5]) (ws' := (w_X5_readShafts cA a_me a_q1 a_one a_two a_length a_draught a_draught_cells a_q1_letters a_q1_reader a_q1_letters_cells u_galleries u_doors c_shafts c_draught c_q1_length c_q1_letters)) X (c_X4_digit l D cA a_q1 a_q1_letters a_q1_reader a_q1_letters_cells c_q1_length c_q1_letters v3 _ hz_2) 3 rfl rfl rfl gX5_readShafts_X4_digit rfl rfl rfl ⟨rfl, hd_X4_digit⟩ ⟨Nat.le_of_ble_eq_true rfl, Nat.le_of_ble_eq_true rfl⟩ rfl rfl (Nat.le_of_ble_eq_true rfl) rfl (by decide +kernel) rfl (by decide +kernel) (by decide +kernel) ⟨Nat.zero_le _, Nat.zero_le _⟩ rfl (by decide +kernel) dX5_readShafts_31 rfl ?_
      refine g_aload_n X 1 rfl rfl dX5_readShafts_34 rfl ?_
      refine g_iload_n X 2 rfl rfl dX5_readShafts_35 rfl ?_
      refine g_iconst (v := 1) X dX5_readShafts_36 (by decide) rfl ?_
      refine g_iadd X dX5_readShafts_37 rfl ?_
      obtain ⟨z_3, hz_3, h⟩ := bnd_s h
      refine g_callVI (rm := rm_X4_digit) (As := [.int (v3 + 1)]) (r := z_3) (W0 := (w_X4_digit cA a_q1 a_q1_letters a_q1_reader a_q1_letters_cells c_q1_length c_q1_letters)) (W1 := (w_X4_digit cA a_q1 a_q1_letters a_q1_reader a_q1_letters_cells c_q1_length c_q1_letters)) (isC := [3, 4, 5]) (isR := [0, 1, 2]) (perm := [0, 1, 2, 3, 4, 5]) (ws' := (w_X5_readShafts cA a_me a_q1 a_one a_two a_length a_draught a_draught_cells a_q1_letters a_q1_reader a_q1_letters_cells u_galleries u_doors c_shafts c_draught c_q1_length c_q1_letters)) X (c_X4_digit l D cA a_q1 a_q1_letters a_q1_reader a_q1_letters_cells c_q1_length c_q1_letters (v3 + 1) _ hz_3) 3 rfl rfl rfl gX5_readShafts_X4_digit rfl rfl rfl ⟨rfl, hd_X4_digit⟩ ⟨Nat.le_of_ble_eq_true rfl, Nat.le_of_ble_eq_true rfl⟩ rfl rfl (Nat.le_of_ble_eq_true rfl) rfl (by decide +kernel) rfl (by decide +kernel) (by decide +kernel) ⟨Nat.zero_le _, Nat.zero_le _⟩ rfl (by decide +kernel) dX5_readShafts_38 rfl ?_
      obtain ⟨z_4, hz_4, h⟩ := bnd_s h
      refine g_callVV (rm := rm_X8_set) (As := [.int z_2, .int z_3]) (W0 := (w_X8_set cA a_draught a_draught_cells 7 c_draught)) (W1 := (w_X8_set cA a_draught a_draught_cells 7 z_4)) (isC := [1, 2]) (isR := [0, 3, 4, 5]) (perm := [0, 4, 5, 1, 2, 3]) (ws' := (w_X5_readShafts cA a_me a_q1 a_one a_two a_length a_draught a_draught_cells a_q1_letters a_q1_reader a_q1_letters_cells u_galleries u_doors c_shafts z_4 c_q1_length c_q1_letters)) X (c_X8_set l D cA a_draught a_draught_cells 7 c_draught z_2 z_3 _ hz_4) 1 rfl rfl rfl gX5_readShafts_X8_set rfl rfl rfl ⟨rfl, hd_X8_set⟩ ⟨Nat.le_of_ble_eq_true rfl, Nat.le_of_ble_eq_true rfl⟩ rfl rfl (Nat.le_of_ble_eq_true rfl) rfl (by decide +kernel) rfl (by decide +kernel) (by decide +kernel) ⟨Nat.zero_le _, Nat.zero_le _⟩ rfl (by decide +kernel) dX5_readShafts_41 rfl ?_
      refine g_aload_n X 0 rfl rfl dX5_readShafts_44 rfl ?_
      refine g_dup X dX5_readShafts_45 rfl rfl ?_
      refine g_getf (C := RX5) (T := TX5) (N := 7) (v := .int c_shafts) X 0 rfl vc_X5 6 (by decide) iw_X5_readShafts_X5 fl_X5_readShafts_X5_6 rfl rfl dX5_readShafts_46 rfl ?_
      refine g_iconst (v := 1) X dX5_readShafts_49 (by decide) rfl ?_
      refine g_aload_n X 1 rfl rfl dX5_readShafts_50 rfl ?_
      refine g_iload_n X 2 rfl rfl dX5_readShafts_51 rfl ?_
      obtain ⟨z_5, hz_5, h⟩ := bnd_s h
      refine g_callVI (rm := rm_X4_digit) (As := [.int v3]) (r := z_5) (W0 := (w_X4_digit cA a_q1 a_q1_letters a_q1_reader a_q1_letters_cells c_q1_length c_q1_letters)) (W1 := (w_X4_digit cA a_q1 a_q1_letters a_q1_reader a_q1_letters_cells c_q1_length c_q1_letters)) (isC := [3, 4, 5]) (isR := [0, 1, 2]) (perm := [0, 1, 2, 3, 4, 5]) (ws' := (w_X5_readShafts cA a_me a_q1 a_one a_two a_length a_draught a_draught_cells a_q1_letters a_q1_reader a_q1_letters_cells u_galleries u_doors c_shafts z_4 c_q1_length c_q1_letters)) X (c_X4_digit l D cA a_q1 a_q1_letters a_q1_reader a_q1_letters_cells c_q1_length c_q1_letters v3 _ hz_5) 3 rfl rfl rfl gX5_readShafts_X4_digit rfl rfl rfl ⟨rfl, hd_X4_digit⟩ ⟨Nat.le_of_ble_eq_true rfl, Nat.le_of_ble_eq_true rfl⟩ rfl rfl (Nat.le_of_ble_eq_true rfl) rfl (by decide +kernel) rfl (by decide +kernel) (by decide +kernel) ⟨Nat.zero_le _, Nat.zero_le _⟩ rfl (by decide +kernel) dX5_readShafts_52 rfl ?_
      refine g_ishl X dX5_readShafts_55 rfl ?_
      refine g_ior X dX5_readShafts_56 rfl ?_
      refine g_nami h (fun w_6 h => ?_)
      refine g_putf (C := RX5) (T := TX5) (N := 7) (ty := .int) (ws' := (w_X5_readShafts cA a_me a_q1 a_one a_two a_length a_draught a_draught_cells a_q1_letters a_q1_reader a_q1_letters_cells u_galleries u_doors w_6 z_4 c_q1_length c_q1_letters)) X 0 tyX5 tyX5_ok nmX5 rfl vc_X5 6 (by decide) iw_X5_readShafts_X5 fl_X5_readShafts_X5_6 rfl rfl pd_X5_6 rfl rfl (Nat.le_of_ble_eq_true rfl) rfl dX5_readShafts_57 rfl ?_
      obtain ⟨v3_7, ev3_7, h⟩ := nam_s h
      refine g_iinc (v := v3_7) (lv' := [(3, .int v3_7), (0, .ref a_me), (1, .ref a_q1)]) X 2 rfl (by rw [ev3_7]; rfl) (by decide) rfl dX5_readShafts_60 rfl ?_
      refine g_goto (tgt := 15) X dX5_readShafts_63 (by decide) ?_
      refine g_lvs [1, 2, 0] rfl ?_
      exact ih _ _ _ h
set_option maxHeartbeats 4000000 in
set_option maxRecDepth 100000 in
theorem c_X5_readShafts (l : Launch) (D : va_G) (cA : ClassId) (a_me a_q1 a_one a_two a_length a_draught a_draught_cells a_q1_letters a_q1_reader a_q1_letters_cells : Nat) (u_galleries : Int32) (u_doors : Int32) (c_shafts : Int32) (c_draught : A32) (c_q1_length : Int32) (c_q1_letters : A32) (v2 : Int32) (z : Int32 × A32) (h : f_X5_readShafts c_shafts c_draught c_q1_length c_q1_letters v2 = some z) : CtV l yX5_readShafts wsX5_readShafts rm_X5_readShafts D cA [.ref a_me, .ref a_q1, .int v2] (w_X5_readShafts cA a_me a_q1 a_one a_two a_length a_draught a_draught_cells a_q1_letters a_q1_reader a_q1_letters_cells u_galleries u_doors c_shafts c_draught c_q1_length c_q1_letters) Unit (fun _ => (w_X5_readShafts cA a_me a_q1 a_one a_two a_length a_draught a_draught_cells a_q1_letters a_q1_reader a_q1_letters_cells u_galleries u_doors z.1 z.2 c_q1_length c_q1_letters)) 0 0 := by
  refine ct_V (maxL := 4) (cc := cX5_readShafts) (by decide) rfl (Nat.le_of_ble_eq_true rfl) rfl (fun p e s m args below meth c A Q X _ hret => ?_)
  have hret := hret ()
  have h : (Option.bind (f_X8_fill 7 c_draught (-1)) fun z_1 => f_X5_readShafts_b15 c_q1_length c_q1_letters FU 0 z_1 v2 : Option (Int32 × A32)) = some z := h
  refine g_aload_n X 0 rfl rfl dX5_readShafts_0 rfl ?_
  refine g_getf (C := RX5) (T := TX5) (N := 7) (v := .ref a_draught) X 0 rfl vc_X5 5 (by decide) iw_X5_readShafts_X5 fl_X5_readShafts_X5_5 rfl rfl dX5_readShafts_1 rfl ?_
  refine g_iconst (v := (-1)) X dX5_readShafts_4 (by decide) rfl ?_
  obtain ⟨z_1, hz_1, h⟩ := bnd_s h
  refine g_callVV (rm := rm_X8_fill) (As := [.int (-1)]) (W0 := (w_X8_fill cA a_draught a_draught_cells 7 c_draught)) (W1 := (w_X8_fill cA a_draught a_draught_cells 7 z_1)) (isC := [1, 2]) (isR := [0, 3, 4, 5]) (perm := [0, 4, 5, 1, 2, 3]) (ws' := (w_X5_readShafts cA a_me a_q1 a_one a_two a_length a_draught a_draught_cells a_q1_letters a_q1_reader a_q1_letters_cells u_galleries u_doors c_shafts z_1 c_q1_length c_q1_letters)) X (c_X8_fill l D cA a_draught a_draught_cells 7 c_draught (-1) _ hz_1) 1 rfl rfl rfl gX5_readShafts_X8_fill rfl rfl rfl ⟨rfl, hd_X8_fill⟩ ⟨Nat.le_of_ble_eq_true rfl, Nat.le_of_ble_eq_true rfl⟩ rfl rfl (Nat.le_of_ble_eq_true rfl) rfl (by decide +kernel) rfl (by decide +kernel) (by decide +kernel) ⟨Nat.zero_le _, Nat.zero_le _⟩ rfl (by decide +kernel) dX5_readShafts_5 rfl ?_
  refine g_aload_n X 0 rfl rfl dX5_readShafts_8 rfl ?_
  refine g_iconst (v := 0) X dX5_readShafts_9 (by decide) rfl ?_
  refine g_putf (C := RX5) (T := TX5) (N := 7) (ty := .int) (ws' := (w_X5_readShafts cA a_me a_q1 a_one a_two a_length a_draught a_draught_cells a_q1_letters a_q1_reader a_q1_letters_cells u_galleries u_doors 0 z_1 c_q1_length c_q1_letters)) X 0 tyX5 tyX5_ok nmX5 rfl vc_X5 6 (by decide) iw_X5_readShafts_X5 fl_X5_readShafts_X5_6 rfl rfl pd_X5_6 rfl rfl (Nat.le_of_ble_eq_true rfl) rfl dX5_readShafts_10 rfl ?_
  refine g_iload_n X 2 rfl rfl dX5_readShafts_13 rfl ?_
  refine g_istore_n (lv' := [(3, .int v2), (0, .ref a_me), (1, .ref a_q1), (2, .int v2)]) X rfl (by decide) rfl dX5_readShafts_14 rfl ?_
  refine g_lvs [1, 2, 0] rfl ?_
  exact t_X5_readShafts_b15 X hret _ _ _ _ h
abbrev rm_X5_readFrom : Room := { frames := 3, cells := 0, slots := 0, locals := 65 }
theorem hd_X5_readFrom : yX5_readFrom.cls ≠ "java/lang/invoke/MethodHandle" ∧ yX5_readFrom.cls ≠ "java/lang/invoke/VarHandle" ∧ (parseMethodDescriptor yX5_readFrom.desc).map (fun d => d.parameters.length) = some 1 := by decide +kernel
theorem iw_X5_readFrom_X4 : ∀ w ∈ wsX40, w ∈ wsX5_readFrom := fun w h => List.mem_cons_of_mem _ (List.mem_append_left _ (List.mem_append_right _ h))
theorem iw_X5_readFrom_X5 : ∀ w ∈ wsX50, w ∈ wsX5_readFrom := fun w h => List.mem_cons_of_mem _ (List.mem_append_left _ (List.mem_append_left _ (List.mem_append_right _ h)))
theorem fl_X5_readFrom_X5_0 : Cond.fieldLink RX5 29 RX5 (TX5 0).2.1 (TX5 0).2.2.1 ∈ wsX5_readFrom := List.mem_of_getElem? (i := 1) rfl
theorem fl_X5_readFrom_X5_4 : Cond.fieldLink RX5 40 RX5 (TX5 4).2.1 (TX5 4).2.2.1 ∈ wsX5_readFrom := List.mem_of_getElem? (i := 2) rfl
theorem fl_X5_readFrom_X4_0 : Cond.fieldLink RX5 43 RX4 (TX4 0).2.1 (TX4 0).2.2.1 ∈ wsX5_readFrom := List.mem_of_getElem? (i := 3) rfl
theorem fl_X5_readFrom_X5_1 : Cond.fieldLink RX5 14 RX5 (TX5 1).2.1 (TX5 1).2.2.1 ∈ wsX5_readFrom := List.mem_of_getElem? (i := 4) rfl
theorem fl_X5_readFrom_X5_2 : Cond.fieldLink RX5 20 RX5 (TX5 2).2.1 (TX5 2).2.2.1 ∈ wsX5_readFrom := List.mem_of_getElem? (i := 5) rfl
theorem fl_X5_readFrom_X5_3 : Cond.fieldLink RX5 23 RX5 (TX5 3).2.1 (TX5 3).2.2.1 ∈ wsX5_readFrom := List.mem_of_getElem? (i := 6) rfl
abbrev w_X5_readFrom (cA : ClassId) (a_me a_q1 a_one a_two a_length a_draught a_one_cells a_two_cells a_length_cells a_draught_cells a_q1_letters a_q1_reader a_q1_letters_cells : Nat) (c_galleries : Int32) (c_doors : Int32) (c_shafts : Int32) (c_one : A32) (c_two : A32) (c_length : A32) (c_draught : A32) (c_q1_length : Int32) (c_q1_letters : A32) : va_W := [(a_me, .inr (5, [.int c_galleries, .ref a_one, .ref a_two, .ref a_length, .int c_doors, .ref a_draught, .int c_shafts])), (a_one, .inr (8, [.ref a_one_cells])), (a_one_cells, .inl (cA, 10, .inl c_one)), (a_two, .inr (8, [.ref a_two_cells])), (a_two_cells, .inl (cA, 10, .inl c_two)), (a_length, .inr (8, [.ref a_length_cells])), (a_length_cells, .inl (cA, 10, .inl c_length)), (a_draught, .inr (8, [.ref a_draught_cells])), (a_draught_cells, .inl (cA, 7, .inl c_draught)), (a_q1, .inr (4, [.ref a_q1_letters, .int c_q1_length, .ref a_q1_reader])), (a_q1_letters, .inr (8, [.ref a_q1_letters_cells])), (a_q1_letters_cells, .inl (cA, 66, .inl c_q1_letters))]
set_option maxHeartbeats 4000000 in
set_option maxRecDepth 100000 in
theorem t_X5_readFrom_b123 {l : Launch} {D : va_G} {cA : ClassId} {p : Program} {e : Env} {s : State} {m : MethodId} {args : Array Value} {below : List Frame} {meth : Method} {c : Code} {A : Nat → Prop} {Q : State → Prop} {z : Int32 × Int32 × Int32 × A32 × A32 × A32 × A32} {a_me a_q1 a_one a_two a_length a_draught a_one_cells a_two_cells a_length_cells a_draught_cells a_q1_letters a_q1_reader a_q1_letters_cells : Nat}   {c_galleries : Int32} {c_doors : Int32} {c_shafts : Int32} {c_one : A32} {c_two : A32} {c_length : A32} {c_draught : A32} {c_q1_length : Int32} {c_q1_letters : A32} {v2 : Int32} {v3 : Int32} {k14 : Int32 → Int32 → A32 → A32 → A32 → Int32 → Int32 → Option (Int32 × Int32 × Int32 × A32 × A32 × A32 × A32)} (X : GX p s m args c cX5_readFrom RX5 wsX5_readFrom D cA A 4) (hret : RtV p l e rm_X5_readFrom s m args below meth c cX5_readFrom D A 4 0 0 Q (w_X5_readFrom cA a_me a_q1 a_one a_two a_length a_draught a_one_cells a_two_cells a_length_cells a_draught_cells a_q1_letters a_q1_reader a_q1_letters_cells z.1 z.2.1 z.2.2.1 z.2.2.2.1 z.2.2.2.2.1 z.2.2.2.2.2.1 z.2.2.2.2.2.2 c_q1_length c_q1_letters)) (hk14 : ∀ (c_galleries : Int32) (c_doors : Int32) (c_one : A32) (c_two : A32) (c_length : A32) (v2 : Int32) (v3 : Int32), k14 c_galleries c_doors c_one c_two c_length v2 v3 = some z → G p l e rm_X5_readFrom s m args below meth c D A 4 0 0 Q 14 [(0, .ref a_me), (1, .ref a_q1), (2, .int v2), (3, .int v3)] [] (w_X5_readFrom cA a_me a_q1 a_one a_two a_length a_draught a_one_cells a_two_cells a_length_cells a_draught_cells a_q1_letters a_q1_reader a_q1_letters_cells c_galleries c_doors c_shafts c_one c_two c_length c_draught c_q1_length c_q1_letters)) (h : f_X5_readFrom_b123 k14 c_galleries c_doors c_shafts c_one c_two c_length c_draught c_q1_length c_q1_letters v2 v3 = some z) : G p l e rm_X5_readFrom s m args below meth c D A 4 0 0 Q 123 [(0, .ref a_me), (1, .ref a_q1), (2, .int v2), (3, .int v3)] [] (w_X5_readFrom cA a_me a_q1 a_one a_two a_length a_draught a_one_cells a_two_cells a_length_cells a_draught_cells a_q1_letters a_q1_reader a_q1_letters_cells c_galleries c_doors c_shafts c_one c_two c_length c_draught c_q1_length c_q1_letters) := by
  have h : (nam (v2 + 1) fun v2_1 => nam (v3 + 1) fun v3_2 => k14 c_galleries c_doors c_one c_two c_length v2_1 v3_2 : Option (Int32 × Int32 × Int32 × A32 × A32 × A32 × A32)) = some z := h
  obtain ⟨v2_1, ev2_1, h⟩ := nam_s h
  refine g_iinc (v := v2_1) (lv' := [(2, .int v2_1), (0, .ref a_me), (1, .ref a_q1), (3, .int v3)]) X 2 rfl (by rw [ev2_1]; rfl) (by decide) rfl dX5_readFrom_123 rfl ?_
  obtain ⟨v3_2, ev3_2, h⟩ := nam_s h
  refine g_iinc (v := v3_2) (lv' := [(3, .int v3_2), (2, .int v2_1), (0, .ref a_me), (1, .ref a_q1)]) X 3 rfl (by rw [ev3_2]; rfl) (by decide) rfl dX5_readFrom_126 rfl ?_
  refine g_goto (tgt := 14) X dX5_readFrom_129 (by decide) ?_
  refine g_lvs [2, 3, 1, 0] rfl ?_
  exact hk14 _ _ _ _ _ _ _ h
set_option maxHeartbeats 4000000 in
set_option maxRecDepth 100000 in
theorem t_X5_readFrom_b39 {l : Launch} {D : va_G} {cA : ClassId} {p : Program} {e : Env} {s : State} {m : MethodId} {args : Array Value} {below : List Frame} {meth : Method} {c : Code} {A : Nat → Prop} {Q : State → Prop} {z : Int32 × Int32 × Int32 × A32 × A32 × A32 × A32} {a_me a_q1 a_one a_two a_length a_draught a_one_cells a_two_cells a_length_cells a_draught_cells a_q1_letters a_q1_reader a_q1_letters_cells : Nat}   {c_galleries : Int32} {c_doors : Int32} {c_shafts : Int32} {c_one : A32} {c_two : A32} {c_length : A32} {c_draught : A32} {c_q1_length : Int32} {c_q1_letters : A32} {v2 : Int32} {v3 : Int32} {k14 : Int32 → Int32 → A32 → A32 → A32 → Int32 → Int32 → Option (Int32 × Int32 × Int32 × A32 × A32 × A32 × A32)} (X : GX p s m args c cX5_readFrom RX5 wsX5_readFrom D cA A 4) (hret : RtV p l e rm_X5_readFrom s m args below meth c cX5_readFrom D A 4 0 0 Q (w_X5_readFrom cA a_me a_q1 a_one a_two a_length a_draught a_one_cells a_two_cells a_length_cells a_draught_cells a_q1_letters a_q1_reader a_q1_letters_cells z.1 z.2.1 z.2.2.1 z.2.2.2.1 z.2.2.2.2.1 z.2.2.2.2.2.1 z.2.2.2.2.2.2 c_q1_length c_q1_letters)) (hk14 : ∀ (c_galleries : Int32) (c_doors : Int32) (c_one : A32) (c_two : A32) (c_length : A32) (v2 : Int32) (v3 : Int32), k14 c_galleries c_doors c_one c_two c_length v2 v3 = some z → G p l e rm_X5_readFrom s m args below meth c D A 4 0 0 Q 14 [(0, .ref a_me), (1, .ref a_q1), (2, .int v2), (3, .int v3)] [] (w_X5_readFrom cA a_me a_q1 a_one a_two a_length a_draught a_one_cells a_two_cells a_length_cells a_draught_cells a_q1_letters a_q1_reader a_q1_letters_cells c_galleries c_doors c_shafts c_one c_two c_length c_draught c_q1_length c_q1_letters)) (h : f_X5_readFrom_b39 k14 c_galleries c_doors c_shafts c_one c_two c_length c_draught c_q1_length c_q1_letters v2 v3 = some z) : G p l e rm_X5_readFrom s m args below meth c D A 4 0 0 Q 39 [(0, .ref a_me), (1, .ref a_q1), (2, .int v2), (3, .int v3)] [] (w_X5_readFrom cA a_me a_q1 a_one a_two a_length a_draught a_one_cells a_two_cells a_length_cells a_draught_cells a_q1_letters a_q1_reader a_q1_letters_cells c_galleries c_doors c_shafts c_one c_two c_length c_draught c_q1_length c_q1_letters) := by
  have h : (Option.bind (f_X4_digit c_q1_letters v2) fun z_1 => Option.bind (f_X8_set 10 c_one v3 z_1) fun z_2 => Option.bind (f_X4_digit c_q1_letters (v2 + 1)) fun z_3 => Option.bind (f_X8_set 10 c_two v3 z_3) fun z_4 => Option.bind (f_X4_digit c_q1_letters (v2 + 2)) fun z_5 => Option.bind (f_X8_set 10 c_length v3 z_5) fun z_6 => nam (c_galleries + 1) fun w_7 => nam (v2 + 3) fun v2_8 => Option.bind (f_X8_get 66 c_q1_letters v2_8) fun z_9 => if z_9 = 100 then nam (c_doors ||| (1 <<< (v3 &&& 31))) fun w_11 => nam (v2_8 + 1) fun v2_12 => f_X5_readFrom_b123 k14 w_7 w_11 c_shafts z_2 z_4 z_6 c_draught c_q1_length c_q1_letters v2_12 v3 else f_X5_readFrom_b123 k14 w_7 c_doors c_shafts z_2 z_4 z_6 c_draught c_q1_length c_q1_letters v2_8 v3 : Option (Int32 × Int32 × Int32 × A32 × A32 × A32 × A32)) = some z := h
  refine g_aload_n X 0 rfl rfl dX5_readFrom_39 rfl ?_
  refine g_getf (C := RX5) (T := TX5) (N := 7) (v := .ref a_one) X 0 rfl vc_X5 1 (by decide) iw_X5_readFrom_X5 fl_X5_readFrom_X5_1 rfl rfl dX5_readFrom_40 rfl ?_
  refine g_iload_n X 3 rfl rfl dX5_readFrom_43 rfl ?_
  refine g_aload_n X 1 rfl rfl dX5_readFrom_44 rfl ?_
  refine g_iload_n X 2 rfl rfl dX5_readFrom_45 rfl ?_
  obtain ⟨z_1, hz_1, h⟩ := bnd_s h
  refine g_callVI (rm := rm_X4_digit) (As := [.int v2]) (r := z_1) (W0 := (w_X4_digit cA a_q1 a_q1_letters a_q1_reader a_q1_letters_cells c_q1_length c_q1_letters)) (W1 := (w_X4_digit cA a_q1 a_q1_letters a_q1_reader a_q1_letters_cells c_q1_length c_q1_letters)) (isC := [9, 10, 11]) (isR := [0, 1, 2, 3, 4, 5, 6, 7, 8]) (perm := [0, 1, 2, 3, 4, 5, 6, 7, 8, 9, 10, 11]) (ws' := (w_X5_readFrom cA a_me a_q1 a_one a_two a_length a_draught a_one_cells a_two_cells a_length_cells a_draught_cells a_q1_letters a_q1_reader a_q1_letters_cells c_galleries c_doors c_shafts c_one c_two c_length c_draught c_q1_length c_q1_letters)) X (c_X4_digit l D cA a_q1 a_q1_letters a_q1_reader a_q1_letters_cells c_q1_length c_q1_letters v2 _ hz_1) 9 rfl rfl rfl gX5_readFrom_X4_digit rfl rfl rfl ⟨rfl, hd_X4_digit⟩ ⟨Nat.le_of_ble_eq_true rfl, Nat.le_of_ble_eq_true rfl⟩ rfl rfl (Nat.le_of_ble_eq_true rfl) rfl (by decide +kernel) rfl (by decide +kernel) (by decide +kernel) ⟨Nat.zero_le _, Nat.zero_le _⟩ rfl (by decide +kernel) dX5_readFrom_46 rfl ?_
  obtain ⟨z_2, hz_2, h⟩ := bnd_s h
  refine g_callVV (rm := rm_X8_set) (As := [.int v3, .int z_1]) (W0 := (w_X8_set cA a_one a_one_cells 10 c_one)) (W1 := (w_X8_set cA a_one a_one_cells 10 z_2)) (isC := [1, 2]) (isR := [0, 3, 4, 5, 6, 7, 8, 9, 10, 11]) (perm := [0, 10, 11, 1, 2, 3, 4, 5, 6, 7, 8, 9]) (ws' := (w_X5_readFrom cA a_me a_q1 a_one a_two a_length a_draught a_one_cells a_two_cells a_length_cells a_draught_cells a_q1_letters a_q1_reader a_q1_letters_cells c_galleries c_doors c_shafts z_2 c_two c_length c_draught c_q1_length c_q1_letters)) X (c_X8_set l D cA a_one a_one_cells 10 c_one v3 z_1 _ hz_2) 1 rfl rfl rfl gX5_readFrom_X8_set rfl rfl rfl ⟨rfl, hd_X8_set⟩ ⟨Nat.le_of_ble_eq_true rfl, Nat.le_of_ble_eq_true rfl⟩ rfl rfl (Nat.le_of_ble_eq_true rfl) rfl (by decide +kernel) rfl (by decide +kernel) (by decide +kernel) ⟨Nat.zero_le _, Nat.zero_le _⟩ rfl (by decide +kernel) dX5_readFrom_49 rfl ?_
  refine g_aload_n X 0 rfl rfl dX5_readFrom_52 rfl ?_
  refine g_getf (C := RX5) (T := TX5) (N := 7) (v := .ref a_two) X 0 rfl vc_X5 2 (by decide) iw_X5_readFrom_X5 fl_X5_readFrom_X5_2 rfl rfl dX5_readFrom_53 rfl ?_
  refine g_iload_n X 3 rfl rfl dX5_readFrom_56 rfl ?_
  refine g_aload_n X 1 rfl rfl dX5_readFrom_57 rfl ?_
  refine g_iload_n X 2 rfl rfl dX5_readFrom_58 rfl ?_
  refine g_iconst (v := 1) X dX5_readFrom_59 (by decide) rfl ?_
  refine g_iadd X dX5_readFrom_60 rfl ?_
  obtain ⟨z_3, hz_3, h⟩ := bnd_s h
  refine g_callVI (rm := rm_X4_digit) (As := [.int (v2 + 1)]) (r := z_3) (W0 := (w_X4_digit cA a_q1 a_q1_letters a_q1_reader a_q1_letters_cells c_q1_length c_q1_letters)) (W1 := (w_X4_digit cA a_q1 a_q1_letters a_q1_reader a_q1_letters_cells c_q1_length c_q1_letters)) (isC := [9, 10, 11]) (isR := [0, 1, 2, 3, 4, 5, 6, 7, 8]) (perm := [0, 1, 2, 3, 4, 5, 6, 7, 8, 9, 10, 11]) (ws' := (w_X5_readFrom cA a_me a_q1 a_one a_two a_length a_draught a_one_cells a_two_cells a_length_cells a_draught_cells a_q1_letters a_q1_reader a_q1_letters_cells c_galleries c_doors c_shafts z_2 c_two c_length c_draught c_q1_length c_q1_letters)) X (c_X4_digit l D cA a_q1 a_q1_letters a_q1_reader a_q1_letters_cells c_q1_length c_q1_letters (v2 + 1) _ hz_3) 9 rfl rfl rfl gX5_readFrom_X4_digit rfl rfl rfl ⟨rfl, hd_X4_digit⟩ ⟨Nat.le_of_ble_eq_true rfl, Nat.le_of_ble_eq_true rfl⟩ rfl rfl (Nat.le_of_ble_eq_true rfl) rfl (by decide +kernel) rfl (by decide +kernel) (by decide +kernel) ⟨Nat.zero_le _, Nat.zero_le _⟩ rfl (by decide +kernel) dX5_readFrom_61 rfl ?_
  obtain ⟨z_4, hz_4, h⟩ := bnd_s h
  refine g_callVV (rm := rm_X8_set) (As := [.int v3, .int z_3]) (W0 := (w_X8_set cA a_two a_two_cells 10 c_two)) (W1 := (w_X8_set cA a_two a_two_cells 10 z_4)) (isC := [3, 4]) (isR := [0, 1, 2, 5, 6, 7, 8, 9, 10, 11]) (perm := [0, 1, 2, 10, 11, 3, 4, 5, 6, 7, 8, 9]) (ws' := (w_X5_readFrom cA a_me a_q1 a_one a_two a_length a_draught a_one_cells a_two_cells a_length_cells a_draught_cells a_q1_letters a_q1_reader a_q1_letters_cells c_galleries c_doors c_shafts z_2 z_4 c_length c_draught c_q1_length c_q1_letters)) X (c_X8_set l D cA a_two a_two_cells 10 c_two v3 z_3 _ hz_4) 3 rfl rfl rfl gX5_readFrom_X8_set rfl rfl rfl ⟨rfl, hd_X8_set⟩ ⟨Nat.le_of_ble_eq_true rfl, Nat.le_of_ble_eq_true rfl⟩ rfl rfl (Nat.le_of_ble_eq_true rfl) rfl (by decide +kernel) rfl (by decide +kernel) (by decide +kernel) ⟨Nat.zero_le _, Nat.zero_le _⟩ rfl (by decide +kernel) dX5_readFrom_64 rfl ?_
  refine g_aload_n X 0 rfl rfl dX5_readFrom_67 rfl ?_
  refine g_getf (C := RX5) (T := TX5) (N := 7) (v := .ref a_length) X 0 rfl vc_X5 3 (by decide) iw_X5_readFrom_X5 fl_X5_readFrom_X5_3 rfl rfl dX5_readFrom_68 rfl ?_
  refine g_iload_n X 3 rfl rfl dX5_readFrom_71 rfl ?_
  refine g_aload_n X 1 rfl rfl dX5_readFrom_72 rfl ?_
  refine g_iload_n X 2 rfl rfl dX5_readFrom_73 rfl ?_
  refine g_iconst (v := 2) X dX5_readFrom_74 (by decide) rfl ?_
  refine g_iadd X dX5_readFrom_75 rfl ?_
  obtain ⟨z_5, hz_5, h⟩ := bnd_s h
  refine g_callVI (rm := rm_X4_digit) (As := [.int (v2 + 2)]) (r := z_5) (W0 := (w_X4_digit cA a_q1 a_q1_letters a_q1_reader a_q1_letters_cells c_q1_length c_q1_letters)) (W1 := (w_X4_digit cA a_q1 a_q1_letters a_q1_reader a_q1_letters_cells c_q1_length c_q1_letters)) (isC := [9, 10, 11]) (isR := [0, 1, 2, 3, 4, 5, 6, 7, 8]) (perm := [0, 1, 2, 3, 4, 5, 6, 7, 8, 9, 10, 11]) (ws' := (w_X5_readFrom cA a_me a_q1 a_one a_two a_length a_draught a_one_cells a_two_cells a_length_cells a_draught_cells a_q1_letters a_q1_reader a_q1_letters_cells c_galleries c_doors c_shafts z_2 z_4 c_length c_draught c_q1_length c_q1_letters)) X (c_X4_digit l D cA a_q1 a_q1_letters a_q1_reader a_q1_letters_cells c_q1_length c_q1_letters (v2 + 2) _ hz_5) 9 rfl rfl rfl gX5_readFrom_X4_digit rfl rfl rfl ⟨rfl, hd_X4_digit⟩ ⟨Nat.le_of_ble_eq_true rfl, Nat.le_of_ble_eq_true rfl⟩ rfl rfl (Nat.le_of_ble_eq_true rfl) rfl (by decide +kernel) rfl (by decide +kernel) (by decide +kernel) ⟨Nat.zero_le _, Nat.zero_le _⟩ rfl (by decide +kernel) dX5_readFrom_76 rfl ?_
  obtain ⟨z_6, hz_6, h⟩ := bnd_s h
  refine g_callVV (rm := rm_X8_set) (As := [.int v3, .int z_5]) (W0 := (w_X8_set cA a_length a_length_cells 10 c_length)) (W1 := (w_X8_set cA a_length a_length_cells 10 z_6)) (isC := [5, 6]) (isR := [0, 1, 2, 3, 4, 7, 8, 9, 10, 11]) (perm := [0, 1, 2, 3, 4, 10, 11, 5, 6, 7, 8, 9]) (ws' := (w_X5_readFrom cA a_me a_q1 a_one a_two a_length a_draught a_one_cells a_two_cells a_length_cells a_draught_cells a_q1_letters a_q1_reader a_q1_letters_cells c_galleries c_doors c_shafts z_2 z_4 z_6 c_draught c_q1_length c_q1_letters)) X (c_X8_set l D cA a_length a_length_cells 10 c_length v3 z_5 _ hz_6) 5 rfl rfl rfl gX5_readFrom_X8_set rfl rfl rfl ⟨rfl, hd_X8_set⟩ ⟨Nat.le_of_ble_eq_true rfl, Nat.le_of_ble_eq_true rfl⟩ rfl rfl (Nat.le_of_ble_eq_true rfl) rfl (by decide +kernel) rfl (by decide +kernel) (by decide +kernel) ⟨Nat.zero_le _, Nat.zero_le _⟩ rfl (by decide +kernel) dX5_readFrom_79 rfl ?_
  refine g_aload_n X 0 rfl rfl dX5_readFrom_82 rfl ?_
  refine g_dup X dX5_readFrom_83 rfl rfl ?_
  refine g_getf (C := RX5) (T := TX5) (N := 7) (v := .int c_galleries) X 0 rfl vc_X5 0 (by decide) iw_X5_readFrom_X5 fl_X5_readFrom_X5_0 rfl rfl dX5_readFrom_84 rfl ?_
  refine g_iconst (v := 1) X dX5_readFrom_87 (by decide) rfl ?_
  refine g_iadd X dX5_readFrom_88 rfl ?_
  refine g_nami h (fun w_7 h => ?_)
  refine g_putf (C := RX5) (T := TX5) (N := 7) (ty := .int) (ws' := (w_X5_readFrom cA a_me a_q1 a_one a_two a_length a_draught a_one_cells a_two_cells a_length_cells a_draught_cells a_q1_letters a_q1_reader a_q1_letters_cells w_7 c_doors c_shafts z_2 z_4 z_6 c_draught c_q1_length c_q1_letters)) X 0 tyX5 tyX5_ok nmX5 rfl vc_X5 0 (by decide) iw_X5_readFrom_X5 fl_X5_readFrom_X5_0 rfl rfl pd_X5_0 rfl rfl (Nat.le_of_ble_eq_true rfl) rfl dX5_readFrom_89 rfl ?_
  obtain ⟨v2_8, ev2_8, h⟩ := nam_s h
  refine g_iinc (v := v2_8) (lv' := [(2, .int v2_8), (0, .ref a_me), (1, .ref a_q1), (3, .int v3)]) X 2 rfl (by rw [ev2_8]; rfl) (by decide) rfl dX5_readFrom_92 rfl ?_
  refine g_aload_n X 2 rfl rfl dX5_readFrom_95 rfl ?_
  refine g_getf (C := RX4) (T := TX4) (N := 3) (v := .ref a_q1_letters) X 9 rfl vc_X4 0 (by decide) iw_X5_readFrom_X4 fl_X5_readFrom_X4_0 rfl rfl dX5_readFrom_96 rfl ?_
  refine g_iload_n X 0 rfl rfl dX5_readFrom_99 rfl ?_
  obtain ⟨z_9, hz_9, h⟩ := bnd_s h
  refine g_callVI (rm := rm_X8_get) (As := [.int v2_8]) (r := z_9) (W0 := (w_X8_get cA a_q1_letters a_q1_letters_cells 66 c_q1_letters)) (W1 := (w_X8_get cA a_q1_letters a_q1_letters_cells 66 c_q1_letters)) (isC := [10, 11]) (isR := [0, 1, 2, 3, 4, 5, 6, 7, 8, 9]) (perm := [0, 1, 2, 3, 4, 5, 6, 7, 8, 9, 10, 11]) (ws' := (w_X5_readFrom cA a_me a_q1 a_one a_two a_length a_draught a_one_cells a_two_cells a_length_cells a_draught_cells a_q1_letters a_q1_reader a_q1_letters_cells w_7 c_doors c_shafts z_2 z_4 z_6 c_draught c_q1_length c_q1_letters)) X (c_X8_get l D cA a_q1_letters a_q1_letters_cells 66 c_q1_letters v2_8 _ hz_9) 10 rfl rfl rfl gX5_readFrom_X8_get rfl rfl rfl ⟨rfl, hd_X8_get⟩ ⟨Nat.le_of_ble_eq_true rfl, Nat.le_of_ble_eq_true rfl⟩ rfl rfl (Nat.le_of_ble_eq_true rfl) rfl (by decide +kernel) rfl (by decide +kernel) (by decide +kernel) ⟨Nat.zero_le _, Nat.zero_le _⟩ rfl (by decide +kernel) dX5_readFrom_100 rfl ?_
  refine g_bipush (v := 100) X dX5_readFrom_103 (by decide) rfl ?_
  refine g_icmp_ne (tgt := 123) X dX5_readFrom_105 (by decide) rfl h (fun c_10 h => ?_) (fun c_10 h => ?_)
  · refine g_lvs [1, 2, 0, 3] rfl ?_
    exact t_X5_readFrom_b123 X hret hk14 h
  · refine g_aload_n X 1 rfl rfl dX5_readFrom_108 rfl ?_
    refine g_dup X dX5_readFrom_109 rfl rfl ?_
    refine g_getf (C := RX5) (T := TX5) (N := 7) (v := .int c_doors) X 0 rfl vc_X5 4 (by decide) iw_X5_readFrom_X5 fl_X5_readFrom_X5_4 rfl rfl dX5_readFrom_110 rfl ?_
    refine g_iconst (v := 1) X dX5_readFrom_113 (by decide) rfl ?_
    refine g_iload_n X 3 rfl rfl dX5_readFrom_114 rfl ?_
    refine g_ishl X dX5_readFrom_115 rfl ?_
    refine g_ior X dX5_readFrom_116 rfl ?_
    refine g_nami h (fun w_11 h => ?_)
    refine g_putf (C := RX5) (T := TX5) (N := 7) (ty := .int) (ws' := (w_X5_readFrom cA a_me a_q1 a_one a_two a_length a_draught a_one_cells a_two_cells a_length_cells a_draught_cells a_q1_letters a_q1_reader a_q1_letters_cells w_7 w_11 c_shafts z_2 z_4 z_6 c_draught c_q1_length c_q1_letters)) X 0 tyX5 tyX5_ok nmX5 rfl vc_X5 4 (by decide) iw_X5_readFrom_X5 fl_X5_readFrom_X5_4 rfl rfl pd_X5_4 rfl rfl (Nat.le_of_ble_eq_true rfl) rfl dX5_readFrom_117 rfl ?_
    obtain ⟨v2_12, ev2_12, h⟩ := nam_s h
    refine g_iinc (v := v2_12) (lv' := [(2, .int v2_12), (0, .ref a_me), (1, .ref a_q1), (3, .int v3)]) X 0 rfl (by rw [ev2_12]; rfl) (by decide) rfl dX5_readFrom_120 rfl ?_
    refine g_lvs [1, 2, 0, 3] rfl ?_
    exact t_X5_readFrom_b123 X hret hk14 h
set_option maxHeartbeats 4000000 in
set_option maxRecDepth 100000 in
theorem t_X5_readFrom_b132 {l : Launch} {D : va_G} {cA : ClassId} {p : Program} {e : Env} {s : State} {m : MethodId} {args : Array Value} {below : List Frame} {meth : Method} {c : Code} {A : Nat → Prop} {Q : State → Prop} {z : Int32 × Int32 × Int32 × A32 × A32 × A32 × A32} {a_me a_q1 a_one a_two a_length a_draught a_one_cells a_two_cells a_length_cells a_draught_cells a_q1_letters a_q1_reader a_q1_letters_cells : Nat}   {c_galleries : Int32} {c_doors : Int32} {c_shafts : Int32} {c_one : A32} {c_two : A32} {c_length : A32} {c_draught : A32} {c_q1_length : Int32} {c_q1_letters : A32} {v2 : Int32}  (X : GX p s m args c cX5_readFrom RX5 wsX5_readFrom D cA A 4) (hret : RtV p l e rm_X5_readFrom s m args below meth c cX5_readFrom D A 4 0 0 Q (w_X5_readFrom cA a_me a_q1 a_one a_two a_length a_draught a_one_cells a_two_cells a_length_cells a_draught_cells a_q1_letters a_q1_reader a_q1_letters_cells z.1 z.2.1 z.2.2.1 z.2.2.2.1 z.2.2.2.2.1 z.2.2.2.2.2.1 z.2.2.2.2.2.2 c_q1_length c_q1_letters))  (h : f_X5_readFrom_b132 c_galleries c_doors c_shafts c_one c_two c_length c_draught c_q1_length c_q1_letters v2 = some z) : G p l e rm_X5_readFrom s m args below meth c D A 4 0 0 Q 132 [(0, .ref a_me), (1, .ref a_q1), (2, .int v2)] [] (w_X5_readFrom cA a_me a_q1 a_one a_two a_length a_draught a_one_cells a_two_cells a_length_cells a_draught_cells a_q1_letters a_q1_reader a_q1_letters_cells c_galleries c_doors c_shafts c_one c_two c_length c_draught c_q1_length c_q1_letters) := by
  have h : (Option.bind (f_X5_readShafts c_shafts c_draught c_q1_length c_q1_letters v2) fun z_1 => some (c_galleries, c_doors, z_1.1, c_one, c_two, c_length, z_1.2) : Option (Int32 × Int32 × Int32 × A32 × A32 × A32 × A32)) = some z := h
  refine g_aload_n X 0 rfl rfl dX5_readFrom_132 rfl ?_
  refine g_aload_n X 1 rfl rfl dX5_readFrom_133 rfl ?_
  refine g_iload_n X 2 rfl rfl dX5_readFrom_134 rfl ?_
  obtain ⟨z_1, hz_1, h⟩ := bnd_s h
  refine g_callVV (rm := rm_X5_readShafts) (As := [.ref a_q1, .int v2]) (W0 := (w_X5_readShafts cA a_me a_q1 a_one a_two a_length a_draught a_draught_cells a_q1_letters a_q1_reader a_q1_letters_cells c_galleries c_doors c_shafts c_draught c_q1_length c_q1_letters)) (W1 := (w_X5_readShafts cA a_me a_q1 a_one a_two a_length a_draught a_draught_cells a_q1_letters a_q1_reader a_q1_letters_cells c_galleries c_doors z_1.1 z_1.2 c_q1_length c_q1_letters)) (isC := [0, 7, 8, 9, 10, 11]) (isR := [1, 2, 3, 4, 5, 6]) (perm := [6, 0, 1, 2, 3, 4, 5, 7, 8, 9, 10, 11]) (ws' := (w_X5_readFrom cA a_me a_q1 a_one a_two a_length a_draught a_one_cells a_two_cells a_length_cells a_draught_cells a_q1_letters a_q1_reader a_q1_letters_cells c_galleries c_doors z_1.1 c_one c_two c_length z_1.2 c_q1_length c_q1_letters)) X (c_X5_readShafts l D cA a_me a_q1 a_one a_two a_length a_draught a_draught_cells a_q1_letters a_q1_reader a_q1_letters_cells c_galleries c_doors c_shafts c_draught c_q1_length c_q1_letters v2 _ hz_1) 0 rfl rfl rfl gX5_readFrom_X5_readShafts rfl rfl rfl ⟨rfl, hd_X5_readShafts⟩ ⟨Nat.le_of_ble_eq_true rfl, Nat.le_of_ble_eq_true rfl⟩ rfl rfl (Nat.le_of_ble_eq_true rfl) rfl (by decide +kernel) rfl (by decide +kernel) (by decide +kernel) ⟨Nat.zero_le _, Nat.zero_le _⟩ rfl (by decide +kernel) dX5_readFrom_135 rfl ?_
  cases Option.some.inj h
  exact hret _ _ dX5_readFrom_138
set_option maxHeartbeats 4000000 in
set_option maxRecDepth 100000 in
theorem t_X5_readFrom_b14 {l : Launch} {D : va_G} {cA : ClassId} {p : Program} {e : Env} {s : State} {m : MethodId} {args : Array Value} {below : List Frame} {meth : Method} {c : Code} {A : Nat → Prop} {Q : State → Prop} {z : Int32 × Int32 × Int32 × A32 × A32 × A32 × A32} {a_me a_q1 a_one a_two a_length a_draught a_one_cells a_two_cells a_length_cells a_draught_cells a_q1_letters a_q1_reader a_q1_letters_cells : Nat}   {c_shafts : Int32} {c_draught : A32} {c_q1_length : Int32} {c_q1_letters : A32}  (X : GX p s m args c cX5_readFrom RX5 wsX5_readFrom D cA A 4) (hret : RtV p l e rm_X5_readFrom s m args below meth c cX5_readFrom D A 4 0 0 Q (w_X5_readFrom cA a_me a_q1 a_one a_two a_length a_draught a_one_cells a_two_cells a_length_cells a_draught_cells a_q1_letters a_q1_reader a_q1_letters_cells z.1 z.2.1 z.2.2.1 z.2.2.2.1 z.2.2.2.2.1 z.2.2.2.2.2.1 z.2.2.2.2.2.2 c_q1_length c_q1_letters))  : ∀ (fu : Nat) (c_galleries : Int32) (c_doors : Int32) (c_one : A32) (c_two : A32) (c_length : A32) (v2 : Int32) (v3 : Int32), f_X5_readFrom_b14 c_shafts c_draught c_q1_length c_q1_letters fu c_galleries c_doors c_one c_two c_length v2 v3 = some z → G p l e rm_X5_readFrom s m args below meth c D A 4 0 0 Q 14 [(0, .ref a_me), (1, .ref a_q1), (2, .int v2), (3, .int v3)] [] (w_X5_readFrom cA a_me a_q1 a_one a_two a_length a_draught a_one_cells a_two_cells a_length_cells a_draught_cells a_q1_letters a_q1_reader a_q1_letters_cells c_galleries c_doors c_shafts c_one c_two c_length c_draught c_q1_length c_q1_letters) := by
  intro fu
  induction fu with
  | zero => intro c_galleries c_doors c_one c_two c_length v2 v3 h; exact absurd (show (none : Option (Int32 × Int32 × Int32 × A32 × A32 × A32 × A32)) = some z from h) (by simp)
  | succ fu ih =>
    intro c_galleries c_doors c_one c_two c_length v2 v3 h
    have h : (if 10 ≤ v3 then f_X5_readFrom_b132 c_galleries c_doors c_shafts c_one c_two c_length c_draught c_q1_length c_q1_letters v2 else if v2 = 0 then f_X5_readFrom_b39 (f_X5_readFrom_b14 c_shafts c_draught c_q1_length c_q1_letters fu) c_galleries c_doors c_shafts c_one c_two c_length c_draught c_q1_length c_q1_letters v2 v3 else Option.bind (f_X8_get 66 c_q1_letters (v2 - 1)) fun z_3 => if z_3 = 44 then f_X5_readFrom_b39 (f_X5_readFrom_b14 c_shafts c_draught c_q1_length c_q1_letters fu) c_galleries c_doors c_shafts c_one c_two c_length c_draught c_q1_length c_q1_letters v2 v3 else f_X5_readFrom_b132 c_galleries c_doors c_shafts c_one c_two c_length c_draught c_q1_length c_q1_letters v2 : Option (Int32 × Int32 × Int32 × A32 × A32 × A32 × A32)) = some z := h
    refine g_iload_n X 3 rfl rfl dX5_readFrom_14 rfl ?_
    refine g_bipush (v := 10) X dX5_readFrom_15 (by decide) rfl ?_
    refine g_icmp_ge (tgt := 132) X dX5_readFrom_17 (by decide) rfl h (fun c_1 h => ?_) (fun c_1 h => ?_)
    · refine g_lvs [0, 1, 2] rfl ?_
      exact t_X5_readFrom_b132 X hret h
    · refine g_iload_n X 2 rfl rfl dX5_readFrom_20 rfl ?_
      refine g_if_eq (tgt := 39) X dX5_readFrom_21 (by decide) rfl h (fun c_2 h => ?_) (fun c_2 h => ?_)
      · exact t_X5_readFrom_b39 X hret ih h
      · refine g_aload_n X 1 rfl rfl dX5_readFrom_24 rfl ?_
        refine g_getf (C := RX4) (T := TX4) (N := 3) (v := .ref a_q1_letters) X 9 rfl vc_X4 0 (by decide) iw_X5_readFrom_X4 fl_X5_readFrom_X4_0 rfl rfl dX5_readFrom_25 rfl ?_
        refine g_iload_n X 2 rfl rfl dX5_readFrom_28 rfl ?_
        refine g_iconst (v := 1) X dX5_readFrom_29 (by decide) rfl ?_
        refine g_isub X dX5_readFrom_30 rfl ?_
        obtain ⟨z_3, hz_3, h⟩ := bnd_s h
        refine g_callVI (rm := rm_X8_get) (As := [.int (v2 - 1)]) (r := z_3) (W0 := (w_X8_get cA a_q1_letters a_q1_letters_cells 66 c_q1_letters)) (W1 := (w_X8_get cA a_q1_letters a_q1_letters_cells 66 c_q1_letters)) (isC := [10, 11]) (isR := [0, 1, 2, 3, 4, 5, 6, 7, 8, 9]) (perm := [0, 1, 2, 3, 4, 5, 6, 7, 8, 9, 10, 11]) (ws' := (w_X5_readFrom cA a_me a_q1 a_one a_two a_length a_draught a_one_cells a_two_cells a_length_cells a_draught_cells a_q1_letters a_q1_reader a_q1_letters_cells c_galleries c_doors c_shafts c_one c_two c_length c_draught c_q1_length c_q1_letters)) X (c_X8_get l D cA a_q1_letters a_q1_letters_cells 66 c_q1_letters (v2 - 1) _ hz_3) 10 rfl rfl rfl gX5_readFrom_X8_get rfl rfl rfl ⟨rfl, hd_X8_get⟩ ⟨Nat.le_of_ble_eq_true rfl, Nat.le_of_ble_eq_true rfl⟩ rfl rfl (Nat.le_of_ble_eq_true rfl) rfl (by decide +kernel) rfl (by decide +kernel) (by decide +kernel) ⟨Nat.zero_le _, Nat.zero_le _⟩ rfl (by decide +kernel) dX5_readFrom_31 rfl ?_
        refine g_bipush (v := 44) X dX5_readFrom_34 (by decide) rfl ?_
        refine g_icmp_ne (tgt := 132) X dX5_readFrom_36 (by decide) rfl h (fun c_4 h => ?_) (fun c_4 h => ?_)
        · refine g_lvs [0, 1, 2] rfl ?_
          exact t_X5_readFrom_b132 X hret h
        · exact t_X5_readFrom_b39 X hret ih h
set_option maxHeartbeats 4000000 in
set_option maxRecDepth 100000 in
theorem c_X5_readFrom (l : Launch) (D : va_G) (cA : ClassId) (a_me a_q1 a_one a_two a_length a_draught a_one_cells a_two_cells a_length_cells a_draught_cells a_q1_letters a_q1_reader a_q1_letters_cells : Nat)  (c_galleries : Int32) (c_doors : Int32) (c_shafts : Int32) (c_one : A32) (c_two : A32) (c_length : A32) (c_draught : A32) (c_q1_length : Int32) (c_q1_letters : A32) (z : Int32 × Int32 × Int32 × A32 × A32 × A32 × A32) (h : f_X5_readFrom c_galleries c_doors c_shafts c_one c_two c_length c_draught c_q1_length c_q1_letters = some z) : CtV l yX5_readFrom wsX5_readFrom rm_X5_readFrom D cA [.ref a_me, .ref a_q1] (w_X5_readFrom cA a_me a_q1 a_one a_two a_length a_draught a_one_cells a_two_cells a_length_cells a_draught_cells a_q1_letters a_q1_reader a_q1_letters_cells c_galleries c_doors c_shafts c_one c_two c_length c_draught c_q1_length c_q1_letters) Unit (fun _ => (w_X5_readFrom cA a_me a_q1 a_one a_two a_length a_draught a_one_cells a_two_cells a_length_cells a_draught_cells a_q1_letters a_q1_reader a_q1_letters_cells z.1 z.2.1 z.2.2.1 z.2.2.2.1 z.2.2.2.2.1 z.2.2.2.2.2.1 z.2.2.2.2.2.2 c_q1_length c_q1_letters)) 0 0 := by
  refine ct_V (maxL := 4) (cc := cX5_readFrom) (by decide) rfl (Nat.le_of_ble_eq_true rfl) rfl (fun p e s m args below meth c A Q X _ hret => ?_)
  have hret := hret ()
  have h : (f_X5_readFrom_b14 c_shafts c_draught c_q1_length c_q1_letters FU 0 0 c_one c_two c_length 0 0 : Option (Int32 × Int32 × Int32 × A32 × A32 × A32 × A32)) = some z := h
  refine g_aload_n X 0 rfl rfl dX5_readFrom_0 rfl ?_
  refine g_iconst (v := 0) X dX5_readFrom_1 (by decide) rfl ?_
  refine g_putf (C := RX5) (T := TX5) (N := 7) (ty := .int) (ws' := (w_X5_readFrom cA a_me a_q1 a_one a_two a_length a_draught a_one_cells a_two_cells a_length_cells a_draught_cells a_q1_letters a_q1_reader a_q1_letters_cells 0 c_doors c_shafts c_one c_two c_length c_draught c_q1_length c_q1_letters)) X 0 tyX5 tyX5_ok nmX5 rfl vc_X5 0 (by decide) iw_X5_readFrom_X5 fl_X5_readFrom_X5_0 rfl rfl pd_X5_0 rfl rfl (Nat.le_of_ble_eq_true rfl) rfl dX5_readFrom_2 rfl ?_
  refine g_aload_n X 0 rfl rfl dX5_readFrom_5 rfl ?_
  refine g_iconst (v := 0) X dX5_readFrom_6 (by decide) rfl ?_
  refine g_putf (C := RX5) (T := TX5) (N := 7) (ty := .int) (ws' := (w_X5_readFrom cA a_me a_q1 a_one a_two a_length a_draught a_one_cells a_two_cells a_length_cells a_draught_cells a_q1_letters a_q1_reader a_q1_letters_cells 0 0 c_shafts c_one c_two c_length c_draught c_q1_length c_q1_letters)) X 0 tyX5 tyX5_ok nmX5 rfl vc_X5 4 (by decide) iw_X5_readFrom_X5 fl_X5_readFrom_X5_4 rfl rfl pd_X5_4 rfl rfl (Nat.le_of_ble_eq_true rfl) rfl dX5_readFrom_7 rfl ?_
  refine g_iconst (v := 0) X dX5_readFrom_10 (by decide) rfl ?_
  refine g_istore_n (lv' := [(2, .int 0), (0, .ref a_me), (1, .ref a_q1)]) X rfl (by decide) rfl dX5_readFrom_11 rfl ?_
  refine g_iconst (v := 0) X dX5_readFrom_12 (by decide) rfl ?_
  refine g_istore_n (lv' := [(3, .int 0), (2, .int 0), (0, .ref a_me), (1, .ref a_q1)]) X rfl (by decide) rfl dX5_readFrom_13 rfl ?_
  refine g_lvs [2, 3, 1, 0] rfl ?_
  exact t_X5_readFrom_b14 X hret _ _ _ _ _ _ _ _ h
abbrev rm_X5_isAt : Room := { frames := 1, cells := 0, slots := 0, locals := 21 }
theorem hd_X5_isAt : yX5_isAt.cls ≠ "java/lang/invoke/MethodHandle" ∧ yX5_isAt.cls ≠ "java/lang/invoke/VarHandle" ∧ (parseMethodDescriptor yX5_isAt.desc).map (fun d => d.parameters.length) = some 2 := by decide +kernel
theorem iw_X5_isAt_X5 : ∀ w ∈ wsX50, w ∈ wsX5_isAt := fun w h => List.mem_cons_of_mem _ (List.mem_append_left _ (List.mem_append_right _ h))
theorem fl_X5_isAt_X5_1 : Cond.fieldLink RX5 14 RX5 (TX5 1).2.1 (TX5 1).2.2.1 ∈ wsX5_isAt := List.mem_of_getElem? (i := 1) rfl
theorem fl_X5_isAt_X5_2 : Cond.fieldLink RX5 20 RX5 (TX5 2).2.1 (TX5 2).2.2.1 ∈ wsX5_isAt := List.mem_of_getElem? (i := 2) rfl
abbrev w_X5_isAt (cA : ClassId) (a_me a_one a_two a_length a_draught a_one_cells a_two_cells : Nat) (u_galleries : Int32) (u_doors : Int32) (u_shafts : Int32) (c_one : A32) (c_two : A32) : va_W := [(a_me, .inr (5, [.int u_galleries, .ref a_one, .ref a_two, .ref a_length, .int u_doors, .ref a_draught, .int u_shafts])), (a_one, .inr (8, [.ref a_one_cells])), (a_one_cells, .inl (cA, 10, .inl c_one)), (a_two, .inr (8, [.ref a_two_cells])), (a_two_cells, .inl (cA, 10, .inl c_two))]
set_option maxHeartbeats 4000000 in
set_option maxRecDepth 100000 in
theorem t_X5_isAt_b24 {l : Launch} {D : va_G} {cA : ClassId} {p : Program} {e : Env} {s : State} {m : MethodId} {args : Array Value} {below : List Frame} {meth : Method} {c : Code} {A : Nat → Prop} {Q : State → Prop} {z : Int32} {a_me a_one a_two a_length a_draught a_one_cells a_two_cells : Nat} {u_galleries : Int32} {u_doors : Int32} {u_shafts : Int32} {c_one : A32} {c_two : A32}   (X : GX p s m args c cX5_isAt RX5 wsX5_isAt D cA A 3) (hret : RtI p l e rm_X5_isAt s m args below meth c cX5_isAt D A 3 0 0 Q .boolean z (w_X5_isAt cA a_me a_one a_two a_length a_draught a_one_cells a_two_cells u_galleries u_doors u_shafts c_one c_two))  (h : f_X5_isAt_b24  = some z) : G p l e rm_X5_isAt s m args below meth c D A 3 0 0 Q 24 [] [] (w_X5_isAt cA a_me a_one a_two a_length a_draught a_one_cells a_two_cells u_galleries u_doors u_shafts c_one c_two) := by
  have h : (some 1 : Option (Int32)) = some z := h
  refine g_iconst (v := 1) X dX5_isAt_24 (by decide) rfl ?_
  refine g_goto (tgt := 29) X dX5_isAt_25 (by decide) ?_
  cases Option.some.inj h
  exact hret _ _ dX5_isAt_29 (nar_z (Or.inr rfl))
set_option maxHeartbeats 4000000 in
set_option maxRecDepth 100000 in
theorem c_X5_isAt (l : Launch) (D : va_G) (cA : ClassId) (a_me a_one a_two a_length a_draught a_one_cells a_two_cells : Nat) (u_galleries : Int32) (u_doors : Int32) (u_shafts : Int32) (c_one : A32) (c_two : A32) (v1 : Int32) (v2 : Int32) (z : Int32) (h : f_X5_isAt c_one c_two v1 v2 = some z) : CtI l yX5_isAt wsX5_isAt rm_X5_isAt D cA [.ref a_me, .int v1, .int v2] (w_X5_isAt cA a_me a_one a_two a_length a_draught a_one_cells a_two_cells u_galleries u_doors u_shafts c_one c_two) z (w_X5_isAt cA a_me a_one a_two a_length a_draught a_one_cells a_two_cells u_galleries u_doors u_shafts c_one c_two) := by
  refine ct_I (maxL := 3) (ty := .boolean) (cc := cX5_isAt) (by decide) rfl (Nat.le_of_ble_eq_true rfl) rfl (fun p e s m args below meth c A Q X hret => ?_)
  have h : (Option.bind (f_X8_get 10 c_one v1) fun z_1 => if z_1 = v2 then f_X5_isAt_b24  else Option.bind (f_X8_get 10 c_two v1) fun z_3 => if z_3 = v2 then f_X5_isAt_b24  else some 0 : Option (Int32)) = some z := h
  refine g_aload_n X 0 rfl rfl dX5_isAt_0 rfl ?_
  refine g_getf (C := RX5) (T := TX5) (N := 7) (v := .ref a_one) X 0 rfl vc_X5 1 (by decide) iw_X5_isAt_X5 fl_X5_isAt_X5_1 rfl rfl dX5_isAt_1 rfl ?_
  refine g_iload_n X 1 rfl rfl dX5_isAt_4 rfl ?_
  obtain ⟨z_1, hz_1, h⟩ := bnd_s h
  refine g_callVI (rm := rm_X8_get) (As := [.int v1]) (r := z_1) (W0 := (w_X8_get cA a_one a_one_cells 10 c_one)) (W1 := (w_X8_get cA a_one a_one_cells 10 c_one)) (isC := [1, 2]) (isR := [0, 3, 4]) (perm := [0, 3, 4, 1, 2]) (ws' := (w_X5_isAt cA a_me a_one a_two a_length a_draught a_one_cells a_two_cells u_galleries u_doors u_shafts c_one c_two)) X (c_X8_get l D cA a_one a_one_cells 10 c_one v1 _ hz_1) 1 rfl rfl rfl gX5_isAt_X8_get rfl rfl rfl ⟨rfl, hd_X8_get⟩ ⟨Nat.le_of_ble_eq_true rfl, Nat.le_of_ble_eq_true rfl⟩ rfl rfl (Nat.le_of_ble_eq_true rfl) rfl (by decide +kernel) rfl (by decide +kernel) (by decide +kernel) ⟨Nat.zero_le _, Nat.zero_le _⟩ rfl (by decide +kernel) dX5_isAt_5 rfl ?_
  refine g_iload_n X 2 rfl rfl dX5_isAt_8 rfl ?_
  refine g_icmp_eq (tgt := 24) X dX5_isAt_9 (by decide) rfl h (fun c_2 h => ?_) (fun c_2 h => ?_)
  · refine g_lvs [] rfl ?_
    exact t_X5_isAt_b24 X hret h
  · refine g_aload_n X 0 rfl rfl dX5_isAt_12 rfl ?_
    refine g_getf (C := RX5) (T := TX5) (N := 7) (v := .ref a_two) X 0 rfl vc_X5 2 (by decide) iw_X5_isAt_X5 fl_X5_isAt_X5_2 rfl rfl dX5_isAt_13 rfl ?_
    refine g_iload_n X 1 rfl rfl dX5_isAt_16 rfl ?_
    obtain ⟨z_3, hz_3, h⟩ := bnd_s h
    refine g_callVI (rm := rm_X8_get) (As := [.int v1]) (r := z_3) (W0 := (w_X8_get cA a_two a_two_cells 10 c_two)) (W1 := (w_X8_get cA a_two a_two_cells 10 c_two)) (isC := [3, 4]) (isR := [0, 1, 2]) (perm := [0, 1, 2, 3, 4]) (ws' := (w_X5_isAt cA a_me a_one a_two a_length a_draught a_one_cells a_two_cells u_galleries u_doors u_shafts c_one c_two)) X (c_X8_get l D cA a_two a_two_cells 10 c_two v1 _ hz_3) 3 rfl rfl rfl gX5_isAt_X8_get rfl rfl rfl ⟨rfl, hd_X8_get⟩ ⟨Nat.le_of_ble_eq_true rfl, Nat.le_of_ble_eq_true rfl⟩ rfl rfl (Nat.le_of_ble_eq_true rfl) rfl (by decide +kernel) rfl (by decide +kernel) (by decide +kernel) ⟨Nat.zero_le _, Nat.zero_le _⟩ rfl (by decide +kernel) dX5_isAt_17 rfl ?_
    refine g_iload_n X 2 rfl rfl dX5_isAt_20 rfl ?_
    refine g_icmp_ne (tgt := 28) X dX5_isAt_21 (by decide) rfl h (fun c_4 h => ?_) (fun c_4 h => ?_)
    · refine g_iconst (v := 0) X dX5_isAt_28 (by decide) rfl ?_
      cases Option.some.inj h
      exact hret _ _ dX5_isAt_29 (nar_z (Or.inl rfl))
    · refine g_lvs [] rfl ?_
      exact t_X5_isAt_b24 X hret h
abbrev rm_X5_galleriesAt : Room := { frames := 2, cells := 0, slots := 0, locals := 43 }
theorem hd_X5_galleriesAt : yX5_galleriesAt.cls ≠ "java/lang/invoke/MethodHandle" ∧ yX5_galleriesAt.cls ≠ "java/lang/invoke/VarHandle" ∧ (parseMethodDescriptor yX5_galleriesAt.desc).map (fun d => d.parameters.length) = some 2 := by decide +kernel
theorem iw_X5_galleriesAt_X5 : ∀ w ∈ wsX50, w ∈ wsX5_galleriesAt := fun w h => List.mem_cons_of_mem _ (List.mem_append_left _ (List.mem_append_right _ h))
theorem fl_X5_galleriesAt_X5_0 : Cond.fieldLink RX5 29 RX5 (TX5 0).2.1 (TX5 0).2.2.1 ∈ wsX5_galleriesAt := List.mem_of_getElem? (i := 1) rfl
abbrev w_X5_galleriesAt (cA : ClassId) (a_me a_one a_two a_length a_draught a_one_cells a_two_cells : Nat) (u_doors : Int32) (u_shafts : Int32) (c_galleries : Int32) (c_one : A32) (c_two : A32) : va_W := [(a_me, .inr (5, [.int c_galleries, .ref a_one, .ref a_two, .ref a_length, .int u_doors, .ref a_draught, .int u_shafts])), (a_one, .inr (8, [.ref a_one_cells])), (a_one_cells, .inl (cA, 10, .inl c_one)), (a_two, .inr (8, [.ref a_two_cells])), (a_two_cells, .inl (cA, 10, .inl c_two))]
set_option maxHeartbeats 4000000 in
set_option maxRecDepth 100000 in
theorem t_X5_galleriesAt_b33 {l : Launch} {D : va_G} {cA : ClassId} {p : Program} {e : Env} {s : State} {m : MethodId} {args : Array Value} {below : List Frame} {meth : Method} {c : Code} {A : Nat → Prop} {Q : State → Prop} {z : Int32} {a_me a_one a_two a_length a_draught a_one_cells a_two_cells : Nat} {u_doors : Int32} {u_shafts : Int32}  {c_galleries : Int32} {c_one : A32} {c_two : A32} {v1 : Int32} {v2 : Int32} {v3 : Int32} {v4 : Int32} {k5 : Int32 → Int32 → Option (Int32)} (X : GX p s m args c cX5_galleriesAt RX5 wsX5_galleriesAt D cA A 5) (hret : RtI p l e rm_X5_galleriesAt s m args below meth c cX5_galleriesAt D A 5 0 0 Q .int z (w_X5_galleriesAt cA a_me a_one a_two a_length a_draught a_one_cells a_two_cells u_doors u_shafts c_galleries c_one c_two)) (hk5 : ∀ (v3 : Int32) (v4 : Int32), k5 v3 v4 = some z → G p l e rm_X5_galleriesAt s m args below meth c D A 5 0 0 Q 5 [(0, .ref a_me), (1, .int v1), (2, .int v2), (3, .int v3), (4, .int v4)] [] (w_X5_galleriesAt cA a_me a_one a_two a_length a_draught a_one_cells a_two_cells u_doors u_shafts c_galleries c_one c_two)) (h : f_X5_galleriesAt_b33 k5 c_galleries c_one c_two v1 v2 v3 v4 = some z) : G p l e rm_X5_galleriesAt s m args below meth c D A 5 0 0 Q 33 [(0, .ref a_me), (1, .int v1), (2, .int v2), (3, .int v3), (4, .int v4)] [] (w_X5_galleriesAt cA a_me a_one a_two a_length a_draught a_one_cells a_two_cells u_doors u_shafts c_galleries c_one c_two) := by
  have h : (nam (v4 + 1) fun v4_1 => k5 v3 v4_1 : Option (Int32)) = some z := h
  obtain ⟨v4_1, ev4_1, h⟩ := nam_s h
  refine g_iinc (v := v4_1) (lv' := [(4, .int v4_1), (0, .ref a_me), (1, .int v1), (2, .int v2), (3, .int v3)]) X 4 rfl (by rw [ev4_1]; rfl) (by decide) rfl dX5_galleriesAt_33 rfl ?_
  refine g_goto (tgt := 5) X dX5_galleriesAt_36 (by decide) ?_
  refine g_lvs [1, 2, 3, 4, 0] rfl ?_
  exact hk5 _ _ h
set_option maxHeartbeats 4000000 in
set_option maxRecDepth 100000 in
theorem t_X5_galleriesAt_b5 {l : Launch} {D : va_G} {cA : ClassId} {p : Program} {e : Env} {s : State} {m : MethodId} {args : Array Value} {below : List Frame} {meth : Method} {c : Code} {A : Nat → Prop} {Q : State → Prop} {z : Int32} {a_me a_one a_two a_length a_draught a_one_cells a_two_cells : Nat} {u_doors : Int32} {u_shafts : Int32}  {c_galleries : Int32} {c_one : A32} {c_two : A32} {v1 : Int32} {v2 : Int32}  (X : GX p s m args c cX5_galleriesAt RX5 wsX5_galleriesAt D cA A 5) (hret : RtI p l e rm_X5_galleriesAt s m args below meth c cX5_galleriesAt D A 5 0 0 Q .int z (w_X5_galleriesAt cA a_me a_one a_two a_length a_draught a_one_cells a_two_cells u_doors u_shafts c_galleries c_one c_two))  : ∀ (fu : Nat) (v3 : Int32) (v4 : Int32), f_X5_galleriesAt_b5 c_galleries c_one c_two v1 v2 fu v3 v4 = some z → G p l e rm_X5_galleriesAt s m args below meth c D A 5 0 0 Q 5 [(0, .ref a_me), (1, .int v1), (2, .int v2), (3, .int v3), (4, .int v4)] [] (w_X5_galleriesAt cA a_me a_one a_two a_length a_draught a_one_cells a_two_cells u_doors u_shafts c_galleries c_one c_two) := by
  intro fu
  induction fu with
  | zero => intro v3 v4 h; exact absurd (show (none : Option (Int32)) = some z from h) (by simp)
  | succ fu ih =>
    intro v3 v4 h
    have h : (if c_galleries ≤ v4 then some v3 else Option.bind (f_X5_isAt c_one c_two v4 v1) fun z_2 => if z_2 = 0 then f_X5_galleriesAt_b33 (f_X5_galleriesAt_b5 c_galleries c_one c_two v1 v2 fu) c_galleries c_one c_two v1 v2 v3 v4 else nam (v3 ||| (v2 &&& (1 <<< (v4 &&& 31)))) fun v3_4 => f_X5_galleriesAt_b33 (f_X5_galleriesAt_b5 c_galleries c_one c_two v1 v2 fu) c_galleries c_one c_two v1 v2 v3_4 v4 : Option (Int32)) = some z := h
    refine g_iload X 4 rfl dX5_galleriesAt_5 rfl ?_
    refine g_aload_n X 0 rfl rfl dX5_galleriesAt_7 rfl ?_
    refine g_getf (C := RX5) (T := TX5) (N := 7) (v := .int c_galleries) X 0 rfl vc_X5 0 (by decide) iw_X5_galleriesAt_X5 fl_X5_galleriesAt_X5_0 rfl rfl dX5_galleriesAt_8 rfl ?_
    refine g_icmp_ge (tgt := 39) X dX5_galleriesAt_11 (by decide) rfl h (fun c_1 h => ?_) (fun c_1 h => ?_)
    · refine g_iload_n X 3 rfl rfl dX5_galleriesAt_39 rfl ?_
      cases Option.some.inj h
      exact hret _ _ dX5_galleriesAt_40 rfl
    · refine g_aload_n X 0 rfl rfl dX5_galleriesAt_14 rfl ?_
      refine g_iload X 4 rfl dX5_galleriesAt_15 rfl ?_
      refine g_iload_n X 1 rfl rfl dX5_galleriesAt_17 rfl ?_
      obtain ⟨z_2, hz_2, h⟩ := bnd_s h
      refine g_callVI (rm := rm_X5_isAt) (As := [.int v4, .int v1]) (r := z_2) (W0 := (w_X5_isAt cA a_me a_one a_two a_length a_draught a_one_cells a_two_cells c_galleries u_doors u_shafts c_one c_two)) (W1 := (w_X5_isAt cA a_me a_one a_two a_length a_draught a_one_cells a_two_cells c_galleries u_doors u_shafts c_one c_two)) (isC := [0, 1, 2, 3, 4]) (isR := []) (perm := [0, 1, 2, 3, 4]) (ws' := (w_X5_galleriesAt cA a_me a_one a_two a_length a_draught a_one_cells a_two_cells u_doors u_shafts c_galleries c_one c_two)) X (c_X5_isAt l D cA a_me a_one a_two a_length a_draught a_one_cells a_two_cells c_galleries u_doors u_shafts c_one c_two v4 v1 _ hz_2) 0 rfl rfl rfl gX5_galleriesAt_X5_isAt rfl rfl rfl ⟨rfl, hd_X5_isAt⟩ ⟨Nat.le_of_ble_eq_true rfl, Nat.le_of_ble_eq_true rfl⟩ rfl rfl (Nat.le_of_ble_eq_true rfl) rfl (by decide +kernel) rfl (by decide +kernel) (by decide +kernel) ⟨Nat.zero_le _, Nat.zero_le _⟩ rfl (by decide +kernel) dX5_galleriesAt_18 rfl ?_
      refine g_if_eq (tgt := 33) X dX5_galleriesAt_21 (by decide) rfl h (fun c_3 h => ?_) (fun c_3 h => ?_)
      · exact t_X5_galleriesAt_b33 X hret ih h
      · refine g_iload_n X 3 rfl rfl dX5_galleriesAt_24 rfl ?_
        refine g_iload_n X 2 rfl rfl dX5_galleriesAt_25 rfl ?_
        refine g_iconst (v := 1) X dX5_galleriesAt_26 (by decide) rfl ?_
        refine g_iload X 4 rfl dX5_galleriesAt_27 rfl ?_
        refine g_ishl X dX5_galleriesAt_29 rfl ?_
        refine g_iand X dX5_galleriesAt_30 rfl ?_
        refine g_ior X dX5_galleriesAt_31 rfl ?_
        refine g_nami h (fun v3_4 h => ?_)
        refine g_istore_n (lv' := [(3, .int v3_4), (0, .ref a_me), (1, .int v1), (2, .int v2), (4, .int v4)]) X rfl (by decide) rfl dX5_galleriesAt_32 rfl ?_
        refine g_lvs [1, 2, 3, 0, 4] rfl ?_
        exact t_X5_galleriesAt_b33 X hret ih h
set_option maxHeartbeats 4000000 in
set_option maxRecDepth 100000 in
theorem c_X5_galleriesAt (l : Launch) (D : va_G) (cA : ClassId) (a_me a_one a_two a_length a_draught a_one_cells a_two_cells : Nat) (u_doors : Int32) (u_shafts : Int32) (c_galleries : Int32) (c_one : A32) (c_two : A32) (v1 : Int32) (v2 : Int32) (z : Int32) (h : f_X5_galleriesAt c_galleries c_one c_two v1 v2 = some z) : CtI l yX5_galleriesAt wsX5_galleriesAt rm_X5_galleriesAt D cA [.ref a_me, .int v1, .int v2] (w_X5_galleriesAt cA a_me a_one a_two a_length a_draught a_one_cells a_two_cells u_doors u_shafts c_galleries c_one c_two) z (w_X5_galleriesAt cA a_me a_one a_two a_length a_draught a_one_cells a_two_cells u_doors u_shafts c_galleries c_one c_two) := by
  refine ct_I (maxL := 5) (ty := .int) (cc := cX5_galleriesAt) (by decide) rfl (Nat.le_of_ble_eq_true rfl) rfl (fun p e s m args below meth c A Q X hret => ?_)
  have h : (f_X5_galleriesAt_b5 c_galleries c_one c_two v1 v2 FU 0 0 : Option (Int32)) = some z := h
  refine g_iconst (v := 0) X dX5_galleriesAt_0 (by decide) rfl ?_
  refine g_istore_n (lv' := [(3, .int 0), (0, .ref a_me), (1, .int v1), (2, .int v2)]) X rfl (by decide) rfl dX5_galleriesAt_1 rfl ?_
  refine g_iconst (v := 0) X dX5_galleriesAt_2 (by decide) rfl ?_
  refine g_istore (lv' := [(4, .int 0), (3, .int 0), (0, .ref a_me), (1, .int v1), (2, .int v2)]) X (by decide) rfl dX5_galleriesAt_3 rfl ?_
  refine g_lvs [2, 3, 4, 1, 0] rfl ?_
  exact t_X5_galleriesAt_b5 X hret _ _ _ h
