abbrev rm_X0_spread : Room := { frames := 1, cells := 0, slots := 0, locals := 22 }
theorem hd_X0_spread : yX0_spread.cls ≠ "java/lang/invoke/MethodHandle" ∧ yX0_spread.cls ≠ "java/lang/invoke/VarHandle" ∧ (parseMethodDescriptor yX0_spread.desc).map (fun d => d.parameters.length) = some 3 := by decide +kernel
theorem iw_X0_spread_X0 : ∀ w ∈ wsX00, w ∈ wsX0_spread := fun w h => List.mem_cons_of_mem _ (List.mem_append_left _ (List.mem_append_right _ h))
theorem fl_X0_spread_X0_3 : Cond.fieldLink RX0 23 RX0 (TX0 3).2.1 (TX0 3).2.2.1 ∈ wsX0_spread := List.mem_of_getElem? (i := 1) rfl
abbrev w_X0_spread (cA : ClassId) (a_me a_height a_into a_nearest a_nearest_cells : Nat) (u_breathing : Int32) (c_nearest : A32) : va_W := [(a_me, .inr (0, [.ref a_height, .ref a_into, .int u_breathing, .ref a_nearest])), (a_nearest, .inr (8, [.ref a_nearest_cells])), (a_nearest_cells, .inl (cA, 7, .inl c_nearest))]
set_option maxHeartbeats 4000000 in
set_option maxRecDepth 100000 in
theorem c_X0_spread (l : Launch) (D : va_G) (cA : ClassId) (a_me a_height a_into a_nearest a_nearest_cells : Nat) (u_breathing : Int32) (c_nearest : A32) (v1 : Int32) (v2 : Int32) (v3 : Int32) (z : Int32 × A32) (h : f_X0_spread c_nearest v1 v2 v3 = some z) : CtI l yX0_spread wsX0_spread rm_X0_spread D cA [.ref a_me, .int v1, .int v2, .int v3] (w_X0_spread cA a_me a_height a_into a_nearest a_nearest_cells u_breathing c_nearest) z.1 (w_X0_spread cA a_me a_height a_into a_nearest a_nearest_cells u_breathing z.2) := by
  refine ct_I (maxL := 4) (ty := .int) (cc := cX0_spread) (by decide) rfl (Nat.le_of_ble_eq_true rfl) rfl (fun p e s m args below meth c A Q X hret => ?_)
  have h : (Option.bind (f_X10_bit v3 v1) fun z_1 => if z_1 = 0 then some (0, c_nearest) else Option.bind (f_X10_bit v3 v2) fun z_3 => if z_3 = 1 then some (0, c_nearest) else Option.bind (f_X8_get 7 c_nearest v2) fun z_5 => Option.bind (f_X8_get 7 c_nearest v1) fun z_6 => Option.bind (f_X8_set 7 c_nearest v2 (z_5 ||| z_6)) fun z_7 => some (1 <<< (v2 &&& 31), z_7) : Option (Int32 × A32)) = some z := h
  refine g_iload_n X 3 rfl rfl dX0_spread_0 rfl ?_
  refine g_iload_n X 1 rfl rfl dX0_spread_1 rfl ?_
  obtain ⟨z_1, hz_1, h⟩ := bnd_s h
  refine g_callSNI (rm := rm_X10_bit) (As := [.int v3, .int v1]) (r := z_1) (W0 := []) (W1 := []) (isC := []) (isR := [0, 1, 2]) (perm := [0, 1, 2]) (ws' := (w_X0_spread cA a_me a_height a_into a_nearest a_nearest_cells u_breathing c_nearest)) X (c_X10_bit l D cA v3 v1 _ hz_1) gX0_spread_X10_bit_n54 (by decide +kernel) (by decide +kernel) (by decide +kernel) rfl rfl rfl hd_X10_bit ⟨Nat.le_of_ble_eq_true rfl, Nat.le_of_ble_eq_true rfl⟩ rfl rfl (Nat.le_of_ble_eq_true rfl) rfl (by decide +kernel) rfl (by decide +kernel) (by decide +kernel) ⟨Nat.zero_le _, Nat.zero_le _⟩ rfl (by decide +kernel) dX0_spread_2 rfl ?_
  refine g_if_eq (tgt := 17) X dX0_spread_5 (by decide) rfl h (fun c_2 h => ?_) (fun c_2 h => ?_)
  · refine g_iconst (v := 0) X dX0_spread_17 (by decide) rfl ?_
    cases Option.some.inj h
    exact hret _ _ dX0_spread_18 rfl
  · refine g_iload_n X 3 rfl rfl dX0_spread_8 rfl ?_
    refine g_iload_n X 2 rfl rfl dX0_spread_9 rfl ?_
    obtain ⟨z_3, hz_3, h⟩ := bnd_s h
    refine g_callSNI (rm := rm_X10_bit) (As := [.int v3, .int v2]) (r := z_3) (W0 := []) (W1 := []) (isC := []) (isR := [0, 1, 2]) (perm := [0, 1, 2]) (ws' := (w_X0_spread cA a_me a_height a_into a_nearest a_nearest_cells u_breathing c_nearest)) X (c_X10_bit l D cA v3 v2 _ hz_3) gX0_spread_X10_bit_n54 (by decide +kernel) (by decide +kernel) (by decide +kernel) rfl rfl rfl hd_X10_bit ⟨Nat.le_of_ble_eq_true rfl, Nat.le_of_ble_eq_true rfl⟩ rfl rfl (Nat.le_of_ble_eq_true rfl) rfl (by decide +kernel) rfl (by decide +kernel) (by decide +kernel) ⟨Nat.zero_le _, Nat.zero_le _⟩ rfl (by decide +kernel) dX0_spread_10 rfl ?_
    refine g_iconst (v := 1) X dX0_spread_13 (by decide) rfl ?_
    refine g_icmp_ne (tgt := 19) X dX0_spread_14 (by decide) rfl h (fun c_4 h => ?_) (fun c_4 h => ?_)
    · refine g_aload_n X 0 rfl rfl dX0_spread_19 rfl ?_
      refine g_getf (C := RX0) (T := TX0) (N := 4) (v := .ref a_nearest) X 0 rfl vc_X0 3 (by decide) iw_X0_spread_X0 fl_X0_spread_X0_3 rfl rfl dX0_spread_20 rfl ?_
      refine g_iload_n X 2 rfl rfl dX0_spread_23 rfl ?_
      refine g_aload_n X 0 rfl rfl dX0_spread_24 rfl ?_
      refine g_getf (C := RX0) (T := TX0) (N := 4) (v := .ref a_nearest) X 0 rfl vc_X0 3 (by decide) iw_X0_spread_X0 fl_X0_spread_X0_3 rfl rfl dX0_spread_25 rfl ?_
      refine g_iload_n X 2 rfl rfl dX0_spread_28 rfl ?_
      obtain ⟨z_5, hz_5, h⟩ := bnd_s h
      refine g_callVI (rm := rm_X8_get) (As := [.int v2]) (r := z_5) (W0 := (w_X8_get cA a_nearest a_nearest_cells 7 c_nearest)) (W1 := (w_X8_get cA a_nearest a_nearest_cells 7 c_nearest)) (isC := [1, 2]) (isR := [0]) (perm := [0, 1, 2]) (ws' := (w_X0_spread cA a_me a_height a_into a_nearest a_nearest_cells u_breathing c_nearest)) X (c_X8_get l D cA a_nearest a_nearest_cells 7 c_nearest v2 _ hz_5) 1 rfl rfl rfl gX0_spread_X8_get rfl rfl rfl ⟨rfl, hd_X8_get⟩ ⟨Nat.le_of_ble_eq_true rfl, Nat.le_of_ble_eq_true rfl⟩ rfl rfl (Nat.le_of_ble_eq_true rfl) rfl (by decide +kernel) rfl (by decide +kernel) (by decide +kernel) ⟨Nat.zero_le _, Nat.zero_le _⟩ rfl (by decide +kernel) dX0_spread_29 rfl ?_
      refine g_aload_n X 0 rfl rfl dX0_spread_32 rfl ?_
      refine g_getf (C := RX0) (T := TX0) (N := 4) (v := .ref a_nearest) X 0 rfl vc_X0 3 (by decide) iw_X0_spread_X0 fl_X0_spread_X0_3 rfl rfl dX0_spread_33 rfl ?_
      refine g_iload_n X 1 rfl rfl dX0_spread_36 rfl ?_
      obtain ⟨z_6, hz_6, h⟩ := bnd_s h
      refine g_callVI (rm := rm_X8_get) (As := [.int v1]) (r := z_6) (W0 := (w_X8_get cA a_nearest a_nearest_cells 7 c_nearest)) (W1 := (w_X8_get cA a_nearest a_nearest_cells 7 c_nearest)) (isC := [1, 2]) (isR := [0]) (perm := [0, 1, 2]) (ws' := (w_X0_spread cA a_me a_height a_into a_nearest a_nearest_cells u_breathing c_nearest)) X (c_X8_get l D cA a_nearest a_nearest_cells 7 c_nearest v1 _ hz_6) 1 rfl rfl rfl gX0_spread_X8_get rfl rfl rfl ⟨rfl, hd_X8_get⟩ ⟨Nat.le_of_ble_eq_true rfl, Nat.le_of_ble_eq_true rfl⟩ rfl rfl (Nat.le_of_ble_eq_true rfl) rfl (by decide +kernel) rfl (by decide +kernel) (by decide +kernel) ⟨Nat.zero_le _, Nat.zero_le _⟩ rfl (by decide +kernel) dX0_spread_37 rfl ?_
      refine g_ior X dX0_spread_40 rfl ?_
      obtain ⟨z_7, hz_7, h⟩ := bnd_s h
      refine g_callVV (rm := rm_X8_set) (As := [.int v2, .int (z_5 ||| z_6)]) (W0 := (w_X8_set cA a_nearest a_nearest_cells 7 c_nearest)) (W1 := (w_X8_set cA a_nearest a_nearest_cells 7 z_7)) (isC := [1, 2]) (isR := [0]) (perm := [0, 1, 2]) (ws' := (w_X0_spread cA a_me a_height a_into a_nearest a_nearest_cells u_breathing z_7)) X (c_X8_set l D cA a_nearest a_nearest_cells 7 c_nearest v2 (z_5 ||| z_6) _ hz_7) 1 rfl rfl rfl gX0_spread_X8_set rfl rfl rfl ⟨rfl, hd_X8_set⟩ ⟨Nat.le_of_ble_eq_true rfl, Nat.le_of_ble_eq_true rfl⟩ rfl rfl (Nat.le_of_ble_eq_true rfl) rfl (by decide +kernel) rfl (by decide +kernel) (by decide +kernel) ⟨Nat.zero_le _, Nat.zero_le _⟩ rfl (by decide +kernel) dX0_spread_41 rfl ?_
      refine g_iconst (v := 1) X dX0_spread_44 (by decide) rfl ?_
      refine g_iload_n X 2 rfl rfl dX0_spread_45 rfl ?_
      refine g_ishl X dX0_spread_46 rfl ?_
      cases Option.some.inj h
      exact hret _ _ dX0_spread_47 rfl
    · refine g_iconst (v := 0) X dX0_spread_17 (by decide) rfl ?_
      cases Option.some.inj h
      exact hret _ _ dX0_spread_18 rfl
abbrev rm_X0_findNearest : Room := { frames := 2, cells := 0, slots := 0, locals := 45 }
theorem hd_X0_findNearest : yX0_findNearest.cls ≠ "java/lang/invoke/MethodHandle" ∧ yX0_findNearest.cls ≠ "java/lang/invoke/VarHandle" ∧ (parseMethodDescriptor yX0_findNearest.desc).map (fun d => d.parameters.length) = some 2 := by decide +kernel
theorem iw_X0_findNearest_X0 : ∀ w ∈ wsX00, w ∈ wsX0_findNearest := fun w h => List.mem_cons_of_mem _ (List.mem_append_left _ (List.mem_append_left _ (List.mem_append_right _ h)))
theorem iw_X0_findNearest_X5 : ∀ w ∈ wsX50, w ∈ wsX0_findNearest := fun w h => List.mem_cons_of_mem _ (List.mem_append_left _ (List.mem_append_right _ h))
theorem fl_X0_findNearest_X5_6 : Cond.fieldLink RX0 45 RX5 (TX5 6).2.1 (TX5 6).2.2.1 ∈ wsX0_findNearest := List.mem_of_getElem? (i := 2) rfl
theorem fl_X0_findNearest_X0_3 : Cond.fieldLink RX0 23 RX0 (TX0 3).2.1 (TX0 3).2.2.1 ∈ wsX0_findNearest := List.mem_of_getElem? (i := 1) rfl
theorem fl_X0_findNearest_X5_0 : Cond.fieldLink RX0 51 RX5 (TX5 0).2.1 (TX5 0).2.2.1 ∈ wsX0_findNearest := List.mem_of_getElem? (i := 3) rfl
theorem fl_X0_findNearest_X5_1 : Cond.fieldLink RX0 58 RX5 (TX5 1).2.1 (TX5 1).2.2.1 ∈ wsX0_findNearest := List.mem_of_getElem? (i := 4) rfl
theorem fl_X0_findNearest_X5_2 : Cond.fieldLink RX0 61 RX5 (TX5 2).2.1 (TX5 2).2.2.1 ∈ wsX0_findNearest := List.mem_of_getElem? (i := 5) rfl
abbrev w_X0_findNearest (cA : ClassId) (a_me a_q1 a_height a_into a_nearest a_nearest_cells a_q1_one a_q1_two a_q1_length a_q1_draught a_q1_one_cells a_q1_two_cells : Nat) (u_breathing : Int32) (u_q1_doors : Int32) (c_nearest : A32) (c_q1_galleries : Int32) (c_q1_shafts : Int32) (c_q1_one : A32) (c_q1_two : A32) : va_W := [(a_me, .inr (0, [.ref a_height, .ref a_into, .int u_breathing, .ref a_nearest])), (a_nearest, .inr (8, [.ref a_nearest_cells])), (a_nearest_cells, .inl (cA, 7, .inl c_nearest)), (a_q1, .inr (5, [.int c_q1_galleries, .ref a_q1_one, .ref a_q1_two, .ref a_q1_length, .int u_q1_doors, .ref a_q1_draught, .int c_q1_shafts])), (a_q1_one, .inr (8, [.ref a_q1_one_cells])), (a_q1_one_cells, .inl (cA, 10, .inl c_q1_one)), (a_q1_two, .inr (8, [.ref a_q1_two_cells])), (a_q1_two_cells, .inl (cA, 10, .inl c_q1_two))]
set_option maxHeartbeats 4000000 in
set_option maxRecDepth 100000 in
theorem t_X0_findNearest_b126 {l : Launch} {D : va_G} {cA : ClassId} {p : Program} {e : Env} {s : State} {m : MethodId} {args : Array Value} {below : List Frame} {meth : Method} {c : Code} {A : Nat → Prop} {Q : State → Prop} {z : A32} {a_me a_q1 a_height a_into a_nearest a_nearest_cells a_q1_one a_q1_two a_q1_length a_q1_draught a_q1_one_cells a_q1_two_cells : Nat} {u_breathing : Int32} {u_q1_doors : Int32} {c_q1_shafts : Int32} {c_nearest : A32} {c_q1_galleries : Int32} {c_q1_one : A32} {c_q1_two : A32} {v2 : Int32} {v3 : Int32} {v4 : Int32} {v5 : Int32} {v6 : Int32} {k38 : A32 → Int32 → Int32 → Option (A32)} {k51 : A32 → Int32 → Int32 → Option (A32)} (X : GX p s m args c cX0_findNearest RX0 wsX0_findNearest D cA A 7) (hret : RtV p l e rm_X0_findNearest s m args below meth c cX0_findNearest D A 7 0 0 Q (w_X0_findNearest cA a_me a_q1 a_height a_into a_nearest a_nearest_cells a_q1_one a_q1_two a_q1_length a_q1_draught a_q1_one_cells a_q1_two_cells u_breathing u_q1_doors z c_q1_galleries c_q1_shafts c_q1_one c_q1_two)) (hk38 : ∀ (c_nearest : A32) (v3 : Int32) (v4 : Int32), k38 c_nearest v3 v4 = some z → G p l e rm_X0_findNearest s m args below meth c D A 7 0 0 Q 38 [(0, .ref a_me), (1, .ref a_q1), (2, .int v2), (3, .int v3), (4, .int v4)] [] (w_X0_findNearest cA a_me a_q1 a_height a_into a_nearest a_nearest_cells a_q1_one a_q1_two a_q1_length a_q1_draught a_q1_one_cells a_q1_two_cells u_breathing u_q1_doors c_nearest c_q1_galleries c_q1_shafts c_q1_one c_q1_two)) (hk51 : ∀ (c_nearest : A32) (v5 : Int32) (v6 : Int32), k51 c_nearest v5 v6 = some z → G p l e rm_X0_findNearest s m args below meth c D A 7 0 0 Q 51 [(0, .ref a_me), (1, .ref a_q1), (2, .int v2), (3, .int v3), (4, .int v4), (5, .int v5), (6, .int v6)] [] (w_X0_findNearest cA a_me a_q1 a_height a_into a_nearest a_nearest_cells a_q1_one a_q1_two a_q1_length a_q1_draught a_q1_one_cells a_q1_two_cells u_breathing u_q1_doors c_nearest c_q1_galleries c_q1_shafts c_q1_one c_q1_two)) (h : f_X0_findNearest_b126 k38 k51 c_nearest c_q1_galleries c_q1_one c_q1_two v2 v3 v4 v5 v6 = some z) : G p l e rm_X0_findNearest s m args below meth c D A 7 0 0 Q 126 [(0, .ref a_me), (1, .ref a_q1), (2, .int v2), (3, .int v3), (4, .int v4), (5, .int v5), (6, .int v6)] [] (w_X0_findNearest cA a_me a_q1 a_height a_into a_nearest a_nearest_cells a_q1_one a_q1_two a_q1_length a_q1_draught a_q1_one_cells a_q1_two_cells u_breathing u_q1_doors c_nearest c_q1_galleries c_q1_shafts c_q1_one c_q1_two) := by
  have h : (nam (v6 + 1) fun v6_1 => k51 c_nearest v5 v6_1 : Option (A32)) = some z := h
  obtain ⟨v6_1, ev6_1, h⟩ := nam_s h
  refine g_iinc (v := v6_1) (lv' := [(6, .int v6_1), (0, .ref a_me), (1, .ref a_q1), (2, .int v2), (3, .int v3), (4, .int v4), (5, .int v5)]) X 6 rfl (by rw [ev6_1]; rfl) (by decide) rfl dX0_findNearest_126 rfl ?_
  refine g_goto (tgt := 51) X dX0_findNearest_129 (by decide) ?_
  refine g_lvs [1, 2, 3, 4, 5, 6, 0] rfl ?_
  exact hk51 _ _ _ h
set_option maxHeartbeats 4000000 in
set_option maxRecDepth 100000 in
theorem t_X0_findNearest_b51 {l : Launch} {D : va_G} {cA : ClassId} {p : Program} {e : Env} {s : State} {m : MethodId} {args : Array Value} {below : List Frame} {meth : Method} {c : Code} {A : Nat → Prop} {Q : State → Prop} {z : A32} {a_me a_q1 a_height a_into a_nearest a_nearest_cells a_q1_one a_q1_two a_q1_length a_q1_draught a_q1_one_cells a_q1_two_cells : Nat} {u_breathing : Int32} {u_q1_doors : Int32} {c_q1_shafts : Int32} {c_q1_galleries : Int32} {c_q1_one : A32} {c_q1_two : A32} {v2 : Int32} {v3 : Int32} {v4 : Int32} {k38 : A32 → Int32 → Int32 → Option (A32)} (X : GX p s m args c cX0_findNearest RX0 wsX0_findNearest D cA A 7) (hret : RtV p l e rm_X0_findNearest s m args below meth c cX0_findNearest D A 7 0 0 Q (w_X0_findNearest cA a_me a_q1 a_height a_into a_nearest a_nearest_cells a_q1_one a_q1_two a_q1_length a_q1_draught a_q1_one_cells a_q1_two_cells u_breathing u_q1_doors z c_q1_galleries c_q1_shafts c_q1_one c_q1_two)) (hk38 : ∀ (c_nearest : A32) (v3 : Int32) (v4 : Int32), k38 c_nearest v3 v4 = some z → G p l e rm_X0_findNearest s m args below meth c D A 7 0 0 Q 38 [(0, .ref a_me), (1, .ref a_q1), (2, .int v2), (3, .int v3), (4, .int v4)] [] (w_X0_findNearest cA a_me a_q1 a_height a_into a_nearest a_nearest_cells a_q1_one a_q1_two a_q1_length a_q1_draught a_q1_one_cells a_q1_two_cells u_breathing u_q1_doors c_nearest c_q1_galleries c_q1_shafts c_q1_one c_q1_two)) : ∀ (fu : Nat) (c_nearest : A32) (v5 : Int32) (v6 : Int32), f_X0_findNearest_b51 k38 c_q1_galleries c_q1_one c_q1_two v2 v3 v4 fu c_nearest v5 v6 = some z → G p l e rm_X0_findNearest s m args below meth c D A 7 0 0 Q 51 [(0, .ref a_me), (1, .ref a_q1), (2, .int v2), (3, .int v3), (4, .int v4), (5, .int v5), (6, .int v6)] [] (w_X0_findNearest cA a_me a_q1 a_height a_into a_nearest a_nearest_cells a_q1_one a_q1_two a_q1_length a_q1_draught a_q1_one_cells a_q1_two_cells u_breathing u_q1_doors c_nearest c_q1_galleries c_q1_shafts c_q1_one c_q1_two) := by
  intro fu
  induction fu with
  | zero => intro c_nearest v5 v6 h; exact absurd (show (none : Option (A32)) = some z from h) (by simp)
  | succ fu ih =>
    intro c_nearest v5 v6 h
    have h : (if c_q1_galleries ≤ v6 then if v5 = 0 then some c_nearest else nam (v3 ||| v5) fun v3_3 => nam (v4 + 1) fun v4_4 => k38 c_nearest v3_3 v4_4 else Option.bind (f_X10_bit v2 v6) fun z_5 => if z_5 = 1 then Option.bind (f_X8_get 10 c_q1_one v6) fun z_7 => Option.bind (f_X8_get 10 c_q1_two v6) fun z_8 => Option.bind (f_X0_spread c_nearest z_7 z_8 v3) fun z_9 => nam (v5 ||| z_9.1) fun v5_10 => Option.bind (f_X8_get 10 c_q1_two v6) fun z_11 => Option.bind (f_X8_get 10 c_q1_one v6) fun z_12 => Option.bind (f_X0_spread z_9.2 z_11 z_12 v3) fun z_13 => nam (v5_10 ||| z_13.1) fun v5_14 => f_X0_findNearest_b126 k38 (f_X0_findNearest_b51 k38 c_q1_galleries c_q1_one c_q1_two v2 v3 v4 fu) z_13.2 c_q1_galleries c_q1_one c_q1_two v2 v3 v4 v5_14 v6 else f_X0_findNearest_b126 k38 (f_X0_findNearest_b51 k38 c_q1_galleries c_q1_one c_q1_two v2 v3 v4 fu) c_nearest c_q1_galleries c_q1_one c_q1_two v2 v3 v4 v5 v6 : Option (A32)) = some z := h
    refine g_iload X 6 rfl dX0_findNearest_51 rfl ?_
    refine g_aload_n X 1 rfl rfl dX0_findNearest_53 rfl ?_
    refine g_getf (C := RX5) (T := TX5) (N := 7) (v := .int c_q1_galleries) X 3 rfl vc_X5 0 (by decide) iw_X0_findNearest_X5 fl_X0_findNearest_X5_0 rfl rfl dX0_findNearest_54 rfl ?_
    refine g_icmp_ge (tgt := 132) X dX0_findNearest_57 (by decide) rfl h (fun c_1 h => ?_) (fun c_1 h => ?_)
    · refine g_iload X 5 rfl dX0_findNearest_132 rfl ?_
      refine g_if_ne (tgt := 138) X dX0_findNearest_134 (by decide) rfl h (fun c_2 h => ?_) (fun c_2 h => ?_)
      · refine g_iload_n X 3 rfl rfl dX0_findNearest_138 rfl ?_
        refine g_iload X 5 rfl dX0_findNearest_139 rfl ?_
        refine g_ior X dX0_findNearest_141 rfl ?_
        refine g_nami h (fun v3_3 h => ?_)
        refine g_istore_n (lv' := [(3, .int v3_3), (0, .ref a_me), (1, .ref a_q1), (2, .int v2), (4, .int v4), (5, .int v5), (6, .int v6)]) X rfl (by decide) rfl dX0_findNearest_142 rfl ?_
        obtain ⟨v4_4, ev4_4, h⟩ := nam_s h
        refine g_iinc (v := v4_4) (lv' := [(4, .int v4_4), (3, .int v3_3), (0, .ref a_me), (1, .ref a_q1), (2, .int v2), (5, .int v5), (6, .int v6)]) X 4 rfl (by rw [ev4_4]; rfl) (by decide) rfl dX0_findNearest_143 rfl ?_
        refine g_goto (tgt := 38) X dX0_findNearest_146 (by decide) ?_
        refine g_lvs [2, 3, 4, 1, 0] rfl ?_
        exact hk38 _ _ _ h
      · cases Option.some.inj h
        exact hret _ _ dX0_findNearest_137
    · refine g_iload_n X 2 rfl rfl dX0_findNearest_60 rfl ?_
      refine g_iload X 6 rfl dX0_findNearest_61 rfl ?_
      obtain ⟨z_5, hz_5, h⟩ := bnd_s h
      refine g_callSNI (rm := rm_X10_bit) (As := [.int v2, .int v6]) (r := z_5) (W0 := []) (W1 := []) (isC := []) (isR := [0, 1, 2, 3, 4, 5, 6, 7]) (perm := [0, 1, 2, 3, 4, 5, 6, 7]) (ws' := (w_X0_findNearest cA a_me a_q1 a_height a_into a_nearest a_nearest_cells a_q1_one a_q1_two a_q1_length a_q1_draught a_q1_one_cells a_q1_two_cells u_breathing u_q1_doors c_nearest c_q1_galleries c_q1_shafts c_q1_one c_q1_two)) X (c_X10_bit l D cA v2 v6 _ hz_5) gX0_findNearest_X10_bit_n54 (by decide +kernel) (by decide +kernel) (by decide +kernel) rfl rfl rfl hd_X10_bit ⟨Nat.le_of_ble_eq_true rfl, Nat.le_of_ble_eq_true rfl⟩ rfl rfl (Nat.le_of_ble_eq_true rfl) rfl (by decide +kernel) rfl (by decide +kernel) (by decide +kernel) ⟨Nat.zero_le _, Nat.zero_le _⟩ rfl (by decide +kernel) dX0_findNearest_63 rfl ?_
      refine g_iconst (v := 1) X dX0_findNearest_66 (by decide) rfl ?_
      refine g_icmp_ne (tgt := 126) X dX0_findNearest_67 (by decide) rfl h (fun c_6 h => ?_) (fun c_6 h => ?_)
      · exact t_X0_findNearest_b126 X hret hk38 ih h
      · refine g_iload X 5 rfl dX0_findNearest_70 rfl ?_
        refine g_aload_n X 0 rfl rfl dX0_findNearest_72 rfl ?_
        refine g_aload_n X 1 rfl rfl dX0_findNearest_73 rfl ?_
        refine g_getf (C := RX5) (T := TX5) (N := 7) (v := .ref a_q1_one) X 3 rfl vc_X5 1 (by decide) iw_X0_findNearest_X5 fl_X0_findNearest_X5_1 rfl rfl dX0_findNearest_74 rfl ?_
        refine g_iload X 6 rfl dX0_findNearest_77 rfl ?_
        obtain ⟨z_7, hz_7, h⟩ := bnd_s h
        refine g_callVI (rm := rm_X8_get) (As := [.int v6]) (r := z_7) (W0 := (w_X8_get cA a_q1_one a_q1_one_cells 10 c_q1_one)) (W1 := (w_X8_get cA a_q1_one a_q1_one_cells 10 c_q1_one)) (isC := [4, 5]) (isR := [0, 1, 2, 3, 6, 7]) (perm := [0, 1, 2, 3, 6, 7, 4, 5]) (ws' := (w_X0_findNearest cA a_me a_q1 a_height a_into a_nearest a_nearest_cells a_q1_one a_q1_two a_q1_length a_q1_draught a_q1_one_cells a_q1_two_cells u_breathing u_q1_doors c_nearest c_q1_galleries c_q1_shafts c_q1_one c_q1_two)) X (c_X8_get l D cA a_q1_one a_q1_one_cells 10 c_q1_one v6 _ hz_7) 4 rfl rfl rfl gX0_findNearest_X8_get rfl rfl rfl ⟨rfl, hd_X8_get⟩ ⟨Nat.le_of_ble_eq_true rfl, Nat.le_of_ble_eq_true rfl⟩ rfl rfl (Nat.le_of_ble_eq_true rfl) rfl (by decide +kernel) rfl (by decide +kernel) (by decide +kernel) ⟨Nat.zero_le _, Nat.zero_le _⟩ rfl (by decide +kernel) dX0_findNearest_79 rfl ?_
        refine g_aload_n X 1 rfl rfl dX0_findNearest_82 rfl ?_
        refine g_getf (C := RX5) (T := TX5) (N := 7) (v := .ref a_q1_two) X 3 rfl vc_X5 2 (by decide) iw_X0_findNearest_X5 fl_X0_findNearest_X5_2 rfl rfl dX0_findNearest_83 rfl ?_
        refine g_iload X 6 rfl dX0_findNearest_86 rfl ?_
        obtain ⟨z_8, hz_8, h⟩ := bnd_s h
        refine g_callVI (rm := rm_X8_get) (As := [.int v6]) (r := z_8) (W0 := (w_X8_get cA a_q1_two a_q1_two_cells 10 c_q1_two)) (W1 := (w_X8_get cA a_q1_two a_q1_two_cells 10 c_q1_two)) (isC := [6, 7]) (isR := [0, 1, 2, 3, 4, 5]) (perm := [0, 1, 2, 3, 4, 5, 6, 7]) (ws' := (w_X0_findNearest cA a_me a_q1 a_height a_into a_nearest a_nearest_cells a_q1_one a_q1_two a_q1_length a_q1_draught a_q1_one_cells a_q1_two_cells u_breathing u_q1_doors c_nearest c_q1_galleries c_q1_shafts c_q1_one c_q1_two)) X (c_X8_get l D cA a_q1_two a_q1_two_cells 10 c_q1_two v6 _ hz_8) 6 rfl rfl rfl gX0_findNearest_X8_get rfl rfl rfl ⟨rfl, hd_X8_get⟩ ⟨Nat.le_of_ble_eq_true rfl, Nat.le_of_ble_eq_true rfl⟩ rfl rfl (Nat.le_of_ble_eq_true rfl) rfl (by decide +kernel) rfl (by decide +kernel) (by decide +kernel) ⟨Nat.zero_le _, Nat.zero_le _⟩ rfl (by decide +kernel) dX0_findNearest_88 rfl ?_
        refine g_iload_n X 3 rfl rfl dX0_findNearest_91 rfl ?_
        obtain ⟨z_9, hz_9, h⟩ := bnd_s h
        refine g_callVI (rm := rm_X0_spread) (As := [.int z_7, .int z_8, .int v3]) (r := z_9.1) (W0 := (w_X0_spread cA a_me a_height a_into a_nearest a_nearest_cells u_breathing c_nearest)) (W1 := (w_X0_spread cA a_me a_height a_into a_nearest a_nearest_cells u_breathing z_9.2)) (isC := [0, 1, 2]) (isR := [3, 4, 5, 6, 7]) (perm := [5, 6, 7, 0, 1, 2, 3, 4]) (ws' := (w_X0_findNearest cA a_me a_q1 a_height a_into a_nearest a_nearest_cells a_q1_one a_q1_two a_q1_length a_q1_draught a_q1_one_cells a_q1_two_cells u_breathing u_q1_doors z_9.2 c_q1_galleries c_q1_shafts c_q1_one c_q1_two)) X (c_X0_spread l D cA a_me a_height a_into a_nearest a_nearest_cells u_breathing c_nearest z_7 z_8 v3 _ hz_9) 0 rfl rfl rfl gX0_findNearest_X0_spread rfl rfl rfl ⟨rfl, hd_X0_spread⟩ ⟨Nat.le_of_ble_eq_true rfl, Nat.le_of_ble_eq_true rfl⟩ rfl rfl (Nat.le_of_ble_eq_true rfl) rfl (by decide +kernel) rfl (by decide +kernel) (by decide +kernel) ⟨Nat.zero_le _, Nat.zero_le _⟩ rfl (by decide +kernel) dX0_findNearest_92 rfl ?_
        refine g_ior X dX0_findNearest_95 rfl ?_
        refine g_nami h (fun v5_10 h => ?_)
        refine g_istore (lv' := [(5, .int v5_10), (0, .ref a_me), (1, .ref a_q1), (2, .int v2), (3, .int v3), (4, .int v4), (6, .int v6)]) X (by decide) rfl dX0_findNearest_96 rfl ?_
        refine g_iload X 0 rfl dX0_findNearest_98 rfl ?_
        refine g_aload_n X 1 rfl rfl dX0_findNearest_100 rfl ?_
        refine g_aload_n X 2 rfl rfl dX0_findNearest_101 rfl ?_
        refine g_getf (C := RX5) (T := TX5) (N := 7) (v := .ref a_q1_two) X 3 rfl vc_X5 2 (by decide) iw_X0_findNearest_X5 fl_X0_findNearest_X5_2 rfl rfl dX0_findNearest_102 rfl ?_
        refine g_iload X 6 rfl dX0_findNearest_105 rfl ?_
        obtain ⟨z_11, hz_11, h⟩ := bnd_s h
        refine g_callVI (rm := rm_X8_get) (As := [.int v6]) (r := z_11) (W0 := (w_X8_get cA a_q1_two a_q1_two_cells 10 c_q1_two)) (W1 := (w_X8_get cA a_q1_two a_q1_two_cells 10 c_q1_two)) (isC := [6, 7]) (isR := [0, 1, 2, 3, 4, 5]) (perm := [0, 1, 2, 3, 4, 5, 6, 7]) (ws' := (w_X0_findNearest cA a_me a_q1 a_height a_into a_nearest a_nearest_cells a_q1_one a_q1_two a_q1_length a_q1_draught a_q1_one_cells a_q1_two_cells u_breathing u_q1_doors z_9.2 c_q1_galleries c_q1_shafts c_q1_one c_q1_two)) X (c_X8_get l D cA a_q1_two a_q1_two_cells 10 c_q1_two v6 _ hz_11) 6 rfl rfl rfl gX0_findNearest_X8_get rfl rfl rfl ⟨rfl, hd_X8_get⟩ ⟨Nat.le_of_ble_eq_true rfl, Nat.le_of_ble_eq_true rfl⟩ rfl rfl (Nat.le_of_ble_eq_true rfl) rfl (by decide +kernel) rfl (by decide +kernel) (by decide +kernel) ⟨Nat.zero_le _, Nat.zero_le _⟩ rfl (by decide +kernel) dX0_findNearest_107 rfl ?_
        refine g_aload_n X 2 rfl rfl dX0_findNearest_110 rfl ?_
        refine g_getf (C := RX5) (T := TX5) (N := 7) (v := .ref a_q1_one) X 3 rfl vc_X5 1 (by decide) iw_X0_findNearest_X5 fl_X0_findNearest_X5_1 rfl rfl dX0_findNearest_111 rfl ?_
        refine g_iload X 6 rfl dX0_findNearest_114 rfl ?_
        obtain ⟨z_12, hz_12, h⟩ := bnd_s h
        refine g_callVI (rm := rm_X8_get) (As := [.int v6]) (r := z_12) (W0 := (w_X8_get cA a_q1_one a_q1_one_cells 10 c_q1_one)) (W1 := (w_X8_get cA a_q1_one a_q1_one_cells 10 c_q1_one)) (isC := [4, 5]) (isR := [0, 1, 2, 3, 6, 7]) (perm := [0, 1, 2, 3, 6, 7, 4, 5]) (ws' := (w_X0_findNearest cA a_me a_q1 a_height a_into a_nearest a_nearest_cells a_q1_one a_q1_two a_q1_length a_q1_draught a_q1_one_cells a_q1_two_cells u_breathing u_q1_doors z_9.2 c_q1_galleries c_q1_shafts c_q1_one c_q1_two)) X (c_X8_get l D cA a_q1_one a_q1_one_cells 10 c_q1_one v6 _ hz_12) 4 rfl rfl rfl gX0_findNearest_X8_get rfl rfl rfl ⟨rfl, hd_X8_get⟩ ⟨Nat.le_of_ble_eq_true rfl, Nat.le_of_ble_eq_true rfl⟩ rfl rfl (Nat.le_of_ble_eq_true rfl) rfl (by decide +kernel) rfl (by decide +kernel) (by decide +kernel) ⟨Nat.zero_le _, Nat.zero_le _⟩ rfl (by decide +kernel) dX0_findNearest_116 rfl ?_
        refine g_iload_n X 4 rfl rfl dX0_findNearest_119 rfl ?_
        obtain ⟨z_13, hz_13, h⟩ := bnd_s h
        refine g_callVI (rm := rm_X0_spread) (As := [.int z_11, .int z_12, .int v3]) (r := z_13.1) (W0 := (w_X0_spread cA a_me a_height a_into a_nearest a_nearest_cells u_breathing z_9.2)) (W1 := (w_X0_spread cA a_me a_height a_into a_nearest a_nearest_cells u_breathing z_13.2)) (isC := [0, 1, 2]) (isR := [3, 4, 5, 6, 7]) (perm := [5, 6, 7, 0, 1, 2, 3, 4]) (ws' := (w_X0_findNearest cA a_me a_q1 a_height a_into a_nearest a_nearest_cells a_q1_one a_q1_two a_q1_length a_q1_draught a_q1_one_cells a_q1_two_cells u_breathing u_q1_doors z_13.2 c_q1_galleries c_q1_shafts c_q1_one c_q1_two)) X (c_X0_spread l D cA a_me a_height a_into a_nearest a_nearest_cells u_breathing z_9.2 z_11 z_12 v3 _ hz_13) 0 rfl rfl rfl gX0_findNearest_X0_spread rfl rfl rfl ⟨rfl, hd_X0_spread⟩ ⟨Nat.le_of_ble_eq_true rfl, Nat.le_of_ble_eq_true rfl⟩ rfl rfl (Nat.le_of_ble_eq_true rfl) rfl (by decide +kernel) rfl (by decide +kernel) (by decide +kernel) ⟨Nat.zero_le _, Nat.zero_le _⟩ rfl (by decide +kernel) dX0_findNearest_120 rfl ?_
        refine g_ior X dX0_findNearest_123 rfl ?_
        refine g_nami h (fun v5_14 h => ?_)
        refine g_istore (lv' := [(5, .int v5_14), (0, .ref a_me), (1, .ref a_q1), (2, .int v2), (3, .int v3), (4, .int v4), (6, .int v6)]) X (by decide) rfl dX0_findNearest_124 rfl ?_
        refine g_lvs [1, 2, 3, 4, 5, 0, 6] rfl ?_
        exact t_X0_findNearest_b126 X hret hk38 ih h
set_option maxHeartbeats 4000000 in
set_option maxRecDepth 100000 in
theorem t_X0_findNearest_b38 {l : Launch} {D : va_G} {cA : ClassId} {p : Program} {e : Env} {s : State} {m : MethodId} {args : Array Value} {below : List Frame} {meth : Method} {c : Code} {A : Nat → Prop} {Q : State → Prop} {z : A32} {a_me a_q1 a_height a_into a_nearest a_nearest_cells a_q1_one a_q1_two a_q1_length a_q1_draught a_q1_one_cells a_q1_two_cells : Nat} {u_breathing : Int32} {u_q1_doors : Int32} {c_q1_shafts : Int32} {c_q1_galleries : Int32} {c_q1_one : A32} {c_q1_two : A32} {v2 : Int32}  (X : GX p s m args c cX0_findNearest RX0 wsX0_findNearest D cA A 7) (hret : RtV p l e rm_X0_findNearest s m args below meth c cX0_findNearest D A 7 0 0 Q (w_X0_findNearest cA a_me a_q1 a_height a_into a_nearest a_nearest_cells a_q1_one a_q1_two a_q1_length a_q1_draught a_q1_one_cells a_q1_two_cells u_breathing u_q1_doors z c_q1_galleries c_q1_shafts c_q1_one c_q1_two))  : ∀ (fu : Nat) (c_nearest : A32) (v3 : Int32) (v4 : Int32), f_X0_findNearest_b38 c_q1_galleries c_q1_one c_q1_two v2 fu c_nearest v3 v4 = some z → G p l e rm_X0_findNearest s m args below meth c D A 7 0 0 Q 38 [(0, .ref a_me), (1, .ref a_q1), (2, .int v2), (3, .int v3), (4, .int v4)] [] (w_X0_findNearest cA a_me a_q1 a_height a_into a_nearest a_nearest_cells a_q1_one a_q1_two a_q1_length a_q1_draught a_q1_one_cells a_q1_two_cells u_breathing u_q1_doors c_nearest c_q1_galleries c_q1_shafts c_q1_one c_q1_two) := by
  intro fu
  induction fu with
  | zero => intro c_nearest v3 v4 h; exact absurd (show (none : Option (A32)) = some z from h) (by simp)
  | succ fu ih =>
    intro c_nearest v3 v4 h
    have h : (if 7 ≤ v4 then some c_nearest else f_X0_findNearest_b51 (f_X0_findNearest_b38 c_q1_galleries c_q1_one c_q1_two v2 fu) c_q1_galleries c_q1_one c_q1_two v2 v3 v4 FU c_nearest 0 0 : Option (A32)) = some z := h
    refine g_iload X 4 rfl dX0_findNearest_38 rfl ?_
    refine g_bipush (v := 7) X dX0_findNearest_40 (by decide) rfl ?_
    refine g_icmp_ge (tgt := 149) X dX0_findNearest_42 (by decide) rfl h (fun c_1 h => ?_) (fun c_1 h => ?_)
    · cases Option.some.inj h
      exact hret _ _ dX0_findNearest_149
    · refine g_iconst (v := 0) X dX0_findNearest_45 (by decide) rfl ?_
      refine g_istore (lv' := [(5, .int 0), (0, .ref a_me), (1, .ref a_q1), (2, .int v2), (3, .int v3), (4, .int v4)]) X (by decide) rfl dX0_findNearest_46 rfl ?_
      refine g_iconst (v := 0) X dX0_findNearest_48 (by decide) rfl ?_
      refine g_istore (lv' := [(6, .int 0), (5, .int 0), (0, .ref a_me), (1, .ref a_q1), (2, .int v2), (3, .int v3), (4, .int v4)]) X (by decide) rfl dX0_findNearest_49 rfl ?_
      refine g_lvs [2, 3, 4, 5, 6, 1, 0] rfl ?_
      exact t_X0_findNearest_b51 X hret ih _ _ _ _ h
set_option maxHeartbeats 4000000 in
set_option maxRecDepth 100000 in
theorem t_X0_findNearest_b2 {l : Launch} {D : va_G} {cA : ClassId} {p : Program} {e : Env} {s : State} {m : MethodId} {args : Array Value} {below : List Frame} {meth : Method} {c : Code} {A : Nat → Prop} {Q : State → Prop} {z : A32} {a_me a_q1 a_height a_into a_nearest a_nearest_cells a_q1_one a_q1_two a_q1_length a_q1_draught a_q1_one_cells a_q1_two_cells : Nat} {u_breathing : Int32} {u_q1_doors : Int32}  {c_q1_galleries : Int32} {c_q1_shafts : Int32} {c_q1_one : A32} {c_q1_two : A32} {v2 : Int32}  (X : GX p s m args c cX0_findNearest RX0 wsX0_findNearest D cA A 7) (hret : RtV p l e rm_X0_findNearest s m args below meth c cX0_findNearest D A 7 0 0 Q (w_X0_findNearest cA a_me a_q1 a_height a_into a_nearest a_nearest_cells a_q1_one a_q1_two a_q1_length a_q1_draught a_q1_one_cells a_q1_two_cells u_breathing u_q1_doors z c_q1_galleries c_q1_shafts c_q1_one c_q1_two))  : ∀ (fu : Nat) (c_nearest : A32) (v3 : Int32), f_X0_findNearest_b2 c_q1_galleries c_q1_shafts c_q1_one c_q1_two v2 fu c_nearest v3 = some z → G p l e rm_X0_findNearest s m args below meth c D A 7 0 0 Q 2 [(0, .ref a_me), (1, .ref a_q1), (2, .int v2), (3, .int v3)] [] (w_X0_findNearest cA a_me a_q1 a_height a_into a_nearest a_nearest_cells a_q1_one a_q1_two a_q1_length a_q1_draught a_q1_one_cells a_q1_two_cells u_breathing u_q1_doors c_nearest c_q1_galleries c_q1_shafts c_q1_one c_q1_two) := by
  intro fu
  induction fu with
  | zero => intro c_nearest v3 h; exact absurd (show (none : Option (A32)) = some z from h) (by simp)
  | succ fu ih =>
    intro c_nearest v3 h
    have h : (if 7 ≤ v3 then f_X0_findNearest_b38 c_q1_galleries c_q1_one c_q1_two v2 FU c_nearest c_q1_shafts 1 else Option.bind (f_X8_set 7 c_nearest v3 (c_q1_shafts &&& (1 <<< (v3 &&& 31)))) fun z_2 => nam (v3 + 1) fun v3_3 => (f_X0_findNearest_b2 c_q1_galleries c_q1_shafts c_q1_one c_q1_two v2 fu) z_2 v3_3 : Option (A32)) = some z := h
    refine g_iload_n X 3 rfl rfl dX0_findNearest_2 rfl ?_
    refine g_bipush (v := 7) X dX0_findNearest_3 (by decide) rfl ?_
    refine g_icmp_ge (tgt := 30) X dX0_findNearest_5 (by decide) rfl h (fun c_1 h => ?_) (fun c_1 h => ?_)
    · refine g_aload_n X 1 rfl rfl dX0_findNearest_30 rfl ?_
      refine g_getf (C := RX5) (T := TX5) (N := 7) (v := .int c_q1_shafts) X 3 rfl vc_X5 6 (by decide) iw_X0_findNearest_X5 fl_X0_findNearest_X5_6 rfl rfl dX0_findNearest_31 rfl ?_
      refine g_istore_n (lv' := [(3, .int c_q1_shafts), (0, .ref a_me), (1, .ref a_q1), (2, .int v2)]) X rfl (by decide) rfl dX0_findNearest_34 rfl ?_
      refine g_iconst (v := 1) X dX0_findNearest_35 (by decide) rfl ?_
      refine g_istore (lv' := [(4, .int 1), (3, .int c_q1_shafts), (0, .ref a_me), (1, .ref a_q1), (2, .int v2)]) X (by decide) rfl dX0_findNearest_36 rfl ?_
      refine g_lvs [2, 3, 4, 1, 0] rfl ?_
      exact t_X0_findNearest_b38 X hret _ _ _ _ h
    · refine g_aload_n X 0 rfl rfl dX0_findNearest_8 rfl ?_
      refine g_getf (C := RX0) (T := TX0) (N := 4) (v := .ref a_nearest) X 0 rfl vc_X0 3 (by decide) iw_X0_findNearest_X0 fl_X0_findNearest_X0_3 rfl rfl dX0_findNearest_9 rfl ?_
      refine g_iload_n X 3 rfl rfl dX0_findNearest_12 rfl ?_
      refine g_aload_n X 1 rfl rfl dX0_findNearest_13 rfl ?_
      refine g_getf (C := RX5) (T := TX5) (N := 7) (v := .int c_q1_shafts) X 3 rfl vc_X5 6 (by decide) iw_X0_findNearest_X5 fl_X0_findNearest_X5_6 rfl rfl dX0_findNearest_14 rfl ?_
      refine g_iconst (v := 1) X dX0_findNearest_17 (by decide) rfl ?_
      refine g_iload_n X 3 rfl rfl dX0_findNearest_18 rfl ?_
      refine g_ishl X dX0_findNearest_19 rfl ?_
      refine g_iand X dX0_findNearest_20 rfl ?_
      obtain ⟨z_2, hz_2, h⟩ := bnd_s h
      refine g_callVV (rm := rm_X8_set) (As := [.int v3, .int (c_q1_shafts &&& (1 <<< (v3 &&& 31)))]) (W0 := (w_X8_set cA a_nearest a_nearest_cells 7 c_nearest)) (W1 := (w_X8_set cA a_nearest a_nearest_cells 7 z_2)) (isC := [1, 2]) (isR := [0, 3, 4, 5, 6, 7]) (perm := [0, 6, 7, 1, 2, 3, 4, 5]) (ws' := (w_X0_findNearest cA a_me a_q1 a_height a_into a_nearest a_nearest_cells a_q1_one a_q1_two a_q1_length a_q1_draught a_q1_one_cells a_q1_two_cells u_breathing u_q1_doors z_2 c_q1_galleries c_q1_shafts c_q1_one c_q1_two)) X (c_X8_set l D cA a_nearest a_nearest_cells 7 c_nearest v3 (c_q1_shafts &&& (1 <<< (v3 &&& 31))) _ hz_2) 1 rfl rfl rfl gX0_findNearest_X8_set rfl rfl rfl ⟨rfl, hd_X8_set⟩ ⟨Nat.le_of_ble_eq_true rfl, Nat.le_of_ble_eq_true rfl⟩ rfl rfl (Nat.le_of_ble_eq_true rfl) rfl (by decide +kernel) rfl (by decide +kernel) (by decide +kernel) ⟨Nat.zero_le _, Nat.zero_le _⟩ rfl (by decide +kernel) dX0_findNearest_21 rfl ?_
      obtain ⟨v3_3, ev3_3, h⟩ := nam_s h
      refine g_iinc (v := v3_3) (lv' := [(3, .int v3_3), (0, .ref a_me), (1, .ref a_q1), (2, .int v2)]) X 3 rfl (by rw [ev3_3]; rfl) (by decide) rfl dX0_findNearest_24 rfl ?_
      refine g_goto (tgt := 2) X dX0_findNearest_27 (by decide) ?_
      refine g_lvs [1, 2, 3, 0] rfl ?_
      exact ih _ _ h
set_option maxHeartbeats 4000000 in
set_option maxRecDepth 100000 in
theorem c_X0_findNearest (l : Launch) (D : va_G) (cA : ClassId) (a_me a_q1 a_height a_into a_nearest a_nearest_cells a_q1_one a_q1_two a_q1_length a_q1_draught a_q1_one_cells a_q1_two_cells : Nat) (u_breathing : Int32) (u_q1_doors : Int32) (c_nearest : A32) (c_q1_galleries : Int32) (c_q1_shafts : Int32) (c_q1_one : A32) (c_q1_two : A32) (v2 : Int32) (z : A32) (h : f_X0_findNearest c_nearest c_q1_galleries c_q1_shafts c_q1_one c_q1_two v2 = some z) : CtV l yX0_findNearest wsX0_findNearest rm_X0_findNearest D cA [.ref a_me, .ref a_q1, .int v2] (w_X0_findNearest cA a_me a_q1 a_height a_into a_nearest a_nearest_cells a_q1_one a_q1_two a_q1_length a_q1_draught a_q1_one_cells a_q1_two_cells u_breathing u_q1_doors c_nearest c_q1_galleries c_q1_shafts c_q1_one c_q1_two) Unit (fun _ => (w_X0_findNearest cA a_me a_q1 a_height a_into a_nearest a_nearest_cells a_q1_one a_q1_two a_q1_length a_q1_draught a_q1_one_cells a_q1_two_cells u_breathing u_q1_doors z c_q1_galleries c_q1_shafts c_q1_one c_q1_two)) 0 0 := by
  refine ct_V (maxL := 7) (cc := cX0_findNearest) (by decide) rfl (Nat.le_of_ble_eq_true rfl) rfl (fun p e s m args below meth c A Q X _ hret => ?_)
  have hret := hret ()
  have h : (f_X0_findNearest_b2 c_q1_galleries c_q1_shafts c_q1_one c_q1_two v2 FU c_nearest 0 : Option (A32)) = some z := h
  refine g_iconst (v := 0) X dX0_findNearest_0 (by decide) rfl ?_
  refine g_istore_n (lv' := [(3, .int 0), (0, .ref a_me), (1, .ref a_q1), (2, .int v2)]) X rfl (by decide) rfl dX0_findNearest_1 rfl ?_
  refine g_lvs [1, 2, 3, 0] rfl ?_
  exact t_X0_findNearest_b2 X hret _ _ _ h
abbrev rm_X5_shaftHeight : Room := { frames := 1, cells := 0, slots := 0, locals := 21 }
theorem hd_X5_shaftHeight : yX5_shaftHeight.cls ≠ "java/lang/invoke/MethodHandle" ∧ yX5_shaftHeight.cls ≠ "java/lang/invoke/VarHandle" ∧ (parseMethodDescriptor yX5_shaftHeight.desc).map (fun d => d.parameters.length) = some 2 := by decide +kernel
theorem iw_X5_shaftHeight_X5 : ∀ w ∈ wsX50, w ∈ wsX5_shaftHeight := fun w h => List.mem_cons_of_mem _ (List.mem_append_left _ (List.mem_append_right _ h))
theorem fl_X5_shaftHeight_X5_5 : Cond.fieldLink RX5 26 RX5 (TX5 5).2.1 (TX5 5).2.2.1 ∈ wsX5_shaftHeight := List.mem_of_getElem? (i := 1) rfl
abbrev w_X5_shaftHeight (cA : ClassId) (a_me a_one a_two a_length a_draught a_draught_cells : Nat) (u_galleries : Int32) (u_doors : Int32) (u_shafts : Int32) (c_draught : A32) : va_W := [(a_me, .inr (5, [.int u_galleries, .ref a_one, .ref a_two, .ref a_length, .int u_doors, .ref a_draught, .int u_shafts])), (a_draught, .inr (8, [.ref a_draught_cells])), (a_draught_cells, .inl (cA, 7, .inl c_draught))]
set_option maxHeartbeats 4000000 in
set_option maxRecDepth 100000 in
theorem t_X5_shaftHeight_b23 {l : Launch} {D : va_G} {cA : ClassId} {p : Program} {e : Env} {s : State} {m : MethodId} {args : Array Value} {below : List Frame} {meth : Method} {c : Code} {A : Nat → Prop} {Q : State → Prop} {z : Int32} {a_me a_one a_two a_length a_draught a_draught_cells : Nat} {u_galleries : Int32} {u_doors : Int32} {u_shafts : Int32} {c_draught : A32} {t0 : Int32} {t1 : Int32}  (X : GX p s m args c cX5_shaftHeight RX5 wsX5_shaftHeight D cA A 4) (hret : RtI p l e rm_X5_shaftHeight s m args below meth c cX5_shaftHeight D A 4 0 0 Q .int z (w_X5_shaftHeight cA a_me a_one a_two a_length a_draught a_draught_cells u_galleries u_doors u_shafts c_draught))  (h : f_X5_shaftHeight_b23 t0 t1 = some z) : G p l e rm_X5_shaftHeight s m args below meth c D A 4 0 0 Q 23 [] [.int t1, .int t0] (w_X5_shaftHeight cA a_me a_one a_two a_length a_draught a_draught_cells u_galleries u_doors u_shafts c_draught) := by
  have h : (some (t0 * t1) : Option (Int32)) = some z := h
  refine g_imul X dX5_shaftHeight_23 rfl ?_
  cases Option.some.inj h
  exact hret _ _ dX5_shaftHeight_24 rfl
set_option maxHeartbeats 4000000 in
set_option maxRecDepth 100000 in
theorem c_X5_shaftHeight (l : Launch) (D : va_G) (cA : ClassId) (a_me a_one a_two a_length a_draught a_draught_cells : Nat) (u_galleries : Int32) (u_doors : Int32) (u_shafts : Int32) (c_draught : A32) (v1 : Int32) (v2 : Int32) (z : Int32) (h : f_X5_shaftHeight c_draught v1 v2 = some z) : CtI l yX5_shaftHeight wsX5_shaftHeight rm_X5_shaftHeight D cA [.ref a_me, .int v1, .int v2] (w_X5_shaftHeight cA a_me a_one a_two a_length a_draught a_draught_cells u_galleries u_doors u_shafts c_draught) z (w_X5_shaftHeight cA a_me a_one a_two a_length a_draught a_draught_cells u_galleries u_doors u_shafts c_draught) := by
  refine ct_I (maxL := 4) (ty := .int) (cc := cX5_shaftHeight) (by decide) rfl (Nat.le_of_ble_eq_true rfl) rfl (fun p e s m args below meth c A Q X hret => ?_)
  have h : (Option.bind (f_X8_get 7 c_draught v1) fun z_1 => if v2 = 0 then f_X5_shaftHeight_b23 12 z_1 else f_X5_shaftHeight_b23 12 (9 - z_1) : Option (Int32)) = some z := h
  refine g_aload_n X 0 rfl rfl dX5_shaftHeight_0 rfl ?_
  refine g_getf (C := RX5) (T := TX5) (N := 7) (v := .ref a_draught) X 0 rfl vc_X5 5 (by decide) iw_X5_shaftHeight_X5 fl_X5_shaftHeight_X5_5 rfl rfl dX5_shaftHeight_1 rfl ?_
  refine g_iload_n X 1 rfl rfl dX5_shaftHeight_4 rfl ?_
  obtain ⟨z_1, hz_1, h⟩ := bnd_s h
  refine g_callVI (rm := rm_X8_get) (As := [.int v1]) (r := z_1) (W0 := (w_X8_get cA a_draught a_draught_cells 7 c_draught)) (W1 := (w_X8_get cA a_draught a_draught_cells 7 c_draught)) (isC := [1, 2]) (isR := [0]) (perm := [0, 1, 2]) (ws' := (w_X5_shaftHeight cA a_me a_one a_two a_length a_draught a_draught_cells u_galleries u_doors u_shafts c_draught)) X (c_X8_get l D cA a_draught a_draught_cells 7 c_draught v1 _ hz_1) 1 rfl rfl rfl gX5_shaftHeight_X8_get rfl rfl rfl ⟨rfl, hd_X8_get⟩ ⟨Nat.le_of_ble_eq_true rfl, Nat.le_of_ble_eq_true rfl⟩ rfl rfl (Nat.le_of_ble_eq_true rfl) rfl (by decide +kernel) rfl (by decide +kernel) (by decide +kernel) ⟨Nat.zero_le _, Nat.zero_le _⟩ rfl (by decide +kernel) dX5_shaftHeight_5 rfl ?_
  refine g_istore_n (lv' := [(3, .int z_1), (0, .ref a_me), (1, .int v1), (2, .int v2)]) X rfl (by decide) rfl dX5_shaftHeight_8 rfl ?_
  refine g_bipush (v := 12) X dX5_shaftHeight_9 (by decide) rfl ?_
  refine g_iload_n X 3 rfl rfl dX5_shaftHeight_11 rfl ?_
  refine g_if_eq (tgt := 22) X dX5_shaftHeight_12 (by decide) rfl h (fun c_2 h => ?_) (fun c_2 h => ?_)
  · refine g_iload_n X 0 rfl rfl dX5_shaftHeight_22 rfl ?_
    refine g_lvs [] rfl ?_
    exact t_X5_shaftHeight_b23 X hret h
  · refine g_bipush (v := 9) X dX5_shaftHeight_15 (by decide) rfl ?_
    refine g_iload_n X 0 rfl rfl dX5_shaftHeight_17 rfl ?_
    refine g_isub X dX5_shaftHeight_18 rfl ?_
    refine g_goto (tgt := 23) X dX5_shaftHeight_19 (by decide) ?_
    refine g_lvs [] rfl ?_
    exact t_X5_shaftHeight_b23 X hret h
abbrev rm_X0_heightOf : Room := { frames := 2, cells := 0, slots := 0, locals := 44 }
theorem hd_X0_heightOf : yX0_heightOf.cls ≠ "java/lang/invoke/MethodHandle" ∧ yX0_heightOf.cls ≠ "java/lang/invoke/VarHandle" ∧ (parseMethodDescriptor yX0_heightOf.desc).map (fun d => d.parameters.length) = some 3 := by decide +kernel
abbrev w_X0_heightOf (cA : ClassId) (a_q1 a_q1_one a_q1_two a_q1_length a_q1_draught a_q1_draught_cells : Nat) (u_q1_galleries : Int32) (u_q1_doors : Int32) (u_q1_shafts : Int32) (c_q1_draught : A32) : va_W := [(a_q1, .inr (5, [.int u_q1_galleries, .ref a_q1_one, .ref a_q1_two, .ref a_q1_length, .int u_q1_doors, .ref a_q1_draught, .int u_q1_shafts])), (a_q1_draught, .inr (8, [.ref a_q1_draught_cells])), (a_q1_draught_cells, .inl (cA, 7, .inl c_q1_draught))]
set_option maxHeartbeats 4000000 in
set_option maxRecDepth 100000 in
theorem t_X0_heightOf_b46 {l : Launch} {D : va_G} {cA : ClassId} {p : Program} {e : Env} {s : State} {m : MethodId} {args : Array Value} {below : List Frame} {meth : Method} {c : Code} {A : Nat → Prop} {Q : State → Prop} {z : Int32} {a_q1 a_q1_one a_q1_two a_q1_length a_q1_draught a_q1_draught_cells : Nat} {u_q1_galleries : Int32} {u_q1_doors : Int32} {u_q1_shafts : Int32}  {c_q1_draught : A32} {v0 : Int32} {v2 : Int32} {v3 : Int32} {v4 : Int32} {v5 : Int32} {k17 : Int32 → Int32 → Option (Int32)} (X : GX p s m args c cX0_heightOf RX0 wsX0_heightOf D cA A 6) (hret : RtI p l e rm_X0_heightOf s m args below meth c cX0_heightOf D A 6 0 0 Q .int z (w_X0_heightOf cA a_q1 a_q1_one a_q1_two a_q1_length a_q1_draught a_q1_draught_cells u_q1_galleries u_q1_doors u_q1_shafts c_q1_draught)) (hk17 : ∀ (v4 : Int32) (v5 : Int32), k17 v4 v5 = some z → G p l e rm_X0_heightOf s m args below meth c D A 6 0 0 Q 17 [(0, .int v0), (1, .ref a_q1), (2, .int v2), (3, .int v3), (4, .int v4), (5, .int v5)] [] (w_X0_heightOf cA a_q1 a_q1_one a_q1_two a_q1_length a_q1_draught a_q1_draught_cells u_q1_galleries u_q1_doors u_q1_shafts c_q1_draught)) (h : f_X0_heightOf_b46 k17 c_q1_draught v0 v2 v3 v4 v5 = some z) : G p l e rm_X0_heightOf s m args below meth c D A 6 0 0 Q 46 [(0, .int v0), (1, .ref a_q1), (2, .int v2), (3, .int v3), (4, .int v4), (5, .int v5)] [] (w_X0_heightOf cA a_q1 a_q1_one a_q1_two a_q1_length a_q1_draught a_q1_draught_cells u_q1_galleries u_q1_doors u_q1_shafts c_q1_draught) := by
  have h : (nam (v5 + 1) fun v5_1 => k17 v4 v5_1 : Option (Int32)) = some z := h
  obtain ⟨v5_1, ev5_1, h⟩ := nam_s h
  refine g_iinc (v := v5_1) (lv' := [(5, .int v5_1), (0, .int v0), (1, .ref a_q1), (2, .int v2), (3, .int v3), (4, .int v4)]) X 5 rfl (by rw [ev5_1]; rfl) (by decide) rfl dX0_heightOf_46 rfl ?_
  refine g_goto (tgt := 17) X dX0_heightOf_49 (by decide) ?_
  refine g_lvs [1, 2, 3, 4, 5, 0] rfl ?_
  exact hk17 _ _ h
set_option maxHeartbeats 4000000 in
set_option maxRecDepth 100000 in
theorem t_X0_heightOf_b17 {l : Launch} {D : va_G} {cA : ClassId} {p : Program} {e : Env} {s : State} {m : MethodId} {args : Array Value} {below : List Frame} {meth : Method} {c : Code} {A : Nat → Prop} {Q : State → Prop} {z : Int32} {a_q1 a_q1_one a_q1_two a_q1_length a_q1_draught a_q1_draught_cells : Nat} {u_q1_galleries : Int32} {u_q1_doors : Int32} {u_q1_shafts : Int32}  {c_q1_draught : A32} {v0 : Int32} {v2 : Int32} {v3 : Int32}  (X : GX p s m args c cX0_heightOf RX0 wsX0_heightOf D cA A 6) (hret : RtI p l e rm_X0_heightOf s m args below meth c cX0_heightOf D A 6 0 0 Q .int z (w_X0_heightOf cA a_q1 a_q1_one a_q1_two a_q1_length a_q1_draught a_q1_draught_cells u_q1_galleries u_q1_doors u_q1_shafts c_q1_draught))  : ∀ (fu : Nat) (v4 : Int32) (v5 : Int32), f_X0_heightOf_b17 c_q1_draught v0 v2 v3 fu v4 v5 = some z → G p l e rm_X0_heightOf s m args below meth c D A 6 0 0 Q 17 [(0, .int v0), (1, .ref a_q1), (2, .int v2), (3, .int v3), (4, .int v4), (5, .int v5)] [] (w_X0_heightOf cA a_q1 a_q1_one a_q1_two a_q1_length a_q1_draught a_q1_draught_cells u_q1_galleries u_q1_doors u_q1_shafts c_q1_draught) := by
  intro fu
  induction fu with
  | zero => intro v4 v5 h; exact absurd (show (none : Option (Int32)) = some z from h) (by simp)
  | succ fu ih =>
    intro v4 v5 h
    have h : (if 7 ≤ v5 then if v3 = 0 then none else some (v4 / v3) else Option.bind (f_X10_bit v0 v5) fun z_3 => if z_3 = 1 then Option.bind (f_X5_shaftHeight c_q1_draught v5 v2) fun z_5 => nam (v4 + z_5) fun v4_6 => f_X0_heightOf_b46 (f_X0_heightOf_b17 c_q1_draught v0 v2 v3 fu) c_q1_draught v0 v2 v3 v4_6 v5 else f_X0_heightOf_b46 (f_X0_heightOf_b17 c_q1_draught v0 v2 v3 fu) c_q1_draught v0 v2 v3 v4 v5 : Option (Int32)) = some z := h
    refine g_iload X 5 rfl dX0_heightOf_17 rfl ?_
    refine g_bipush (v := 7) X dX0_heightOf_19 (by decide) rfl ?_
    refine g_icmp_ge (tgt := 52) X dX0_heightOf_21 (by decide) rfl h (fun c_1 h => ?_) (fun c_1 h => ?_)
    · refine g_iload X 4 rfl dX0_heightOf_52 rfl ?_
      refine g_iload_n X 3 rfl rfl dX0_heightOf_54 rfl ?_
      obtain ⟨c_2, h⟩ := ite_n h
      refine g_idiv X dX0_heightOf_55 c_2 rfl ?_
      cases Option.some.inj h
      exact hret _ _ dX0_heightOf_56 rfl
    · refine g_iload_n X 0 rfl rfl dX0_heightOf_24 rfl ?_
      refine g_iload X 5 rfl dX0_heightOf_25 rfl ?_
      obtain ⟨z_3, hz_3, h⟩ := bnd_s h
      refine g_callSNI (rm := rm_X10_bit) (As := [.int v0, .int v5]) (r := z_3) (W0 := []) (W1 := []) (isC := []) (isR := [0, 1, 2]) (perm := [0, 1, 2]) (ws' := (w_X0_heightOf cA a_q1 a_q1_one a_q1_two a_q1_length a_q1_draught a_q1_draught_cells u_q1_galleries u_q1_doors u_q1_shafts c_q1_draught)) X (c_X10_bit l D cA v0 v5 _ hz_3) gX0_heightOf_X10_bit_n54 (by decide +kernel) (by decide +kernel) (by decide +kernel) rfl rfl rfl hd_X10_bit ⟨Nat.le_of_ble_eq_true rfl, Nat.le_of_ble_eq_true rfl⟩ rfl rfl (Nat.le_of_ble_eq_true rfl) rfl (by decide +kernel) rfl (by decide +kernel) (by decide +kernel) ⟨Nat.zero_le _, Nat.zero_le _⟩ rfl (by decide +kernel) dX0_heightOf_27 rfl ?_
      refine g_iconst (v := 1) X dX0_heightOf_30 (by decide) rfl ?_
      refine g_icmp_ne (tgt := 46) X dX0_heightOf_31 (by decide) rfl h (fun c_4 h => ?_) (fun c_4 h => ?_)
      · exact t_X0_heightOf_b46 X hret ih h
      · refine g_iload X 4 rfl dX0_heightOf_34 rfl ?_
        refine g_aload_n X 1 rfl rfl dX0_heightOf_36 rfl ?_
        refine g_iload X 5 rfl dX0_heightOf_37 rfl ?_
        refine g_iload_n X 2 rfl rfl dX0_heightOf_39 rfl ?_
        obtain ⟨z_5, hz_5, h⟩ := bnd_s h
        refine g_callVI (rm := rm_X5_shaftHeight) (As := [.int v5, .int v2]) (r := z_5) (W0 := (w_X5_shaftHeight cA a_q1 a_q1_one a_q1_two a_q1_length a_q1_draught a_q1_draught_cells u_q1_galleries u_q1_doors u_q1_shafts c_q1_draught)) (W1 := (w_X5_shaftHeight cA a_q1 a_q1_one a_q1_two a_q1_length a_q1_draught a_q1_draught_cells u_q1_galleries u_q1_doors u_q1_shafts c_q1_draught)) (isC := [0, 1, 2]) (isR := []) (perm := [0, 1, 2]) (ws' := (w_X0_heightOf cA a_q1 a_q1_one a_q1_two a_q1_length a_q1_draught a_q1_draught_cells u_q1_galleries u_q1_doors u_q1_shafts c_q1_draught)) X (c_X5_shaftHeight l D cA a_q1 a_q1_one a_q1_two a_q1_length a_q1_draught a_q1_draught_cells u_q1_galleries u_q1_doors u_q1_shafts c_q1_draught v5 v2 _ hz_5) 0 rfl rfl rfl gX0_heightOf_X5_shaftHeight rfl rfl rfl ⟨rfl, hd_X5_shaftHeight⟩ ⟨Nat.le_of_ble_eq_true rfl, Nat.le_of_ble_eq_true rfl⟩ rfl rfl (Nat.le_of_ble_eq_true rfl) rfl (by decide +kernel) rfl (by decide +kernel) (by decide +kernel) ⟨Nat.zero_le _, Nat.zero_le _⟩ rfl (by decide +kernel) dX0_heightOf_40 rfl ?_
        refine g_iadd X dX0_heightOf_43 rfl ?_
        refine g_nami h (fun v4_6 h => ?_)
        refine g_istore (lv' := [(4, .int v4_6), (0, .int v0), (1, .ref a_q1), (2, .int v2), (3, .int v3), (5, .int v5)]) X (by decide) rfl dX0_heightOf_44 rfl ?_
        refine g_lvs [1, 2, 3, 4, 0, 5] rfl ?_
        exact t_X0_heightOf_b46 X hret ih h
set_option maxHeartbeats 4000000 in
set_option maxRecDepth 100000 in
theorem c_X0_heightOf (l : Launch) (D : va_G) (cA : ClassId) (a_q1 a_q1_one a_q1_two a_q1_length a_q1_draught a_q1_draught_cells : Nat) (u_q1_galleries : Int32) (u_q1_doors : Int32) (u_q1_shafts : Int32) (c_q1_draught : A32) (v0 : Int32) (v2 : Int32) (z : Int32) (h : f_X0_heightOf c_q1_draught v0 v2 = some z) : CtI l yX0_heightOf wsX0_heightOf rm_X0_heightOf D cA [.int v0, .ref a_q1, .int v2] (w_X0_heightOf cA a_q1 a_q1_one a_q1_two a_q1_length a_q1_draught a_q1_draught_cells u_q1_galleries u_q1_doors u_q1_shafts c_q1_draught) z (w_X0_heightOf cA a_q1 a_q1_one a_q1_two a_q1_length a_q1_draught a_q1_draught_cells u_q1_galleries u_q1_doors u_q1_shafts c_q1_draught) := by
  refine ct_I (maxL := 6) (ty := .int) (cc := cX0_heightOf) (by decide) rfl (Nat.le_of_ble_eq_true rfl) rfl (fun p e s m args below meth c A Q X hret => ?_)
  have h : (Option.bind (f_J6_bitCount_0f7a4 v0) fun z_1 => if z_1 = 0 then some (-1) else f_X0_heightOf_b17 c_q1_draught v0 v2 z_1 FU 0 0 : Option (Int32)) = some z := h
  refine g_iload_n X 0 rfl rfl dX0_heightOf_0 rfl ?_
  obtain ⟨z_1, hz_1, h⟩ := bnd_s h
  refine g_callSI (rm := rm_J6_bitCount_0f7a4) (As := [.int v0]) (r := z_1) (W0 := []) (W1 := []) (isC := []) (isR := [0, 1, 2]) (perm := [0, 1, 2]) (ws' := (w_X0_heightOf cA a_q1 a_q1_one a_q1_two a_q1_length a_q1_draught a_q1_draught_cells u_q1_galleries u_q1_doors u_q1_shafts c_q1_draught)) X (c_J6_bitCount_0f7a4 l D cA v0 _ hz_1) gX0_heightOf_J6_bitCount_0f7a4 rfl rfl rfl hd_J6_bitCount_0f7a4 ⟨Nat.le_of_ble_eq_true rfl, Nat.le_of_ble_eq_true rfl⟩ rfl rfl (Nat.le_of_ble_eq_true rfl) rfl (by decide +kernel) rfl (by decide +kernel) (by decide +kernel) ⟨Nat.zero_le _, Nat.zero_le _⟩ rfl (by decide +kernel) dX0_heightOf_1 rfl ?_
  refine g_istore_n (lv' := [(3, .int z_1), (0, .int v0), (1, .ref a_q1), (2, .int v2)]) X rfl (by decide) rfl dX0_heightOf_4 rfl ?_
  refine g_iload_n X 0 rfl rfl dX0_heightOf_5 rfl ?_
  refine g_if_ne (tgt := 11) X dX0_heightOf_6 (by decide) rfl h (fun c_2 h => ?_) (fun c_2 h => ?_)
  · refine g_iconst (v := 0) X dX0_heightOf_11 (by decide) rfl ?_
    refine g_istore (lv' := [(4, .int 0), (3, .int z_1), (0, .int v0), (1, .ref a_q1), (2, .int v2)]) X (by decide) rfl dX0_heightOf_12 rfl ?_
    refine g_iconst (v := 0) X dX0_heightOf_14 (by decide) rfl ?_
    refine g_istore (lv' := [(5, .int 0), (4, .int 0), (3, .int z_1), (0, .int v0), (1, .ref a_q1), (2, .int v2)]) X (by decide) rfl dX0_heightOf_15 rfl ?_
    refine g_lvs [3, 4, 5, 2, 1, 0] rfl ?_
    exact t_X0_heightOf_b17 X hret _ _ _ h
  · refine g_iconst (v := (-1)) X dX0_heightOf_9 (by decide) rfl ?_
    cases Option.some.inj h
    exact hret _ _ dX0_heightOf_10 rfl
abbrev rm_X0_lower : Room := { frames := 1, cells := 0, slots := 0, locals := 21 }
theorem hd_X0_lower : yX0_lower.cls ≠ "java/lang/invoke/MethodHandle" ∧ yX0_lower.cls ≠ "java/lang/invoke/VarHandle" ∧ (parseMethodDescriptor yX0_lower.desc).map (fun d => d.parameters.length) = some 2 := by decide +kernel
theorem iw_X0_lower_X0 : ∀ w ∈ wsX00, w ∈ wsX0_lower := fun w h => List.mem_cons_of_mem _ (List.mem_append_left _ (List.mem_append_right _ h))
theorem fl_X0_lower_X0_0 : Cond.fieldLink RX0 14 RX0 (TX0 0).2.1 (TX0 0).2.2.1 ∈ wsX0_lower := List.mem_of_getElem? (i := 1) rfl
abbrev w_X0_lower (cA : ClassId) (a_me a_height a_into a_nearest a_height_cells : Nat) (u_breathing : Int32) (c_height : A32) : va_W := [(a_me, .inr (0, [.ref a_height, .ref a_into, .int u_breathing, .ref a_nearest])), (a_height, .inr (8, [.ref a_height_cells])), (a_height_cells, .inl (cA, 7, .inl c_height))]
set_option maxHeartbeats 4000000 in
set_option maxRecDepth 100000 in
theorem c_X0_lower (l : Launch) (D : va_G) (cA : ClassId) (a_me a_height a_into a_nearest a_height_cells : Nat) (u_breathing : Int32) (c_height : A32) (v1 : Int32) (v2 : Int32) (z : Int32) (h : f_X0_lower c_height v1 v2 = some z) : CtI l yX0_lower wsX0_lower rm_X0_lower D cA [.ref a_me, .int v1, .int v2] (w_X0_lower cA a_me a_height a_into a_nearest a_height_cells u_breathing c_height) z (w_X0_lower cA a_me a_height a_into a_nearest a_height_cells u_breathing c_height) := by
  refine ct_I (maxL := 5) (ty := .int) (cc := cX0_lower) (by decide) rfl (Nat.le_of_ble_eq_true rfl) rfl (fun p e s m args below meth c A Q X hret => ?_)
  have h : (Option.bind (f_X8_get 7 c_height v1) fun z_1 => Option.bind (f_X8_get 7 c_height v2) fun z_2 => if z_1 = z_2 then some (-1) else if z_1 = (-1) then some (-1) else if z_2 = (-1) then some (-1) else if z_2 ≤ z_1 then some v2 else some v1 : Option (Int32)) = some z := h
  refine g_aload_n X 0 rfl rfl dX0_lower_0 rfl ?_
  refine g_getf (C := RX0) (T := TX0) (N := 4) (v := .ref a_height) X 0 rfl vc_X0 0 (by decide) iw_X0_lower_X0 fl_X0_lower_X0_0 rfl rfl dX0_lower_1 rfl ?_
  refine g_iload_n X 1 rfl rfl dX0_lower_4 rfl ?_
  obtain ⟨z_1, hz_1, h⟩ := bnd_s h
  refine g_callVI (rm := rm_X8_get) (As := [.int v1]) (r := z_1) (W0 := (w_X8_get cA a_height a_height_cells 7 c_height)) (W1 := (w_X8_get cA a_height a_height_cells 7 c_height)) (isC := [1, 2]) (isR := [0]) (perm := [0, 1, 2]) (ws' := (w_X0_lower cA a_me a_height a_into a_nearest a_height_cells u_breathing c_height)) X (c_X8_get l D cA a_height a_height_cells 7 c_height v1 _ hz_1) 1 rfl rfl rfl gX0_lower_X8_get rfl rfl rfl ⟨rfl, hd_X8_get⟩ ⟨Nat.le_of_ble_eq_true rfl, Nat.le_of_ble_eq_true rfl⟩ rfl rfl (Nat.le_of_ble_eq_true rfl) rfl (by decide +kernel) rfl (by decide +kernel) (by decide +kernel) ⟨Nat.zero_le _, Nat.zero_le _⟩ rfl (by decide +kernel) dX0_lower_5 rfl ?_
  refine g_istore_n (lv' := [(3, .int z_1), (0, .ref a_me), (1, .int v1), (2, .int v2)]) X rfl (by decide) rfl dX0_lower_8 rfl ?_
  refine g_aload_n X 1 rfl rfl dX0_lower_9 rfl ?_
  refine g_getf (C := RX0) (T := TX0) (N := 4) (v := .ref a_height) X 0 rfl vc_X0 0 (by decide) iw_X0_lower_X0 fl_X0_lower_X0_0 rfl rfl dX0_lower_10 rfl ?_
  refine g_iload_n X 3 rfl rfl dX0_lower_13 rfl ?_
  obtain ⟨z_2, hz_2, h⟩ := bnd_s h
  refine g_callVI (rm := rm_X8_get) (As := [.int v2]) (r := z_2) (W0 := (w_X8_get cA a_height a_height_cells 7 c_height)) (W1 := (w_X8_get cA a_height a_height_cells 7 c_height)) (isC := [1, 2]) (isR := [0]) (perm := [0, 1, 2]) (ws' := (w_X0_lower cA a_me a_height a_into a_nearest a_height_cells u_breathing c_height)) X (c_X8_get l D cA a_height a_height_cells 7 c_height v2 _ hz_2) 1 rfl rfl rfl gX0_lower_X8_get rfl rfl rfl ⟨rfl, hd_X8_get⟩ ⟨Nat.le_of_ble_eq_true rfl, Nat.le_of_ble_eq_true rfl⟩ rfl rfl (Nat.le_of_ble_eq_true rfl) rfl (by decide +kernel) rfl (by decide +kernel) (by decide +kernel) ⟨Nat.zero_le _, Nat.zero_le _⟩ rfl (by decide +kernel) dX0_lower_14 rfl ?_
  refine g_istore (lv' := [(4, .int z_2), (3, .int z_1), (0, .ref a_me), (1, .int v1), (2, .int v2)]) X (by decide) rfl dX0_lower_17 rfl ?_
  refine g_iload_n X 1 rfl rfl dX0_lower_19 rfl ?_
  refine g_iload X 0 rfl dX0_lower_20 rfl ?_
  refine g_icmp_eq (tgt := 36) X dX0_lower_22 (by decide) rfl h (fun c_3 h => ?_) (fun c_3 h => ?_)
  · refine g_iconst (v := (-1)) X dX0_lower_36 (by decide) rfl ?_
    cases Option.some.inj h
    exact hret _ _ dX0_lower_37 rfl
  · refine g_iload_n X 1 rfl rfl dX0_lower_25 rfl ?_
    refine g_iconst (v := (-1)) X dX0_lower_26 (by decide) rfl ?_
    refine g_icmp_eq (tgt := 36) X dX0_lower_27 (by decide) rfl h (fun c_4 h => ?_) (fun c_4 h => ?_)
    · refine g_iconst (v := (-1)) X dX0_lower_36 (by decide) rfl ?_
      cases Option.some.inj h
      exact hret _ _ dX0_lower_37 rfl
    · refine g_iload X 0 rfl dX0_lower_30 rfl ?_
      refine g_iconst (v := (-1)) X dX0_lower_32 (by decide) rfl ?_
      refine g_icmp_ne (tgt := 38) X dX0_lower_33 (by decide) rfl h (fun c_5 h => ?_) (fun c_5 h => ?_)
      · refine g_iload_n X 1 rfl rfl dX0_lower_38 rfl ?_
        refine g_iload X 0 rfl dX0_lower_39 rfl ?_
        refine g_icmp_ge (tgt := 48) X dX0_lower_41 (by decide) rfl h (fun c_6 h => ?_) (fun c_6 h => ?_)
        · refine g_iload_n X 4 rfl rfl dX0_lower_48 rfl ?_
          cases Option.some.inj h
          exact hret _ _ dX0_lower_49 rfl
        · refine g_iload_n X 3 rfl rfl dX0_lower_44 rfl ?_
          refine g_goto (tgt := 49) X dX0_lower_45 (by decide) ?_
          cases Option.some.inj h
          exact hret _ _ dX0_lower_49 rfl
      · refine g_iconst (v := (-1)) X dX0_lower_36 (by decide) rfl ?_
        cases Option.some.inj h
        exact hret _ _ dX0_lower_37 rfl
abbrev rm_X0_findFlows : Room := { frames := 2, cells := 0, slots := 0, locals := 45 }
theorem hd_X0_findFlows : yX0_findFlows.cls ≠ "java/lang/invoke/MethodHandle" ∧ yX0_findFlows.cls ≠ "java/lang/invoke/VarHandle" ∧ (parseMethodDescriptor yX0_findFlows.desc).map (fun d => d.parameters.length) = some 2 := by decide +kernel
theorem iw_X0_findFlows_X0 : ∀ w ∈ wsX00, w ∈ wsX0_findFlows := fun w h => List.mem_cons_of_mem _ (List.mem_append_left _ (List.mem_append_left _ (List.mem_append_right _ h)))
theorem iw_X0_findFlows_X5 : ∀ w ∈ wsX50, w ∈ wsX0_findFlows := fun w h => List.mem_cons_of_mem _ (List.mem_append_left _ (List.mem_append_right _ h))
theorem fl_X0_findFlows_X0_2 : Cond.fieldLink RX0 77 RX0 (TX0 2).2.1 (TX0 2).2.2.1 ∈ wsX0_findFlows := List.mem_of_getElem? (i := 1) rfl
theorem fl_X0_findFlows_X5_0 : Cond.fieldLink RX0 51 RX5 (TX5 0).2.1 (TX5 0).2.2.1 ∈ wsX0_findFlows := List.mem_of_getElem? (i := 2) rfl
theorem fl_X0_findFlows_X5_1 : Cond.fieldLink RX0 58 RX5 (TX5 1).2.1 (TX5 1).2.2.1 ∈ wsX0_findFlows := List.mem_of_getElem? (i := 3) rfl
theorem fl_X0_findFlows_X5_2 : Cond.fieldLink RX0 61 RX5 (TX5 2).2.1 (TX5 2).2.2.1 ∈ wsX0_findFlows := List.mem_of_getElem? (i := 4) rfl
theorem fl_X0_findFlows_X0_1 : Cond.fieldLink RX0 20 RX0 (TX0 1).2.1 (TX0 1).2.2.1 ∈ wsX0_findFlows := List.mem_of_getElem? (i := 5) rfl
abbrev w_X0_findFlows (cA : ClassId) (a_me a_q1 a_height a_into a_nearest a_height_cells a_into_cells a_q1_one a_q1_two a_q1_length a_q1_draught a_q1_one_cells a_q1_two_cells : Nat) (u_q1_doors : Int32) (u_q1_shafts : Int32) (c_breathing : Int32) (c_height : A32) (c_into : A32) (c_q1_galleries : Int32) (c_q1_one : A32) (c_q1_two : A32) : va_W := [(a_me, .inr (0, [.ref a_height, .ref a_into, .int c_breathing, .ref a_nearest])), (a_height, .inr (8, [.ref a_height_cells])), (a_height_cells, .inl (cA, 7, .inl c_height)), (a_into, .inr (8, [.ref a_into_cells])), (a_into_cells, .inl (cA, 10, .inl c_into)), (a_q1, .inr (5, [.int c_q1_galleries, .ref a_q1_one, .ref a_q1_two, .ref a_q1_length, .int u_q1_doors, .ref a_q1_draught, .int u_q1_shafts])), (a_q1_one, .inr (8, [.ref a_q1_one_cells])), (a_q1_one_cells, .inl (cA, 10, .inl c_q1_one)), (a_q1_two, .inr (8, [.ref a_q1_two_cells])), (a_q1_two_cells, .inl (cA, 10, .inl c_q1_two))]
set_option maxHeartbeats 4000000 in
set_option maxRecDepth 100000 in
theorem t_X0_findFlows_b92 {l : Launch} {D : va_G} {cA : ClassId} {p : Program} {e : Env} {s : State} {m : MethodId} {args : Array Value} {below : List Frame} {meth : Method} {c : Code} {A : Nat → Prop} {Q : State → Prop} {z : Int32 × A32} {a_me a_q1 a_height a_into a_nearest a_height_cells a_into_cells a_q1_one a_q1_two a_q1_length a_q1_draught a_q1_one_cells a_q1_two_cells : Nat} {u_q1_doors : Int32} {u_q1_shafts : Int32}  {c_breathing : Int32} {c_height : A32} {c_into : A32} {c_q1_galleries : Int32} {c_q1_one : A32} {c_q1_two : A32} {v2 : Int32} {v3 : Int32} {k7 : Int32 → A32 → Int32 → Option (Int32 × A32)} (X : GX p s m args c cX0_findFlows RX0 wsX0_findFlows D cA A 7) (hret : RtV p l e rm_X0_findFlows s m args below meth c cX0_findFlows D A 7 0 0 Q (w_X0_findFlows cA a_me a_q1 a_height a_into a_nearest a_height_cells a_into_cells a_q1_one a_q1_two a_q1_length a_q1_draught a_q1_one_cells a_q1_two_cells u_q1_doors u_q1_shafts z.1 c_height z.2 c_q1_galleries c_q1_one c_q1_two)) (hk7 : ∀ (c_breathing : Int32) (c_into : A32) (v3 : Int32), k7 c_breathing c_into v3 = some z → G p l e rm_X0_findFlows s m args below meth c D A 7 0 0 Q 7 [(0, .ref a_me), (1, .ref a_q1), (2, .int v2), (3, .int v3)] [] (w_X0_findFlows cA a_me a_q1 a_height a_into a_nearest a_height_cells a_into_cells a_q1_one a_q1_two a_q1_length a_q1_draught a_q1_one_cells a_q1_two_cells u_q1_doors u_q1_shafts c_breathing c_height c_into c_q1_galleries c_q1_one c_q1_two)) (h : f_X0_findFlows_b92 k7 c_breathing c_height c_into c_q1_galleries c_q1_one c_q1_two v2 v3 = some z) : G p l e rm_X0_findFlows s m args below meth c D A 7 0 0 Q 92 [(0, .ref a_me), (1, .ref a_q1), (2, .int v2), (3, .int v3)] [] (w_X0_findFlows cA a_me a_q1 a_height a_into a_nearest a_height_cells a_into_cells a_q1_one a_q1_two a_q1_length a_q1_draught a_q1_one_cells a_q1_two_cells u_q1_doors u_q1_shafts c_breathing c_height c_into c_q1_galleries c_q1_one c_q1_two) := by
  have h : (nam (v3 + 1) fun v3_1 => k7 c_breathing c_into v3_1 : Option (Int32 × A32)) = some z := h
  obtain ⟨v3_1, ev3_1, h⟩ := nam_s h
  refine g_iinc (v := v3_1) (lv' := [(3, .int v3_1), (0, .ref a_me), (1, .ref a_q1), (2, .int v2)]) X 3 rfl (by rw [ev3_1]; rfl) (by decide) rfl dX0_findFlows_92 rfl ?_
  refine g_goto (tgt := 7) X dX0_findFlows_95 (by decide) ?_
  refine g_lvs [1, 2, 3, 0] rfl ?_
  exact hk7 _ _ _ h
set_option maxHeartbeats 4000000 in
set_option maxRecDepth 100000 in
theorem t_X0_findFlows_b56 {l : Launch} {D : va_G} {cA : ClassId} {p : Program} {e : Env} {s : State} {m : MethodId} {args : Array Value} {below : List Frame} {meth : Method} {c : Code} {A : Nat → Prop} {Q : State → Prop} {z : Int32 × A32} {a_me a_q1 a_height a_into a_nearest a_height_cells a_into_cells a_q1_one a_q1_two a_q1_length a_q1_draught a_q1_one_cells a_q1_two_cells : Nat} {u_q1_doors : Int32} {u_q1_shafts : Int32}  {c_breathing : Int32} {c_height : A32} {c_into : A32} {c_q1_galleries : Int32} {c_q1_one : A32} {c_q1_two : A32} {t0 : Int32} {v2 : Int32} {v3 : Int32} {v4 : Int32} {v5 : Int32} {k7 : Int32 → A32 → Int32 → Option (Int32 × A32)} (X : GX p s m args c cX0_findFlows RX0 wsX0_findFlows D cA A 7) (hret : RtV p l e rm_X0_findFlows s m args below meth c cX0_findFlows D A 7 0 0 Q (w_X0_findFlows cA a_me a_q1 a_height a_into a_nearest a_height_cells a_into_cells a_q1_one a_q1_two a_q1_length a_q1_draught a_q1_one_cells a_q1_two_cells u_q1_doors u_q1_shafts z.1 c_height z.2 c_q1_galleries c_q1_one c_q1_two)) (hk7 : ∀ (c_breathing : Int32) (c_into : A32) (v3 : Int32), k7 c_breathing c_into v3 = some z → G p l e rm_X0_findFlows s m args below meth c D A 7 0 0 Q 7 [(0, .ref a_me), (1, .ref a_q1), (2, .int v2), (3, .int v3)] [] (w_X0_findFlows cA a_me a_q1 a_height a_into a_nearest a_height_cells a_into_cells a_q1_one a_q1_two a_q1_length a_q1_draught a_q1_one_cells a_q1_two_cells u_q1_doors u_q1_shafts c_breathing c_height c_into c_q1_galleries c_q1_one c_q1_two)) (h : f_X0_findFlows_b56 k7 c_breathing c_height c_into c_q1_galleries c_q1_one c_q1_two t0 v2 v3 v4 v5 = some z) : G p l e rm_X0_findFlows s m args below meth c D A 7 0 0 Q 56 [(0, .ref a_me), (1, .ref a_q1), (2, .int v2), (3, .int v3), (4, .int v4), (5, .int v5)] [.int t0] (w_X0_findFlows cA a_me a_q1 a_height a_into a_nearest a_height_cells a_into_cells a_q1_one a_q1_two a_q1_length a_q1_draught a_q1_one_cells a_q1_two_cells u_q1_doors u_q1_shafts c_breathing c_height c_into c_q1_galleries c_q1_one c_q1_two) := by
  have h : (Option.bind (f_X8_set 10 c_into v3 t0) fun z_1 => if t0 = (-1) then f_X0_findFlows_b92 k7 c_breathing c_height z_1 c_q1_galleries c_q1_one c_q1_two v2 v3 else nam (c_breathing ||| ((1 <<< (v4 &&& 31)) ||| (1 <<< (v5 &&& 31)))) fun w_3 => f_X0_findFlows_b92 k7 w_3 c_height z_1 c_q1_galleries c_q1_one c_q1_two v2 v3 : Option (Int32 × A32)) = some z := h
  refine g_istore (lv' := [(6, .int t0), (0, .ref a_me), (1, .ref a_q1), (2, .int v2), (3, .int v3), (4, .int v4), (5, .int v5)]) X (by decide) rfl dX0_findFlows_56 rfl ?_
  refine g_aload_n X 1 rfl rfl dX0_findFlows_58 rfl ?_
  refine g_getf (C := RX0) (T := TX0) (N := 4) (v := .ref a_into) X 0 rfl vc_X0 1 (by decide) iw_X0_findFlows_X0 fl_X0_findFlows_X0_1 rfl rfl dX0_findFlows_59 rfl ?_
  refine g_iload_n X 4 rfl rfl dX0_findFlows_62 rfl ?_
  refine g_iload X 0 rfl dX0_findFlows_63 rfl ?_
  obtain ⟨z_1, hz_1, h⟩ := bnd_s h
  refine g_callVV (rm := rm_X8_set) (As := [.int v3, .int t0]) (W0 := (w_X8_set cA a_into a_into_cells 10 c_into)) (W1 := (w_X8_set cA a_into a_into_cells 10 z_1)) (isC := [3, 4]) (isR := [0, 1, 2, 5, 6, 7, 8, 9]) (perm := [0, 1, 2, 8, 9, 3, 4, 5, 6, 7]) (ws' := (w_X0_findFlows cA a_me a_q1 a_height a_into a_nearest a_height_cells a_into_cells a_q1_one a_q1_two a_q1_length a_q1_draught a_q1_one_cells a_q1_two_cells u_q1_doors u_q1_shafts c_breathing c_height z_1 c_q1_galleries c_q1_one c_q1_two)) X (c_X8_set l D cA a_into a_into_cells 10 c_into v3 t0 _ hz_1) 3 rfl rfl rfl gX0_findFlows_X8_set rfl rfl rfl ⟨rfl, hd_X8_set⟩ ⟨Nat.le_of_ble_eq_true rfl, Nat.le_of_ble_eq_true rfl⟩ rfl rfl (Nat.le_of_ble_eq_true rfl) rfl (by decide +kernel) rfl (by decide +kernel) (by decide +kernel) ⟨Nat.zero_le _, Nat.zero_le _⟩ rfl (by decide +kernel) dX0_findFlows_65 rfl ?_
  refine g_iload X 0 rfl dX0_findFlows_68 rfl ?_
  refine g_iconst (v := (-1)) X dX0_findFlows_70 (by decide) rfl ?_
  refine g_icmp_eq (tgt := 92) X dX0_findFlows_71 (by decide) rfl h (fun c_2 h => ?_) (fun c_2 h => ?_)
  · refine g_lvs [1, 2, 3, 4] rfl ?_
    exact t_X0_findFlows_b92 X hret hk7 h
  · refine g_aload_n X 1 rfl rfl dX0_findFlows_74 rfl ?_
    refine g_dup X dX0_findFlows_75 rfl rfl ?_
    refine g_getf (C := RX0) (T := TX0) (N := 4) (v := .int c_breathing) X 0 rfl vc_X0 2 (by decide) iw_X0_findFlows_X0 fl_X0_findFlows_X0_2 rfl rfl dX0_findFlows_76 rfl ?_
    refine g_iconst (v := 1) X dX0_findFlows_79 (by decide) rfl ?_
    refine g_iload X 5 rfl dX0_findFlows_80 rfl ?_
    refine g_ishl X dX0_findFlows_82 rfl ?_
    refine g_iconst (v := 1) X dX0_findFlows_83 (by decide) rfl ?_
    refine g_iload X 6 rfl dX0_findFlows_84 rfl ?_
    refine g_ishl X dX0_findFlows_86 rfl ?_
    refine g_ior X dX0_findFlows_87 rfl ?_
    refine g_ior X dX0_findFlows_88 rfl ?_
    refine g_nami h (fun w_3 h => ?_)
    refine g_putf (C := RX0) (T := TX0) (N := 4) (ty := .int) (ws' := (w_X0_findFlows cA a_me a_q1 a_height a_into a_nearest a_height_cells a_into_cells a_q1_one a_q1_two a_q1_length a_q1_draught a_q1_one_cells a_q1_two_cells u_q1_doors u_q1_shafts w_3 c_height z_1 c_q1_galleries c_q1_one c_q1_two)) X 0 tyX0 tyX0_ok nmX0 rfl vc_X0 2 (by decide) iw_X0_findFlows_X0 fl_X0_findFlows_X0_2 rfl rfl pd_X0_2 rfl rfl (Nat.le_of_ble_eq_true rfl) rfl dX0_findFlows_89 rfl ?_
    refine g_lvs [1, 2, 3, 4] rfl ?_
    exact t_X0_findFlows_b92 X hret hk7 h
set_option maxHeartbeats 4000000 in
set_option maxRecDepth 100000 in
theorem t_X0_findFlows_b7 {l : Launch} {D : va_G} {cA : ClassId} {p : Program} {e : Env} {s : State} {m : MethodId} {args : Array Value} {below : List Frame} {meth : Method} {c : Code} {A : Nat → Prop} {Q : State → Prop} {z : Int32 × A32} {a_me a_q1 a_height a_into a_nearest a_height_cells a_into_cells a_q1_one a_q1_two a_q1_length a_q1_draught a_q1_one_cells a_q1_two_cells : Nat} {u_q1_doors : Int32} {u_q1_shafts : Int32}  {c_height : A32} {c_q1_galleries : Int32} {c_q1_one : A32} {c_q1_two : A32} {v2 : Int32}  (X : GX p s m args c cX0_findFlows RX0 wsX0_findFlows D cA A 7) (hret : RtV p l e rm_X0_findFlows s m args below meth c cX0_findFlows D A 7 0 0 Q (w_X0_findFlows cA a_me a_q1 a_height a_into a_nearest a_height_cells a_into_cells a_q1_one a_q1_two a_q1_length a_q1_draught a_q1_one_cells a_q1_two_cells u_q1_doors u_q1_shafts z.1 c_height z.2 c_q1_galleries c_q1_one c_q1_two))  : ∀ (fu : Nat) (c_breathing : Int32) (c_into : A32) (v3 : Int32), f_X0_findFlows_b7 c_height c_q1_galleries c_q1_one c_q1_two v2 fu c_breathing c_into v3 = some z → G p l e rm_X0_findFlows s m args below meth c D A 7 0 0 Q 7 [(0, .ref a_me), (1, .ref a_q1), (2, .int v2), (3, .int v3)] [] (w_X0_findFlows cA a_me a_q1 a_height a_into a_nearest a_height_cells a_into_cells a_q1_one a_q1_two a_q1_length a_q1_draught a_q1_one_cells a_q1_two_cells u_q1_doors u_q1_shafts c_breathing c_height c_into c_q1_galleries c_q1_one c_q1_two) := by
  intro fu
  induction fu with
  | zero => intro c_breathing c_into v3 h; exact absurd (show (none : Option (Int32 × A32)) = some z from h) (by simp)
  | succ fu ih =>
    intro c_breathing c_into v3 h
    have h : (if c_q1_galleries ≤ v3 then some (c_breathing, c_into) else Option.bind (f_X8_get 10 c_q1_one v3) fun z_2 => Option.bind (f_X8_get 10 c_q1_two v3) fun z_3 => Option.bind (f_X10_bit v2 v3) fun z_4 => if z_4 = 1 then Option.bind (f_X0_lower c_height z_2 z_3) fun z_6 => f_X0_findFlows_b56 (f_X0_findFlows_b7 c_height c_q1_galleries c_q1_one c_q1_two v2 fu) c_breathing c_height c_into c_q1_galleries c_q1_one c_q1_two z_6 v2 v3 z_2 z_3 else f_X0_findFlows_b56 (f_X0_findFlows_b7 c_height c_q1_galleries c_q1_one c_q1_two v2 fu) c_breathing c_height c_into c_q1_galleries c_q1_one c_q1_two (-1) v2 v3 z_2 z_3 : Option (Int32 × A32)) = some z := h
    refine g_iload_n X 3 rfl rfl dX0_findFlows_7 rfl ?_
    refine g_aload_n X 1 rfl rfl dX0_findFlows_8 rfl ?_
    refine g_getf (C := RX5) (T := TX5) (N := 7) (v := .int c_q1_galleries) X 5 rfl vc_X5 0 (by decide) iw_X0_findFlows_X5 fl_X0_findFlows_X5_0 rfl rfl dX0_findFlows_9 rfl ?_
    refine g_icmp_ge (tgt := 98) X dX0_findFlows_12 (by decide) rfl h (fun c_1 h => ?_) (fun c_1 h => ?_)
    · cases Option.some.inj h
      exact hret _ _ dX0_findFlows_98
    · refine g_aload_n X 1 rfl rfl dX0_findFlows_15 rfl ?_
      refine g_getf (C := RX5) (T := TX5) (N := 7) (v := .ref a_q1_one) X 5 rfl vc_X5 1 (by decide) iw_X0_findFlows_X5 fl_X0_findFlows_X5_1 rfl rfl dX0_findFlows_16 rfl ?_
      refine g_iload_n X 3 rfl rfl dX0_findFlows_19 rfl ?_
      obtain ⟨z_2, hz_2, h⟩ := bnd_s h
      refine g_callVI (rm := rm_X8_get) (As := [.int v3]) (r := z_2) (W0 := (w_X8_get cA a_q1_one a_q1_one_cells 10 c_q1_one)) (W1 := (w_X8_get cA a_q1_one a_q1_one_cells 10 c_q1_one)) (isC := [6, 7]) (isR := [0, 1, 2, 3, 4, 5, 8, 9]) (perm := [0, 1, 2, 3, 4, 5, 8, 9, 6, 7]) (ws' := (w_X0_findFlows cA a_me a_q1 a_height a_into a_nearest a_height_cells a_into_cells a_q1_one a_q1_two a_q1_length a_q1_draught a_q1_one_cells a_q1_two_cells u_q1_doors u_q1_shafts c_breathing c_height c_into c_q1_galleries c_q1_one c_q1_two)) X (c_X8_get l D cA a_q1_one a_q1_one_cells 10 c_q1_one v3 _ hz_2) 6 rfl rfl rfl gX0_findFlows_X8_get rfl rfl rfl ⟨rfl, hd_X8_get⟩ ⟨Nat.le_of_ble_eq_true rfl, Nat.le_of_ble_eq_true rfl⟩ rfl rfl (Nat.le_of_ble_eq_true rfl) rfl (by decide +kernel) rfl (by decide +kernel) (by decide +kernel) ⟨Nat.zero_le _, Nat.zero_le _⟩ rfl (by decide +kernel) dX0_findFlows_20 rfl ?_
      refine g_istore (lv' := [(4, .int z_2), (0, .ref a_me), (1, .ref a_q1), (2, .int v2), (3, .int v3)]) X (by decide) rfl dX0_findFlows_23 rfl ?_
      refine g_aload_n X 2 rfl rfl dX0_findFlows_25 rfl ?_
      refine g_getf (C := RX5) (T := TX5) (N := 7) (v := .ref a_q1_two) X 5 rfl vc_X5 2 (by decide) iw_X0_findFlows_X5 fl_X0_findFlows_X5_2 rfl rfl dX0_findFlows_26 rfl ?_
      refine g_iload_n X 4 rfl rfl dX0_findFlows_29 rfl ?_
      obtain ⟨z_3, hz_3, h⟩ := bnd_s h
      refine g_callVI (rm := rm_X8_get) (As := [.int v3]) (r := z_3) (W0 := (w_X8_get cA a_q1_two a_q1_two_cells 10 c_q1_two)) (W1 := (w_X8_get cA a_q1_two a_q1_two_cells 10 c_q1_two)) (isC := [8, 9]) (isR := [0, 1, 2, 3, 4, 5, 6, 7]) (perm := [0, 1, 2, 3, 4, 5, 6, 7, 8, 9]) (ws' := (w_X0_findFlows cA a_me a_q1 a_height a_into a_nearest a_height_cells a_into_cells a_q1_one a_q1_two a_q1_length a_q1_draught a_q1_one_cells a_q1_two_cells u_q1_doors u_q1_shafts c_breathing c_height c_into c_q1_galleries c_q1_one c_q1_two)) X (c_X8_get l D cA a_q1_two a_q1_two_cells 10 c_q1_two v3 _ hz_3) 8 rfl rfl rfl gX0_findFlows_X8_get rfl rfl rfl ⟨rfl, hd_X8_get⟩ ⟨Nat.le_of_ble_eq_true rfl, Nat.le_of_ble_eq_true rfl⟩ rfl rfl (Nat.le_of_ble_eq_true rfl) rfl (by decide +kernel) rfl (by decide +kernel) (by decide +kernel) ⟨Nat.zero_le _, Nat.zero_le _⟩ rfl (by decide +kernel) dX0_findFlows_30 rfl ?_
      refine g_istore (lv' := [(5, .int z_3), (4, .int z_2), (0, .ref a_me), (1, .ref a_q1), (2, .int v2), (3, .int v3)]) X (by decide) rfl dX0_findFlows_33 rfl ?_
      refine g_iload_n X 4 rfl rfl dX0_findFlows_35 rfl ?_
      refine g_iload_n X 5 rfl rfl dX0_findFlows_36 rfl ?_
      obtain ⟨z_4, hz_4, h⟩ := bnd_s h
      refine g_callSNI (rm := rm_X10_bit) (As := [.int v2, .int v3]) (r := z_4) (W0 := []) (W1 := []) (isC := []) (isR := [0, 1, 2, 3, 4, 5, 6, 7, 8, 9]) (perm := [0, 1, 2, 3, 4, 5, 6, 7, 8, 9]) (ws' := (w_X0_findFlows cA a_me a_q1 a_height a_into a_nearest a_height_cells a_into_cells a_q1_one a_q1_two a_q1_length a_q1_draught a_q1_one_cells a_q1_two_cells u_q1_doors u_q1_shafts c_breathing c_height c_into c_q1_galleries c_q1_one c_q1_two)) X (c_X10_bit l D cA v2 v3 _ hz_4) gX0_findFlows_X10_bit_n54 (by decide +kernel) (by decide +kernel) (by decide +kernel) rfl rfl rfl hd_X10_bit ⟨Nat.le_of_ble_eq_true rfl, Nat.le_of_ble_eq_true rfl⟩ rfl rfl (Nat.le_of_ble_eq_true rfl) rfl (by decide +kernel) rfl (by decide +kernel) (by decide +kernel) ⟨Nat.zero_le _, Nat.zero_le _⟩ rfl (by decide +kernel) dX0_findFlows_37 rfl ?_
      refine g_iconst (v := 1) X dX0_findFlows_40 (by decide) rfl ?_
      refine g_icmp_ne (tgt := 55) X dX0_findFlows_41 (by decide) rfl h (fun c_5 h => ?_) (fun c_5 h => ?_)
      · refine g_iconst (v := (-1)) X dX0_findFlows_55 (by decide) rfl ?_
        refine g_lvs [2, 3, 4, 5, 1, 0] rfl ?_
        exact t_X0_findFlows_b56 X hret ih h
      · refine g_aload_n X 2 rfl rfl dX0_findFlows_44 rfl ?_
        refine g_iload X 1 rfl dX0_findFlows_45 rfl ?_
        refine g_iload X 0 rfl dX0_findFlows_47 rfl ?_
        obtain ⟨z_6, hz_6, h⟩ := bnd_s h
        refine g_callVI (rm := rm_X0_lower) (As := [.int z_2, .int z_3]) (r := z_6) (W0 := (w_X0_lower cA a_me a_height a_into a_nearest a_height_cells c_breathing c_height)) (W1 := (w_X0_lower cA a_me a_height a_into a_nearest a_height_cells c_breathing c_height)) (isC := [0, 1, 2]) (isR := [3, 4, 5, 6, 7, 8, 9]) (perm := [7, 8, 9, 0, 1, 2, 3, 4, 5, 6]) (ws' := (w_X0_findFlows cA a_me a_q1 a_height a_into a_nearest a_height_cells a_into_cells a_q1_one a_q1_two a_q1_length a_q1_draught a_q1_one_cells a_q1_two_cells u_q1_doors u_q1_shafts c_breathing c_height c_into c_q1_galleries c_q1_one c_q1_two)) X (c_X0_lower l D cA a_me a_height a_into a_nearest a_height_cells c_breathing c_height z_2 z_3 _ hz_6) 0 rfl rfl rfl gX0_findFlows_X0_lower rfl rfl rfl ⟨rfl, hd_X0_lower⟩ ⟨Nat.le_of_ble_eq_true rfl, Nat.le_of_ble_eq_true rfl⟩ rfl rfl (Nat.le_of_ble_eq_true rfl) rfl (by decide +kernel) rfl (by decide +kernel) (by decide +kernel) ⟨Nat.zero_le _, Nat.zero_le _⟩ rfl (by decide +kernel) dX0_findFlows_49 rfl ?_
        refine g_goto (tgt := 56) X dX0_findFlows_52 (by decide) ?_
        refine g_lvs [2, 3, 4, 5, 1, 0] rfl ?_
        exact t_X0_findFlows_b56 X hret ih h
set_option maxHeartbeats 4000000 in
set_option maxRecDepth 100000 in
theorem c_X0_findFlows (l : Launch) (D : va_G) (cA : ClassId) (a_me a_q1 a_height a_into a_nearest a_height_cells a_into_cells a_q1_one a_q1_two a_q1_length a_q1_draught a_q1_one_cells a_q1_two_cells : Nat) (u_q1_doors : Int32) (u_q1_shafts : Int32) (c_breathing : Int32) (c_height : A32) (c_into : A32) (c_q1_galleries : Int32) (c_q1_one : A32) (c_q1_two : A32) (v2 : Int32) (z : Int32 × A32) (h : f_X0_findFlows c_breathing c_height c_into c_q1_galleries c_q1_one c_q1_two v2 = some z) : CtV l yX0_findFlows wsX0_findFlows rm_X0_findFlows D cA [.ref a_me, .ref a_q1, .int v2] (w_X0_findFlows cA a_me a_q1 a_height a_into a_nearest a_height_cells a_into_cells a_q1_one a_q1_two a_q1_length a_q1_draught a_q1_one_cells a_q1_two_cells u_q1_doors u_q1_shafts c_breathing c_height c_into c_q1_galleries c_q1_one c_q1_two) Unit (fun _ => (w_X0_findFlows cA a_me a_q1 a_height a_into a_nearest a_height_cells a_into_cells a_q1_one a_q1_two a_q1_length a_q1_draught a_q1_one_cells a_q1_two_cells u_q1_doors u_q1_shafts z.1 c_height z.2 c_q1_galleries c_q1_one c_q1_two)) 0 0 := by
  refine ct_V (maxL := 7) (cc := cX0_findFlows) (by decide) rfl (Nat.le_of_ble_eq_true rfl) rfl (fun p e s m args below meth c A Q X _ hret => ?_)
  have hret := hret ()
  have h : (f_X0_findFlows_b7 c_height c_q1_galleries c_q1_one c_q1_two v2 FU 0 c_into 0 : Option (Int32 × A32)) = some z := h
  refine g_aload_n X 0 rfl rfl dX0_findFlows_0 rfl ?_
  refine g_iconst (v := 0) X dX0_findFlows_1 (by decide) rfl ?_
  refine g_putf (C := RX0) (T := TX0) (N := 4) (ty := .int) (ws' := (w_X0_findFlows cA a_me a_q1 a_height a_into a_nearest a_height_cells a_into_cells a_q1_one a_q1_two a_q1_length a_q1_draught a_q1_one_cells a_q1_two_cells u_q1_doors u_q1_shafts 0 c_height c_into c_q1_galleries c_q1_one c_q1_two)) X 0 tyX0 tyX0_ok nmX0 rfl vc_X0 2 (by decide) iw_X0_findFlows_X0 fl_X0_findFlows_X0_2 rfl rfl pd_X0_2 rfl rfl (Nat.le_of_ble_eq_true rfl) rfl dX0_findFlows_2 rfl ?_
  refine g_iconst (v := 0) X dX0_findFlows_5 (by decide) rfl ?_
  refine g_istore_n (lv' := [(3, .int 0), (0, .ref a_me), (1, .ref a_q1), (2, .int v2)]) X rfl (by decide) rfl dX0_findFlows_6 rfl ?_
  refine g_lvs [1, 2, 3, 0] rfl ?_
  exact t_X0_findFlows_b7 X hret _ _ _ _ h
