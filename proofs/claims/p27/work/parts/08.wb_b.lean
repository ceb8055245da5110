abbrev rm_X0_blow : Room := { frames := 3, cells := 0, slots := 0, locals := 71 }
theorem hd_X0_blow : yX0_blow.cls ≠ "java/lang/invoke/MethodHandle" ∧ yX0_blow.cls ≠ "java/lang/invoke/VarHandle" ∧ (parseMethodDescriptor yX0_blow.desc).map (fun d => d.parameters.length) = some 3 := by decide +kernel
theorem iw_X0_blow_X0 : ∀ w ∈ wsX00, w ∈ wsX0_blow := fun w h => List.mem_cons_of_mem _ (List.mem_append_left _ (List.mem_append_left _ (List.mem_append_right _ h)))
theorem fl_X0_blow_X0_0 : Cond.fieldLink RX0 14 RX0 (TX0 0).2.1 (TX0 0).2.2.1 ∈ wsX0_blow := List.mem_of_getElem? (i := 1) rfl
theorem fl_X0_blow_X0_3 : Cond.fieldLink RX0 23 RX0 (TX0 3).2.1 (TX0 3).2.2.1 ∈ wsX0_blow := List.mem_of_getElem? (i := 2) rfl
abbrev w_X0_blow (cA : ClassId) (a_me a_q1 a_height a_into a_nearest a_height_cells a_into_cells a_nearest_cells a_q1_one a_q1_two a_q1_length a_q1_draught a_q1_one_cells a_q1_two_cells a_q1_draught_cells : Nat) (u_q1_doors : Int32) (c_breathing : Int32) (c_height : A32) (c_into : A32) (c_nearest : A32) (c_q1_galleries : Int32) (c_q1_shafts : Int32) (c_q1_one : A32) (c_q1_two : A32) (c_q1_draught : A32) : va_W := [(a_me, .inr (0, [.ref a_height, .ref a_into, .int c_breathing, .ref a_nearest])), (a_height, .inr (8, [.ref a_height_cells])), (a_height_cells, .inl (cA, 7, .inl c_height)), (a_into, .inr (8, [.ref a_into_cells])), (a_into_cells, .inl (cA, 10, .inl c_into)), (a_nearest, .inr (8, [.ref a_nearest_cells])), (a_nearest_cells, .inl (cA, 7, .inl c_nearest)), (a_q1, .inr (5, [.int c_q1_galleries, .ref a_q1_one, .ref a_q1_two, .ref a_q1_length, .int u_q1_doors, .ref a_q1_draught, .int c_q1_shafts])), (a_q1_one, .inr (8, [.ref a_q1_one_cells])), (a_q1_one_cells, .inl (cA, 10, .inl c_q1_one)), (a_q1_two, .inr (8, [.ref a_q1_two_cells])), (a_q1_two_cells, .inl (cA, 10, .inl c_q1_two)), (a_q1_draught, .inr (8, [.ref a_q1_draught_cells])), (a_q1_draught_cells, .inl (cA, 7, .inl c_q1_draught))]
set_option maxHeartbeats 4000000 in
set_option maxRecDepth 100000 in
theorem t_X0_blow_b9 {l : Launch} {D : va_G} {cA : ClassId} {p : Program} {e : Env} {s : State} {m : MethodId} {args : Array Value} {below : List Frame} {meth : Method} {c : Code} {A : Nat → Prop} {Q : State → Prop} {z : Int32 × A32 × A32 × A32} {a_me a_q1 a_height a_into a_nearest a_height_cells a_into_cells a_nearest_cells a_q1_one a_q1_two a_q1_length a_q1_draught a_q1_one_cells a_q1_two_cells a_q1_draught_cells : Nat} {u_q1_doors : Int32} {c_q1_shafts : Int32} {c_breathing : Int32} {c_into : A32} {c_nearest : A32} {c_q1_galleries : Int32} {c_q1_one : A32} {c_q1_two : A32} {c_q1_draught : A32} {v2 : Int32} {v3 : Int32}  (X : GX p s m args c cX0_blow RX0 wsX0_blow D cA A 5) (hret : RtV p l e rm_X0_blow s m args below meth c cX0_blow D A 5 0 0 Q (w_X0_blow cA a_me a_q1 a_height a_into a_nearest a_height_cells a_into_cells a_nearest_cells a_q1_one a_q1_two a_q1_length a_q1_draught a_q1_one_cells a_q1_two_cells a_q1_draught_cells u_q1_doors z.1 z.2.1 z.2.2.1 z.2.2.2 c_q1_galleries c_q1_shafts c_q1_one c_q1_two c_q1_draught))  : ∀ (fu : Nat) (c_height : A32) (v4 : Int32), f_X0_blow_b9 c_breathing c_into c_nearest c_q1_galleries c_q1_one c_q1_two c_q1_draught v2 v3 fu c_height v4 = some z → G p l e rm_X0_blow s m args below meth c D A 5 0 0 Q 9 [(0, .ref a_me), (1, .ref a_q1), (2, .int v2), (3, .int v3), (4, .int v4)] [] (w_X0_blow cA a_me a_q1 a_height a_into a_nearest a_height_cells a_into_cells a_nearest_cells a_q1_one a_q1_two a_q1_length a_q1_draught a_q1_one_cells a_q1_two_cells a_q1_draught_cells u_q1_doors c_breathing c_height c_into c_nearest c_q1_galleries c_q1_shafts c_q1_one c_q1_two c_q1_draught) := by
  intro fu
  induction fu with
  | zero => intro c_height v4 h; exact absurd (show (none : Option (Int32 × A32 × A32 × A32)) = some z from h) (by simp)
  | succ fu ih =>
    intro c_height v4 h
    have h : (if 7 ≤ v4 then Option.bind (f_X0_findFlows c_breathing c_height c_into c_q1_galleries c_q1_one c_q1_two v2) fun z_2 => some (z_2.1, c_height, z_2.2, c_nearest) else Option.bind (f_X8_get 7 c_nearest v4) fun z_3 => Option.bind (f_X0_heightOf c_q1_draught z_3 v3) fun z_4 => Option.bind (f_X8_set 7 c_height v4 z_4) fun z_5 => nam (v4 + 1) fun v4_6 => (f_X0_blow_b9 c_breathing c_into c_nearest c_q1_galleries c_q1_one c_q1_two c_q1_draught v2 v3 fu) z_5 v4_6 : Option (Int32 × A32 × A32 × A32)) = some z := h
    refine g_iload X 4 rfl dX0_blow_9 rfl ?_
    refine g_bipush (v := 7) X dX0_blow_11 (by decide) rfl ?_
    refine g_icmp_ge (tgt := 45) X dX0_blow_13 (by decide) rfl h (fun c_1 h => ?_) (fun c_1 h => ?_)
    · refine g_aload_n X 0 rfl rfl dX0_blow_45 rfl ?_
      refine g_aload_n X 1 rfl rfl dX0_blow_46 rfl ?_
      refine g_iload_n X 2 rfl rfl dX0_blow_47 rfl ?_
      obtain ⟨z_2, hz_2, h⟩ := bnd_s h
      refine g_callVV (rm := rm_X0_findFlows) (As := [.ref a_q1, .int v2]) (W0 := (w_X0_findFlows cA a_me a_q1 a_height a_into a_nearest a_height_cells a_into_cells a_q1_one a_q1_two a_q1_length a_q1_draught a_q1_one_cells a_q1_two_cells u_q1_doors c_q1_shafts c_breathing c_height c_into c_q1_galleries c_q1_one c_q1_two)) (W1 := (w_X0_findFlows cA a_me a_q1 a_height a_into a_nearest a_height_cells a_into_cells a_q1_one a_q1_two a_q1_length a_q1_draught a_q1_one_cells a_q1_two_cells u_q1_doors c_q1_shafts z_2.1 c_height z_2.2 c_q1_galleries c_q1_one c_q1_two)) (isC := [0, 1, 2, 3, 4, 7, 8, 9, 10, 11]) (isR := [5, 6, 12, 13]) (perm := [4, 5, 6, 7, 8, 0, 1, 9, 10, 11, 12, 13, 2, 3]) (ws' := (w_X0_blow cA a_me a_q1 a_height a_into a_nearest a_height_cells a_into_cells a_nearest_cells a_q1_one a_q1_two a_q1_length a_q1_draught a_q1_one_cells a_q1_two_cells a_q1_draught_cells u_q1_doors z_2.1 c_height z_2.2 c_nearest c_q1_galleries c_q1_shafts c_q1_one c_q1_two c_q1_draught)) X (c_X0_findFlows l D cA a_me a_q1 a_height a_into a_nearest a_height_cells a_into_cells a_q1_one a_q1_two a_q1_length a_q1_draught a_q1_one_cells a_q1_two_cells u_q1_doors c_q1_shafts c_breathing c_height c_into c_q1_galleries c_q1_one c_q1_two v2 _ hz_2) 0 rfl rfl rfl gX0_blow_X0_findFlows rfl rfl rfl ⟨rfl, hd_X0_findFlows⟩ ⟨Nat.le_of_ble_eq_true rfl, Nat.le_of_ble_eq_true rfl⟩ rfl rfl (Nat.le_of_ble_eq_true rfl) rfl (by decide +kernel) rfl (by decide +kernel) (by decide +kernel) ⟨Nat.zero_le _, Nat.zero_le _⟩ rfl (by decide +kernel) dX0_blow_48 rfl ?_
      cases Option.some.inj h
      exact hret _ _ dX0_blow_51
    · refine g_aload_n X 0 rfl rfl dX0_blow_16 rfl ?_
      refine g_getf (C := RX0) (T := TX0) (N := 4) (v := .ref a_height) X 0 rfl vc_X0 0 (by decide) iw_X0_blow_X0 fl_X0_blow_X0_0 rfl rfl dX0_blow_17 rfl ?_
      refine g_iload X 4 rfl dX0_blow_20 rfl ?_
      refine g_aload_n X 0 rfl rfl dX0_blow_22 rfl ?_
      refine g_getf (C := RX0) (T := TX0) (N := 4) (v := .ref a_nearest) X 0 rfl vc_X0 3 (by decide) iw_X0_blow_X0 fl_X0_blow_X0_3 rfl rfl dX0_blow_23 rfl ?_
      refine g_iload X 4 rfl dX0_blow_26 rfl ?_
      obtain ⟨z_3, hz_3, h⟩ := bnd_s h
      refine g_callVI (rm := rm_X8_get) (As := [.int v4]) (r := z_3) (W0 := (w_X8_get cA a_nearest a_nearest_cells 7 c_nearest)) (W1 := (w_X8_get cA a_nearest a_nearest_cells 7 c_nearest)) (isC := [5, 6]) (isR := [0, 1, 2, 3, 4, 7, 8, 9, 10, 11, 12, 13]) (perm := [0, 1, 2, 3, 4, 12, 13, 5, 6, 7, 8, 9, 10, 11]) (ws' := (w_X0_blow cA a_me a_q1 a_height a_into a_nearest a_height_cells a_into_cells a_nearest_cells a_q1_one a_q1_two a_q1_length a_q1_draught a_q1_one_cells a_q1_two_cells a_q1_draught_cells u_q1_doors c_breathing c_height c_into c_nearest c_q1_galleries c_q1_shafts c_q1_one c_q1_two c_q1_draught)) X (c_X8_get l D cA a_nearest a_nearest_cells 7 c_nearest v4 _ hz_3) 5 rfl rfl rfl gX0_blow_X8_get rfl rfl rfl ⟨rfl, hd_X8_get⟩ ⟨Nat.le_of_ble_eq_true rfl, Nat.le_of_ble_eq_true rfl⟩ rfl rfl (Nat.le_of_ble_eq_true rfl) rfl (by decide +kernel) rfl (by decide +kernel) (by decide +kernel) ⟨Nat.zero_le _, Nat.zero_le _⟩ rfl (by decide +kernel) dX0_blow_28 rfl ?_
      refine g_aload_n X 1 rfl rfl dX0_blow_31 rfl ?_
      refine g_iload_n X 3 rfl rfl dX0_blow_32 rfl ?_
      obtain ⟨z_4, hz_4, h⟩ := bnd_s h
      refine g_callSI (rm := rm_X0_heightOf) (As := [.int z_3, .ref a_q1, .int v3]) (r := z_4) (W0 := (w_X0_heightOf cA a_q1 a_q1_one a_q1_two a_q1_length a_q1_draught a_q1_draught_cells c_q1_galleries u_q1_doors c_q1_shafts c_q1_draught)) (W1 := (w_X0_heightOf cA a_q1 a_q1_one a_q1_two a_q1_length a_q1_draught a_q1_draught_cells c_q1_galleries u_q1_doors c_q1_shafts c_q1_draught)) (isC := [7, 12, 13]) (isR := [0, 1, 2, 3, 4, 5, 6, 8, 9, 10, 11]) (perm := [0, 1, 2, 3, 4, 5, 6, 11, 7, 8, 9, 10, 12, 13]) (ws' := (w_X0_blow cA a_me a_q1 a_height a_into a_nearest a_height_cells a_into_cells a_nearest_cells a_q1_one a_q1_two a_q1_length a_q1_draught a_q1_one_cells a_q1_two_cells a_q1_draught_cells u_q1_doors c_breathing c_height c_into c_nearest c_q1_galleries c_q1_shafts c_q1_one c_q1_two c_q1_draught)) X (c_X0_heightOf l D cA a_q1 a_q1_one a_q1_two a_q1_length a_q1_draught a_q1_draught_cells c_q1_galleries u_q1_doors c_q1_shafts c_q1_draught z_3 v3 _ hz_4) gX0_blow_X0_heightOf rfl rfl rfl hd_X0_heightOf ⟨Nat.le_of_ble_eq_true rfl, Nat.le_of_ble_eq_true rfl⟩ rfl rfl (Nat.le_of_ble_eq_true rfl) rfl (by decide +kernel) rfl (by decide +kernel) (by decide +kernel) ⟨Nat.zero_le _, Nat.zero_le _⟩ rfl (by decide +kernel) dX0_blow_33 rfl ?_
      obtain ⟨z_5, hz_5, h⟩ := bnd_s h
      refine g_callVV (rm := rm_X8_set) (As := [.int v4, .int z_4]) (W0 := (w_X8_set cA a_height a_height_cells 7 c_height)) (W1 := (w_X8_set cA a_height a_height_cells 7 z_5)) (isC := [1, 2]) (isR := [0, 3, 4, 5, 6, 7, 8, 9, 10, 11, 12, 13]) (perm := [0, 12, 13, 1, 2, 3, 4, 5, 6, 7, 8, 9, 10, 11]) (ws' := (w_X0_blow cA a_me a_q1 a_height a_into a_nearest a_height_cells a_into_cells a_nearest_cells a_q1_one a_q1_two a_q1_length a_q1_draught a_q1_one_cells a_q1_two_cells a_q1_draught_cells u_q1_doors c_breathing z_5 c_into c_nearest c_q1_galleries c_q1_shafts c_q1_one c_q1_two c_q1_draught)) X (c_X8_set l D cA a_height a_height_cells 7 c_height v4 z_4 _ hz_5) 1 rfl rfl rfl gX0_blow_X8_set rfl rfl rfl ⟨rfl, hd_X8_set⟩ ⟨Nat.le_of_ble_eq_true rfl, Nat.le_of_ble_eq_true rfl⟩ rfl rfl (Nat.le_of_ble_eq_true rfl) rfl (by decide +kernel) rfl (by decide +kernel) (by decide +kernel) ⟨Nat.zero_le _, Nat.zero_le _⟩ rfl (by decide +kernel) dX0_blow_36 rfl ?_
      obtain ⟨v4_6, ev4_6, h⟩ := nam_s h
      refine g_iinc (v := v4_6) (lv' := [(4, .int v4_6), (0, .ref a_me), (1, .ref a_q1), (2, .int v2), (3, .int v3)]) X 4 rfl (by rw [ev4_6]; rfl) (by decide) rfl dX0_blow_39 rfl ?_
      refine g_goto (tgt := 9) X dX0_blow_42 (by decide) ?_
      refine g_lvs [1, 2, 3, 4, 0] rfl ?_
      exact ih _ _ h
set_option maxHeartbeats 4000000 in
set_option maxRecDepth 100000 in
theorem c_X0_blow (l : Launch) (D : va_G) (cA : ClassId) (a_me a_q1 a_height a_into a_nearest a_height_cells a_into_cells a_nearest_cells a_q1_one a_q1_two a_q1_length a_q1_draught a_q1_one_cells a_q1_two_cells a_q1_draught_cells : Nat) (u_q1_doors : Int32) (c_breathing : Int32) (c_height : A32) (c_into : A32) (c_nearest : A32) (c_q1_galleries : Int32) (c_q1_shafts : Int32) (c_q1_one : A32) (c_q1_two : A32) (c_q1_draught : A32) (v2 : Int32) (v3 : Int32) (z : Int32 × A32 × A32 × A32) (h : f_X0_blow c_breathing c_height c_into c_nearest c_q1_galleries c_q1_shafts c_q1_one c_q1_two c_q1_draught v2 v3 = some z) : CtV l yX0_blow wsX0_blow rm_X0_blow D cA [.ref a_me, .ref a_q1, .int v2, .int v3] (w_X0_blow cA a_me a_q1 a_height a_into a_nearest a_height_cells a_into_cells a_nearest_cells a_q1_one a_q1_two a_q1_length a_q1_draught a_q1_one_cells a_q1_two_cells a_q1_draught_cells u_q1_doors c_breathing c_height c_into c_nearest c_q1_galleries c_q1_shafts c_q1_one c_q1_two c_q1_draught) Unit (fun _ => (w_X0_blow cA a_me a_q1 a_height a_into a_nearest a_height_cells a_into_cells a_nearest_cells a_q1_one a_q1_two a_q1_length a_q1_draught a_q1_one_cells a_q1_two_cells a_q1_draught_cells u_q1_doors z.1 z.2.1 z.2.2.1 z.2.2.2 c_q1_galleries c_q1_shafts c_q1_one c_q1_two c_q1_draught)) 0 0 := by
  refine ct_V (maxL := 5) (cc := cX0_blow) (by decide) rfl (Nat.le_of_ble_eq_true rfl) rfl (fun p e s m args below meth c A Q X _ hret => ?_)
  have hret := hret ()
  have h : (Option.bind (f_X0_findNearest c_nearest c_q1_galleries c_q1_shafts c_q1_one c_q1_two v2) fun z_1 => f_X0_blow_b9 c_breathing c_into z_1 c_q1_galleries c_q1_one c_q1_two c_q1_draught v2 v3 FU c_height 0 : Option (Int32 × A32 × A32 × A32)) = some z := h
  refine g_aload_n X 0 rfl rfl dX0_blow_0 rfl ?_
  refine g_aload_n X 1 rfl rfl dX0_blow_1 rfl ?_
  refine g_iload_n X 2 rfl rfl dX0_blow_2 rfl ?_
  obtain ⟨z_1, hz_1, h⟩ := bnd_s h
  refine g_callVV (rm := rm_X0_findNearest) (As := [.ref a_q1, .int v2]) (W0 := (w_X0_findNearest cA a_me a_q1 a_height a_into a_nearest a_nearest_cells a_q1_one a_q1_two a_q1_length a_q1_draught a_q1_one_cells a_q1_two_cells c_breathing u_q1_doors c_nearest c_q1_galleries c_q1_shafts c_q1_one c_q1_two)) (W1 := (w_X0_findNearest cA a_me a_q1 a_height a_into a_nearest a_nearest_cells a_q1_one a_q1_two a_q1_length a_q1_draught a_q1_one_cells a_q1_two_cells c_breathing u_q1_doors z_1 c_q1_galleries c_q1_shafts c_q1_one c_q1_two)) (isC := [0, 5, 6, 7, 8, 9, 10, 11]) (isR := [1, 2, 3, 4, 12, 13]) (perm := [6, 0, 1, 2, 3, 7, 8, 9, 10, 11, 12, 13, 4, 5]) (ws' := (w_X0_blow cA a_me a_q1 a_height a_into a_nearest a_height_cells a_into_cells a_nearest_cells a_q1_one a_q1_two a_q1_length a_q1_draught a_q1_one_cells a_q1_two_cells a_q1_draught_cells u_q1_doors c_breathing c_height c_into z_1 c_q1_galleries c_q1_shafts c_q1_one c_q1_two c_q1_draught)) X (c_X0_findNearest l D cA a_me a_q1 a_height a_into a_nearest a_nearest_cells a_q1_one a_q1_two a_q1_length a_q1_draught a_q1_one_cells a_q1_two_cells c_breathing u_q1_doors c_nearest c_q1_galleries c_q1_shafts c_q1_one c_q1_two v2 _ hz_1) 0 rfl rfl rfl gX0_blow_X0_findNearest rfl rfl rfl ⟨rfl, hd_X0_findNearest⟩ ⟨Nat.le_of_ble_eq_true rfl, Nat.le_of_ble_eq_true rfl⟩ rfl rfl (Nat.le_of_ble_eq_true rfl) rfl (by decide +kernel) rfl (by decide +kernel) (by decide +kernel) ⟨Nat.zero_le _, Nat.zero_le _⟩ rfl (by decide +kernel) dX0_blow_3 rfl ?_
  refine g_iconst (v := 0) X dX0_blow_6 (by decide) rfl ?_
  refine g_istore (lv' := [(4, .int 0), (0, .ref a_me), (1, .ref a_q1), (2, .int v2), (3, .int v3)]) X (by decide) rfl dX0_blow_7 rfl ?_
  refine g_lvs [1, 2, 3, 4, 0] rfl ?_
  exact t_X0_blow_b9 X hret _ _ _ h
abbrev rm_X0_firstInto : Room := { frames := 1, cells := 0, slots := 0, locals := 21 }
theorem hd_X0_firstInto : yX0_firstInto.cls ≠ "java/lang/invoke/MethodHandle" ∧ yX0_firstInto.cls ≠ "java/lang/invoke/VarHandle" ∧ (parseMethodDescriptor yX0_firstInto.desc).map (fun d => d.parameters.length) = some 2 := by decide +kernel
theorem iw_X0_firstInto_X0 : ∀ w ∈ wsX00, w ∈ wsX0_firstInto := fun w h => List.mem_cons_of_mem _ (List.mem_append_left _ (List.mem_append_right _ h))
theorem iw_X0_firstInto_X5 : ∀ w ∈ wsX50, w ∈ wsX0_firstInto := fun w h => List.mem_cons_of_mem _ (List.mem_append_left _ (List.mem_append_left _ (List.mem_append_right _ h)))
theorem fl_X0_firstInto_X5_0 : Cond.fieldLink RX0 51 RX5 (TX5 0).2.1 (TX5 0).2.2.1 ∈ wsX0_firstInto := List.mem_of_getElem? (i := 1) rfl
theorem fl_X0_firstInto_X0_1 : Cond.fieldLink RX0 20 RX0 (TX0 1).2.1 (TX0 1).2.2.1 ∈ wsX0_firstInto := List.mem_of_getElem? (i := 2) rfl
abbrev w_X0_firstInto (cA : ClassId) (a_me a_q1 a_height a_into a_nearest a_into_cells a_q1_one a_q1_two a_q1_length a_q1_draught : Nat) (u_breathing : Int32) (u_q1_doors : Int32) (u_q1_shafts : Int32) (c_into : A32) (c_q1_galleries : Int32) : va_W := [(a_me, .inr (0, [.ref a_height, .ref a_into, .int u_breathing, .ref a_nearest])), (a_into, .inr (8, [.ref a_into_cells])), (a_into_cells, .inl (cA, 10, .inl c_into)), (a_q1, .inr (5, [.int c_q1_galleries, .ref a_q1_one, .ref a_q1_two, .ref a_q1_length, .int u_q1_doors, .ref a_q1_draught, .int u_q1_shafts]))]
set_option maxHeartbeats 4000000 in
set_option maxRecDepth 100000 in
theorem t_X0_firstInto_b2 {l : Launch} {D : va_G} {cA : ClassId} {p : Program} {e : Env} {s : State} {m : MethodId} {args : Array Value} {below : List Frame} {meth : Method} {c : Code} {A : Nat → Prop} {Q : State → Prop} {z : Int32} {a_me a_q1 a_height a_into a_nearest a_into_cells a_q1_one a_q1_two a_q1_length a_q1_draught : Nat} {u_breathing : Int32} {u_q1_doors : Int32} {u_q1_shafts : Int32}  {c_into : A32} {c_q1_galleries : Int32} {v2 : Int32}  (X : GX p s m args c cX0_firstInto RX0 wsX0_firstInto D cA A 4) (hret : RtI p l e rm_X0_firstInto s m args below meth c cX0_firstInto D A 4 0 0 Q .int z (w_X0_firstInto cA a_me a_q1 a_height a_into a_nearest a_into_cells a_q1_one a_q1_two a_q1_length a_q1_draught u_breathing u_q1_doors u_q1_shafts c_into c_q1_galleries))  : ∀ (fu : Nat) (v3 : Int32), f_X0_firstInto_b2 c_into c_q1_galleries v2 fu v3 = some z → G p l e rm_X0_firstInto s m args below meth c D A 4 0 0 Q 2 [(0, .ref a_me), (1, .ref a_q1), (2, .int v2), (3, .int v3)] [] (w_X0_firstInto cA a_me a_q1 a_height a_into a_nearest a_into_cells a_q1_one a_q1_two a_q1_length a_q1_draught u_breathing u_q1_doors u_q1_shafts c_into c_q1_galleries) := by
  intro fu
  induction fu with
  | zero => intro v3 h; exact absurd (show (none : Option (Int32)) = some z from h) (by simp)
  | succ fu ih =>
    intro v3 h
    have h : (if c_q1_galleries ≤ v3 then some (-1) else Option.bind (f_X8_get 10 c_into v3) fun z_2 => if z_2 = v2 then some v3 else nam (v3 + 1) fun v3_4 => (f_X0_firstInto_b2 c_into c_q1_galleries v2 fu) v3_4 : Option (Int32)) = some z := h
    refine g_iload_n X 3 rfl rfl dX0_firstInto_2 rfl ?_
    refine g_aload_n X 1 rfl rfl dX0_firstInto_3 rfl ?_
    refine g_getf (C := RX5) (T := TX5) (N := 7) (v := .int c_q1_galleries) X 3 rfl vc_X5 0 (by decide) iw_X0_firstInto_X5 fl_X0_firstInto_X5_0 rfl rfl dX0_firstInto_4 rfl ?_
    refine g_icmp_ge (tgt := 30) X dX0_firstInto_7 (by decide) rfl h (fun c_1 h => ?_) (fun c_1 h => ?_)
    · refine g_iconst (v := (-1)) X dX0_firstInto_30 (by decide) rfl ?_
      cases Option.some.inj h
      exact hret _ _ dX0_firstInto_31 rfl
    · refine g_aload_n X 0 rfl rfl dX0_firstInto_10 rfl ?_
      refine g_getf (C := RX0) (T := TX0) (N := 4) (v := .ref a_into) X 0 rfl vc_X0 1 (by decide) iw_X0_firstInto_X0 fl_X0_firstInto_X0_1 rfl rfl dX0_firstInto_11 rfl ?_
      refine g_iload_n X 3 rfl rfl dX0_firstInto_14 rfl ?_
      obtain ⟨z_2, hz_2, h⟩ := bnd_s h
      refine g_callVI (rm := rm_X8_get) (As := [.int v3]) (r := z_2) (W0 := (w_X8_get cA a_into a_into_cells 10 c_into)) (W1 := (w_X8_get cA a_into a_into_cells 10 c_into)) (isC := [1, 2]) (isR := [0, 3]) (perm := [0, 2, 3, 1]) (ws' := (w_X0_firstInto cA a_me a_q1 a_height a_into a_nearest a_into_cells a_q1_one a_q1_two a_q1_length a_q1_draught u_breathing u_q1_doors u_q1_shafts c_into c_q1_galleries)) X (c_X8_get l D cA a_into a_into_cells 10 c_into v3 _ hz_2) 1 rfl rfl rfl gX0_firstInto_X8_get rfl rfl rfl ⟨rfl, hd_X8_get⟩ ⟨Nat.le_of_ble_eq_true rfl, Nat.le_of_ble_eq_true rfl⟩ rfl rfl (Nat.le_of_ble_eq_true rfl) rfl (by decide +kernel) rfl (by decide +kernel) (by decide +kernel) ⟨Nat.zero_le _, Nat.zero_le _⟩ rfl (by decide +kernel) dX0_firstInto_15 rfl ?_
      refine g_iload_n X 2 rfl rfl dX0_firstInto_18 rfl ?_
      refine g_icmp_ne (tgt := 24) X dX0_firstInto_19 (by decide) rfl h (fun c_3 h => ?_) (fun c_3 h => ?_)
      · obtain ⟨v3_4, ev3_4, h⟩ := nam_s h
        refine g_iinc (v := v3_4) (lv' := [(3, .int v3_4), (0, .ref a_me), (1, .ref a_q1), (2, .int v2)]) X 3 rfl (by rw [ev3_4]; rfl) (by decide) rfl dX0_firstInto_24 rfl ?_
        refine g_goto (tgt := 2) X dX0_firstInto_27 (by decide) ?_
        refine g_lvs [1, 2, 3, 0] rfl ?_
        exact ih _ h
      · refine g_iload_n X 3 rfl rfl dX0_firstInto_22 rfl ?_
        cases Option.some.inj h
        exact hret _ _ dX0_firstInto_23 rfl
set_option maxHeartbeats 4000000 in
set_option maxRecDepth 100000 in
theorem c_X0_firstInto (l : Launch) (D : va_G) (cA : ClassId) (a_me a_q1 a_height a_into a_nearest a_into_cells a_q1_one a_q1_two a_q1_length a_q1_draught : Nat) (u_breathing : Int32) (u_q1_doors : Int32) (u_q1_shafts : Int32) (c_into : A32) (c_q1_galleries : Int32) (v2 : Int32) (z : Int32) (h : f_X0_firstInto c_into c_q1_galleries v2 = some z) : CtI l yX0_firstInto wsX0_firstInto rm_X0_firstInto D cA [.ref a_me, .ref a_q1, .int v2] (w_X0_firstInto cA a_me a_q1 a_height a_into a_nearest a_into_cells a_q1_one a_q1_two a_q1_length a_q1_draught u_breathing u_q1_doors u_q1_shafts c_into c_q1_galleries) z (w_X0_firstInto cA a_me a_q1 a_height a_into a_nearest a_into_cells a_q1_one a_q1_two a_q1_length a_q1_draught u_breathing u_q1_doors u_q1_shafts c_into c_q1_galleries) := by
  refine ct_I (maxL := 4) (ty := .int) (cc := cX0_firstInto) (by decide) rfl (Nat.le_of_ble_eq_true rfl) rfl (fun p e s m args below meth c A Q X hret => ?_)
  have h : (f_X0_firstInto_b2 c_into c_q1_galleries v2 FU 0 : Option (Int32)) = some z := h
  refine g_iconst (v := 0) X dX0_firstInto_0 (by decide) rfl ?_
  refine g_istore_n (lv' := [(3, .int 0), (0, .ref a_me), (1, .ref a_q1), (2, .int v2)]) X rfl (by decide) rfl dX0_firstInto_1 rfl ?_
  refine g_lvs [1, 2, 3, 0] rfl ?_
  exact t_X0_firstInto_b2 X hret _ _ h
abbrev rm_X5_otherEnd : Room := { frames := 1, cells := 0, slots := 0, locals := 21 }
theorem hd_X5_otherEnd : yX5_otherEnd.cls ≠ "java/lang/invoke/MethodHandle" ∧ yX5_otherEnd.cls ≠ "java/lang/invoke/VarHandle" ∧ (parseMethodDescriptor yX5_otherEnd.desc).map (fun d => d.parameters.length) = some 2 := by decide +kernel
theorem iw_X5_otherEnd_X5 : ∀ w ∈ wsX50, w ∈ wsX5_otherEnd := fun w h => List.mem_cons_of_mem _ (List.mem_append_left _ (List.mem_append_right _ h))
theorem fl_X5_otherEnd_X5_1 : Cond.fieldLink RX5 14 RX5 (TX5 1).2.1 (TX5 1).2.2.1 ∈ wsX5_otherEnd := List.mem_of_getElem? (i := 1) rfl
theorem fl_X5_otherEnd_X5_2 : Cond.fieldLink RX5 20 RX5 (TX5 2).2.1 (TX5 2).2.2.1 ∈ wsX5_otherEnd := List.mem_of_getElem? (i := 2) rfl
abbrev w_X5_otherEnd (cA : ClassId) (a_me a_one a_two a_length a_draught a_one_cells a_two_cells : Nat) (u_galleries : Int32) (u_doors : Int32) (u_shafts : Int32) (c_one : A32) (c_two : A32) : va_W := [(a_me, .inr (5, [.int u_galleries, .ref a_one, .ref a_two, .ref a_length, .int u_doors, .ref a_draught, .int u_shafts])), (a_one, .inr (8, [.ref a_one_cells])), (a_one_cells, .inl (cA, 10, .inl c_one)), (a_two, .inr (8, [.ref a_two_cells])), (a_two_cells, .inl (cA, 10, .inl c_two))]
set_option maxHeartbeats 4000000 in
set_option maxRecDepth 100000 in
theorem c_X5_otherEnd (l : Launch) (D : va_G) (cA : ClassId) (a_me a_one a_two a_length a_draught a_one_cells a_two_cells : Nat) (u_galleries : Int32) (u_doors : Int32) (u_shafts : Int32) (c_one : A32) (c_two : A32) (v1 : Int32) (v2 : Int32) (z : Int32) (h : f_X5_otherEnd c_one c_two v1 v2 = some z) : CtI l yX5_otherEnd wsX5_otherEnd rm_X5_otherEnd D cA [.ref a_me, .int v1, .int v2] (w_X5_otherEnd cA a_me a_one a_two a_length a_draught a_one_cells a_two_cells u_galleries u_doors u_shafts c_one c_two) z (w_X5_otherEnd cA a_me a_one a_two a_length a_draught a_one_cells a_two_cells u_galleries u_doors u_shafts c_one c_two) := by
  refine ct_I (maxL := 3) (ty := .int) (cc := cX5_otherEnd) (by decide) rfl (Nat.le_of_ble_eq_true rfl) rfl (fun p e s m args below meth c A Q X hret => ?_)
  have h : (Option.bind (f_X8_get 10 c_one v1) fun z_1 => if z_1 = v2 then Option.bind (f_X8_get 10 c_two v1) fun z_4 => some z_4 else Option.bind (f_X8_get 10 c_one v1) fun z_3 => some z_3 : Option (Int32)) = some z := h
  refine g_aload_n X 0 rfl rfl dX5_otherEnd_0 rfl ?_
  refine g_getf (C := RX5) (T := TX5) (N := 7) (v := .ref a_one) X 0 rfl vc_X5 1 (by decide) iw_X5_otherEnd_X5 fl_X5_otherEnd_X5_1 rfl rfl dX5_otherEnd_1 rfl ?_
  refine g_iload_n X 1 rfl rfl dX5_otherEnd_4 rfl ?_
  obtain ⟨z_1, hz_1, h⟩ := bnd_s h
  refine g_callVI (rm := rm_X8_get) (As := [.int v1]) (r := z_1) (W0 := (w_X8_get cA a_one a_one_cells 10 c_one)) (W1 := (w_X8_get cA a_one a_one_cells 10 c_one)) (isC := [1, 2]) (isR := [0, 3, 4]) (perm := [0, 3, 4, 1, 2]) (ws' := (w_X5_otherEnd cA a_me a_one a_two a_length a_draught a_one_cells a_two_cells u_galleries u_doors u_shafts c_one c_two)) X (c_X8_get l D cA a_one a_one_cells 10 c_one v1 _ hz_1) 1 rfl rfl rfl gX5_otherEnd_X8_get rfl rfl rfl ⟨rfl, hd_X8_get⟩ ⟨Nat.le_of_ble_eq_true rfl, Nat.le_of_ble_eq_true rfl⟩ rfl rfl (Nat.le_of_ble_eq_true rfl) rfl (by decide +kernel) rfl (by decide +kernel) (by decide +kernel) ⟨Nat.zero_le _, Nat.zero_le _⟩ rfl (by decide +kernel) dX5_otherEnd_5 rfl ?_
  refine g_iload_n X 2 rfl rfl dX5_otherEnd_8 rfl ?_
  refine g_icmp_ne (tgt := 23) X dX5_otherEnd_9 (by decide) rfl h (fun c_2 h => ?_) (fun c_2 h => ?_)
  · refine g_aload_n X 0 rfl rfl dX5_otherEnd_23 rfl ?_
    refine g_getf (C := RX5) (T := TX5) (N := 7) (v := .ref a_one) X 0 rfl vc_X5 1 (by decide) iw_X5_otherEnd_X5 fl_X5_otherEnd_X5_1 rfl rfl dX5_otherEnd_24 rfl ?_
    refine g_iload_n X 1 rfl rfl dX5_otherEnd_27 rfl ?_
    obtain ⟨z_3, hz_3, h⟩ := bnd_s h
    refine g_callVI (rm := rm_X8_get) (As := [.int v1]) (r := z_3) (W0 := (w_X8_get cA a_one a_one_cells 10 c_one)) (W1 := (w_X8_get cA a_one a_one_cells 10 c_one)) (isC := [1, 2]) (isR := [0, 3, 4]) (perm := [0, 3, 4, 1, 2]) (ws' := (w_X5_otherEnd cA a_me a_one a_two a_length a_draught a_one_cells a_two_cells u_galleries u_doors u_shafts c_one c_two)) X (c_X8_get l D cA a_one a_one_cells 10 c_one v1 _ hz_3) 1 rfl rfl rfl gX5_otherEnd_X8_get rfl rfl rfl ⟨rfl, hd_X8_get⟩ ⟨Nat.le_of_ble_eq_true rfl, Nat.le_of_ble_eq_true rfl⟩ rfl rfl (Nat.le_of_ble_eq_true rfl) rfl (by decide +kernel) rfl (by decide +kernel) (by decide +kernel) ⟨Nat.zero_le _, Nat.zero_le _⟩ rfl (by decide +kernel) dX5_otherEnd_28 rfl ?_
    cases Option.some.inj h
    exact hret _ _ dX5_otherEnd_31 rfl
  · refine g_aload_n X 0 rfl rfl dX5_otherEnd_12 rfl ?_
    refine g_getf (C := RX5) (T := TX5) (N := 7) (v := .ref a_two) X 0 rfl vc_X5 2 (by decide) iw_X5_otherEnd_X5 fl_X5_otherEnd_X5_2 rfl rfl dX5_otherEnd_13 rfl ?_
    refine g_iload_n X 1 rfl rfl dX5_otherEnd_16 rfl ?_
    obtain ⟨z_4, hz_4, h⟩ := bnd_s h
    refine g_callVI (rm := rm_X8_get) (As := [.int v1]) (r := z_4) (W0 := (w_X8_get cA a_two a_two_cells 10 c_two)) (W1 := (w_X8_get cA a_two a_two_cells 10 c_two)) (isC := [3, 4]) (isR := [0, 1, 2]) (perm := [0, 1, 2, 3, 4]) (ws' := (w_X5_otherEnd cA a_me a_one a_two a_length a_draught a_one_cells a_two_cells u_galleries u_doors u_shafts c_one c_two)) X (c_X8_get l D cA a_two a_two_cells 10 c_two v1 _ hz_4) 3 rfl rfl rfl gX5_otherEnd_X8_get rfl rfl rfl ⟨rfl, hd_X8_get⟩ ⟨Nat.le_of_ble_eq_true rfl, Nat.le_of_ble_eq_true rfl⟩ rfl rfl (Nat.le_of_ble_eq_true rfl) rfl (by decide +kernel) rfl (by decide +kernel) (by decide +kernel) ⟨Nat.zero_le _, Nat.zero_le _⟩ rfl (by decide +kernel) dX5_otherEnd_17 rfl ?_
    refine g_goto (tgt := 31) X dX5_otherEnd_20 (by decide) ?_
    cases Option.some.inj h
    exact hret _ _ dX5_otherEnd_31 rfl
abbrev rm_X0_carrySmoke : Room := { frames := 4, cells := 0, slots := 0, locals := 92 }
theorem hd_X0_carrySmoke : yX0_carrySmoke.cls ≠ "java/lang/invoke/MethodHandle" ∧ yX0_carrySmoke.cls ≠ "java/lang/invoke/VarHandle" ∧ (parseMethodDescriptor yX0_carrySmoke.desc).map (fun d => d.parameters.length) = some 2 := by decide +kernel
theorem iw_X0_carrySmoke_X0 : ∀ w ∈ wsX00, w ∈ wsX0_carrySmoke := fun w h => List.mem_cons_of_mem _ (List.mem_append_left _ (List.mem_append_left _ (List.mem_append_right _ h)))
theorem iw_X0_carrySmoke_X5 : ∀ w ∈ wsX50, w ∈ wsX0_carrySmoke := fun w h => List.mem_cons_of_mem _ (List.mem_append_left _ (List.mem_append_left _ (List.mem_append_left _ (List.mem_append_right _ h))))
theorem fl_X0_carrySmoke_X5_0 : Cond.fieldLink RX0 51 RX5 (TX5 0).2.1 (TX5 0).2.2.1 ∈ wsX0_carrySmoke := List.mem_of_getElem? (i := 1) rfl
theorem fl_X0_carrySmoke_X0_1 : Cond.fieldLink RX0 20 RX0 (TX0 1).2.1 (TX0 1).2.2.1 ∈ wsX0_carrySmoke := List.mem_of_getElem? (i := 2) rfl
theorem fl_X0_carrySmoke_X5_3 : Cond.fieldLink RX0 91 RX5 (TX5 3).2.1 (TX5 3).2.2.1 ∈ wsX0_carrySmoke := List.mem_of_getElem? (i := 3) rfl
abbrev w_X0_carrySmoke (cA : ClassId) (a_me a_q1 a_q2 a_height a_into a_nearest a_into_cells a_q1_one a_q1_two a_q1_length a_q1_draught a_q1_one_cells a_q1_two_cells a_q1_length_cells a_q2_lengths a_q2_lengths_cells : Nat) (u_breathing : Int32) (u_q1_doors : Int32) (u_q1_shafts : Int32) (c_into : A32) (c_q1_galleries : Int32) (c_q1_one : A32) (c_q1_two : A32) (c_q1_length : A32) (c_q2_lengths : A32) : va_W := [(a_me, .inr (0, [.ref a_height, .ref a_into, .int u_breathing, .ref a_nearest])), (a_into, .inr (8, [.ref a_into_cells])), (a_into_cells, .inl (cA, 10, .inl c_into)), (a_q1, .inr (5, [.int c_q1_galleries, .ref a_q1_one, .ref a_q1_two, .ref a_q1_length, .int u_q1_doors, .ref a_q1_draught, .int u_q1_shafts])), (a_q1_one, .inr (8, [.ref a_q1_one_cells])), (a_q1_one_cells, .inl (cA, 10, .inl c_q1_one)), (a_q1_two, .inr (8, [.ref a_q1_two_cells])), (a_q1_two_cells, .inl (cA, 10, .inl c_q1_two)), (a_q1_length, .inr (8, [.ref a_q1_length_cells])), (a_q1_length_cells, .inl (cA, 10, .inl c_q1_length)), (a_q2, .inr (9, [.ref a_q2_lengths])), (a_q2_lengths, .inr (8, [.ref a_q2_lengths_cells])), (a_q2_lengths_cells, .inl (cA, 49, .inl c_q2_lengths))]
set_option maxHeartbeats 4000000 in
set_option maxRecDepth 100000 in
theorem t_X0_carrySmoke_b51 {l : Launch} {D : va_G} {cA : ClassId} {p : Program} {e : Env} {s : State} {m : MethodId} {args : Array Value} {below : List Frame} {meth : Method} {c : Code} {A : Nat → Prop} {Q : State → Prop} {z : A32} {a_me a_q1 a_q2 a_height a_into a_nearest a_into_cells a_q1_one a_q1_two a_q1_length a_q1_draught a_q1_one_cells a_q1_two_cells a_q1_length_cells a_q2_lengths a_q2_lengths_cells : Nat} {u_breathing : Int32} {u_q1_doors : Int32} {u_q1_shafts : Int32}  {c_into : A32} {c_q1_galleries : Int32} {c_q1_one : A32} {c_q1_two : A32} {c_q1_length : A32} {c_q2_lengths : A32} {v3 : Int32} {k6 : A32 → Int32 → Option (A32)} (X : GX p s m args c cX0_carrySmoke RX0 wsX0_carrySmoke D cA A 5) (hret : RtV p l e rm_X0_carrySmoke s m args below meth c cX0_carrySmoke D A 5 0 0 Q (w_X0_carrySmoke cA a_me a_q1 a_q2 a_height a_into a_nearest a_into_cells a_q1_one a_q1_two a_q1_length a_q1_draught a_q1_one_cells a_q1_two_cells a_q1_length_cells a_q2_lengths a_q2_lengths_cells u_breathing u_q1_doors u_q1_shafts c_into c_q1_galleries c_q1_one c_q1_two c_q1_length z)) (hk6 : ∀ (c_q2_lengths : A32) (v3 : Int32), k6 c_q2_lengths v3 = some z → G p l e rm_X0_carrySmoke s m args below meth c D A 5 0 0 Q 6 [(0, .ref a_me), (1, .ref a_q1), (2, .ref a_q2), (3, .int v3)] [] (w_X0_carrySmoke cA a_me a_q1 a_q2 a_height a_into a_nearest a_into_cells a_q1_one a_q1_two a_q1_length a_q1_draught a_q1_one_cells a_q1_two_cells a_q1_length_cells a_q2_lengths a_q2_lengths_cells u_breathing u_q1_doors u_q1_shafts c_into c_q1_galleries c_q1_one c_q1_two c_q1_length c_q2_lengths)) (h : f_X0_carrySmoke_b51 k6 c_into c_q1_galleries c_q1_one c_q1_two c_q1_length c_q2_lengths v3 = some z) : G p l e rm_X0_carrySmoke s m args below meth c D A 5 0 0 Q 51 [(0, .ref a_me), (1, .ref a_q1), (2, .ref a_q2), (3, .int v3)] [] (w_X0_carrySmoke cA a_me a_q1 a_q2 a_height a_into a_nearest a_into_cells a_q1_one a_q1_two a_q1_length a_q1_draught a_q1_one_cells a_q1_two_cells a_q1_length_cells a_q2_lengths a_q2_lengths_cells u_breathing u_q1_doors u_q1_shafts c_into c_q1_galleries c_q1_one c_q1_two c_q1_length c_q2_lengths) := by
  have h : (nam (v3 + 1) fun v3_1 => k6 c_q2_lengths v3_1 : Option (A32)) = some z := h
  obtain ⟨v3_1, ev3_1, h⟩ := nam_s h
  refine g_iinc (v := v3_1) (lv' := [(3, .int v3_1), (0, .ref a_me), (1, .ref a_q1), (2, .ref a_q2)]) X 3 rfl (by rw [ev3_1]; rfl) (by decide) rfl dX0_carrySmoke_51 rfl ?_
  refine g_goto (tgt := 6) X dX0_carrySmoke_54 (by decide) ?_
  refine g_lvs [1, 2, 3, 0] rfl ?_
  exact hk6 _ _ h
set_option maxHeartbeats 4000000 in
set_option maxRecDepth 100000 in
theorem t_X0_carrySmoke_b6 {l : Launch} {D : va_G} {cA : ClassId} {p : Program} {e : Env} {s : State} {m : MethodId} {args : Array Value} {below : List Frame} {meth : Method} {c : Code} {A : Nat → Prop} {Q : State → Prop} {z : A32} {a_me a_q1 a_q2 a_height a_into a_nearest a_into_cells a_q1_one a_q1_two a_q1_length a_q1_draught a_q1_one_cells a_q1_two_cells a_q1_length_cells a_q2_lengths a_q2_lengths_cells : Nat} {u_breathing : Int32} {u_q1_doors : Int32} {u_q1_shafts : Int32}  {c_into : A32} {c_q1_galleries : Int32} {c_q1_one : A32} {c_q1_two : A32} {c_q1_length : A32}  (X : GX p s m args c cX0_carrySmoke RX0 wsX0_carrySmoke D cA A 5) (hret : RtV p l e rm_X0_carrySmoke s m args below meth c cX0_carrySmoke D A 5 0 0 Q (w_X0_carrySmoke cA a_me a_q1 a_q2 a_height a_into a_nearest a_into_cells a_q1_one a_q1_two a_q1_length a_q1_draught a_q1_one_cells a_q1_two_cells a_q1_length_cells a_q2_lengths a_q2_lengths_cells u_breathing u_q1_doors u_q1_shafts c_into c_q1_galleries c_q1_one c_q1_two c_q1_length z))  : ∀ (fu : Nat) (c_q2_lengths : A32) (v3 : Int32), f_X0_carrySmoke_b6 c_into c_q1_galleries c_q1_one c_q1_two c_q1_length fu c_q2_lengths v3 = some z → G p l e rm_X0_carrySmoke s m args below meth c D A 5 0 0 Q 6 [(0, .ref a_me), (1, .ref a_q1), (2, .ref a_q2), (3, .int v3)] [] (w_X0_carrySmoke cA a_me a_q1 a_q2 a_height a_into a_nearest a_into_cells a_q1_one a_q1_two a_q1_length a_q1_draught a_q1_one_cells a_q1_two_cells a_q1_length_cells a_q2_lengths a_q2_lengths_cells u_breathing u_q1_doors u_q1_shafts c_into c_q1_galleries c_q1_one c_q1_two c_q1_length c_q2_lengths) := by
  intro fu
  induction fu with
  | zero => intro c_q2_lengths v3 h; exact absurd (show (none : Option (A32)) = some z from h) (by simp)
  | succ fu ih =>
    intro c_q2_lengths v3 h
    have h : (if c_q1_galleries ≤ v3 then Option.bind (f_X9_joinWays c_q2_lengths) fun z_2 => some z_2 else Option.bind (f_X8_get 10 c_into v3) fun z_3 => if z_3 = (-1) then f_X0_carrySmoke_b51 (f_X0_carrySmoke_b6 c_into c_q1_galleries c_q1_one c_q1_two c_q1_length fu) c_into c_q1_galleries c_q1_one c_q1_two c_q1_length c_q2_lengths v3 else Option.bind (f_X5_otherEnd c_q1_one c_q1_two v3 z_3) fun z_5 => Option.bind (f_X8_get 10 c_q1_length v3) fun z_6 => Option.bind (f_X9_link c_q2_lengths z_5 z_3 z_6) fun z_7 => f_X0_carrySmoke_b51 (f_X0_carrySmoke_b6 c_into c_q1_galleries c_q1_one c_q1_two c_q1_length fu) c_into c_q1_galleries c_q1_one c_q1_two c_q1_length z_7 v3 : Option (A32)) = some z := h
    refine g_iload_n X 3 rfl rfl dX0_carrySmoke_6 rfl ?_
    refine g_aload_n X 1 rfl rfl dX0_carrySmoke_7 rfl ?_
    refine g_getf (C := RX5) (T := TX5) (N := 7) (v := .int c_q1_galleries) X 3 rfl vc_X5 0 (by decide) iw_X0_carrySmoke_X5 fl_X0_carrySmoke_X5_0 rfl rfl dX0_carrySmoke_8 rfl ?_
    refine g_icmp_ge (tgt := 57) X dX0_carrySmoke_11 (by decide) rfl h (fun c_1 h => ?_) (fun c_1 h => ?_)
    · refine g_aload_n X 2 rfl rfl dX0_carrySmoke_57 rfl ?_
      obtain ⟨z_2, hz_2, h⟩ := bnd_s h
      refine g_callVV (rm := rm_X9_joinWays) (As := []) (W0 := (w_X9_joinWays cA a_q2 a_q2_lengths a_q2_lengths_cells c_q2_lengths)) (W1 := (w_X9_joinWays cA a_q2 a_q2_lengths a_q2_lengths_cells z_2)) (isC := [10, 11, 12]) (isR := [0, 1, 2, 3, 4, 5, 6, 7, 8, 9]) (perm := [0, 1, 2, 3, 4, 5, 6, 7, 8, 9, 10, 11, 12]) (ws' := (w_X0_carrySmoke cA a_me a_q1 a_q2 a_height a_into a_nearest a_into_cells a_q1_one a_q1_two a_q1_length a_q1_draught a_q1_one_cells a_q1_two_cells a_q1_length_cells a_q2_lengths a_q2_lengths_cells u_breathing u_q1_doors u_q1_shafts c_into c_q1_galleries c_q1_one c_q1_two c_q1_length z_2)) X (c_X9_joinWays l D cA a_q2 a_q2_lengths a_q2_lengths_cells c_q2_lengths _ hz_2) 10 rfl rfl rfl gX0_carrySmoke_X9_joinWays rfl rfl rfl ⟨rfl, hd_X9_joinWays⟩ ⟨Nat.le_of_ble_eq_true rfl, Nat.le_of_ble_eq_true rfl⟩ rfl rfl (Nat.le_of_ble_eq_true rfl) rfl (by decide +kernel) rfl (by decide +kernel) (by decide +kernel) ⟨Nat.zero_le _, Nat.zero_le _⟩ rfl (by decide +kernel) dX0_carrySmoke_58 rfl ?_
      cases Option.some.inj h
      exact hret _ _ dX0_carrySmoke_61
    · refine g_aload_n X 0 rfl rfl dX0_carrySmoke_14 rfl ?_
      refine g_getf (C := RX0) (T := TX0) (N := 4) (v := .ref a_into) X 0 rfl vc_X0 1 (by decide) iw_X0_carrySmoke_X0 fl_X0_carrySmoke_X0_1 rfl rfl dX0_carrySmoke_15 rfl ?_
      refine g_iload_n X 3 rfl rfl dX0_carrySmoke_18 rfl ?_
      obtain ⟨z_3, hz_3, h⟩ := bnd_s h
      refine g_callVI (rm := rm_X8_get) (As := [.int v3]) (r := z_3) (W0 := (w_X8_get cA a_into a_into_cells 10 c_into)) (W1 := (w_X8_get cA a_into a_into_cells 10 c_into)) (isC := [1, 2]) (isR := [0, 3, 4, 5, 6, 7, 8, 9, 10, 11, 12]) (perm := [0, 11, 12, 1, 2, 3, 4, 5, 6, 7, 8, 9, 10]) (ws' := (w_X0_carrySmoke cA a_me a_q1 a_q2 a_height a_into a_nearest a_into_cells a_q1_one a_q1_two a_q1_length a_q1_draught a_q1_one_cells a_q1_two_cells a_q1_length_cells a_q2_lengths a_q2_lengths_cells u_breathing u_q1_doors u_q1_shafts c_into c_q1_galleries c_q1_one c_q1_two c_q1_length c_q2_lengths)) X (c_X8_get l D cA a_into a_into_cells 10 c_into v3 _ hz_3) 1 rfl rfl rfl gX0_carrySmoke_X8_get rfl rfl rfl ⟨rfl, hd_X8_get⟩ ⟨Nat.le_of_ble_eq_true rfl, Nat.le_of_ble_eq_true rfl⟩ rfl rfl (Nat.le_of_ble_eq_true rfl) rfl (by decide +kernel) rfl (by decide +kernel) (by decide +kernel) ⟨Nat.zero_le _, Nat.zero_le _⟩ rfl (by decide +kernel) dX0_carrySmoke_19 rfl ?_
      refine g_istore (lv' := [(4, .int z_3), (0, .ref a_me), (1, .ref a_q1), (2, .ref a_q2), (3, .int v3)]) X (by decide) rfl dX0_carrySmoke_22 rfl ?_
      refine g_iload X 0 rfl dX0_carrySmoke_24 rfl ?_
      refine g_iconst (v := (-1)) X dX0_carrySmoke_26 (by decide) rfl ?_
      refine g_icmp_eq (tgt := 51) X dX0_carrySmoke_27 (by decide) rfl h (fun c_4 h => ?_) (fun c_4 h => ?_)
      · refine g_lvs [1, 2, 3, 4] rfl ?_
        exact t_X0_carrySmoke_b51 X hret ih h
      · refine g_aload_n X 3 rfl rfl dX0_carrySmoke_30 rfl ?_
        refine g_aload_n X 2 rfl rfl dX0_carrySmoke_31 rfl ?_
        refine g_iload_n X 4 rfl rfl dX0_carrySmoke_32 rfl ?_
        refine g_iload X 0 rfl dX0_carrySmoke_33 rfl ?_
        obtain ⟨z_5, hz_5, h⟩ := bnd_s h
        refine g_callVI (rm := rm_X5_otherEnd) (As := [.int v3, .int z_3]) (r := z_5) (W0 := (w_X5_otherEnd cA a_q1 a_q1_one a_q1_two a_q1_length a_q1_draught a_q1_one_cells a_q1_two_cells c_q1_galleries u_q1_doors u_q1_shafts c_q1_one c_q1_two)) (W1 := (w_X5_otherEnd cA a_q1 a_q1_one a_q1_two a_q1_length a_q1_draught a_q1_one_cells a_q1_two_cells c_q1_galleries u_q1_doors u_q1_shafts c_q1_one c_q1_two)) (isC := [3, 4, 5, 6, 7]) (isR := [0, 1, 2, 8, 9, 10, 11, 12]) (perm := [0, 1, 2, 8, 9, 10, 11, 12, 3, 4, 5, 6, 7]) (ws' := (w_X0_carrySmoke cA a_me a_q1 a_q2 a_height a_into a_nearest a_into_cells a_q1_one a_q1_two a_q1_length a_q1_draught a_q1_one_cells a_q1_two_cells a_q1_length_cells a_q2_lengths a_q2_lengths_cells u_breathing u_q1_doors u_q1_shafts c_into c_q1_galleries c_q1_one c_q1_two c_q1_length c_q2_lengths)) X (c_X5_otherEnd l D cA a_q1 a_q1_one a_q1_two a_q1_length a_q1_draught a_q1_one_cells a_q1_two_cells c_q1_galleries u_q1_doors u_q1_shafts c_q1_one c_q1_two v3 z_3 _ hz_5) 3 rfl rfl rfl gX0_carrySmoke_X5_otherEnd rfl rfl rfl ⟨rfl, hd_X5_otherEnd⟩ ⟨Nat.le_of_ble_eq_true rfl, Nat.le_of_ble_eq_true rfl⟩ rfl rfl (Nat.le_of_ble_eq_true rfl) rfl (by decide +kernel) rfl (by decide +kernel) (by decide +kernel) ⟨Nat.zero_le _, Nat.zero_le _⟩ rfl (by decide +kernel) dX0_carrySmoke_35 rfl ?_
        refine g_iload X 0 rfl dX0_carrySmoke_38 rfl ?_
        refine g_aload_n X 2 rfl rfl dX0_carrySmoke_40 rfl ?_
        refine g_getf (C := RX5) (T := TX5) (N := 7) (v := .ref a_q1_length) X 3 rfl vc_X5 3 (by decide) iw_X0_carrySmoke_X5 fl_X0_carrySmoke_X5_3 rfl rfl dX0_carrySmoke_41 rfl ?_
        refine g_iload_n X 4 rfl rfl dX0_carrySmoke_44 rfl ?_
        obtain ⟨z_6, hz_6, h⟩ := bnd_s h
        refine g_callVI (rm := rm_X8_get) (As := [.int v3]) (r := z_6) (W0 := (w_X8_get cA a_q1_length a_q1_length_cells 10 c_q1_length)) (W1 := (w_X8_get cA a_q1_length a_q1_length_cells 10 c_q1_length)) (isC := [8, 9]) (isR := [0, 1, 2, 3, 4, 5, 6, 7, 10, 11, 12]) (perm := [0, 1, 2, 3, 4, 5, 6, 7, 11, 12, 8, 9, 10]) (ws' := (w_X0_carrySmoke cA a_me a_q1 a_q2 a_height a_into a_nearest a_into_cells a_q1_one a_q1_two a_q1_length a_q1_draught a_q1_one_cells a_q1_two_cells a_q1_length_cells a_q2_lengths a_q2_lengths_cells u_breathing u_q1_doors u_q1_shafts c_into c_q1_galleries c_q1_one c_q1_two c_q1_length c_q2_lengths)) X (c_X8_get l D cA a_q1_length a_q1_length_cells 10 c_q1_length v3 _ hz_6) 8 rfl rfl rfl gX0_carrySmoke_X8_get rfl rfl rfl ⟨rfl, hd_X8_get⟩ ⟨Nat.le_of_ble_eq_true rfl, Nat.le_of_ble_eq_true rfl⟩ rfl rfl (Nat.le_of_ble_eq_true rfl) rfl (by decide +kernel) rfl (by decide +kernel) (by decide +kernel) ⟨Nat.zero_le _, Nat.zero_le _⟩ rfl (by decide +kernel) dX0_carrySmoke_45 rfl ?_
        obtain ⟨z_7, hz_7, h⟩ := bnd_s h
        refine g_callVV (rm := rm_X9_link) (As := [.int z_5, .int z_3, .int z_6]) (W0 := (w_X9_link cA a_q2 a_q2_lengths a_q2_lengths_cells c_q2_lengths)) (W1 := (w_X9_link cA a_q2 a_q2_lengths a_q2_lengths_cells z_7)) (isC := [10, 11, 12]) (isR := [0, 1, 2, 3, 4, 5, 6, 7, 8, 9]) (perm := [0, 1, 2, 3, 4, 5, 6, 7, 8, 9, 10, 11, 12]) (ws' := (w_X0_carrySmoke cA a_me a_q1 a_q2 a_height a_into a_nearest a_into_cells a_q1_one a_q1_two a_q1_length a_q1_draught a_q1_one_cells a_q1_two_cells a_q1_length_cells a_q2_lengths a_q2_lengths_cells u_breathing u_q1_doors u_q1_shafts c_into c_q1_galleries c_q1_one c_q1_two c_q1_length z_7)) X (c_X9_link l D cA a_q2 a_q2_lengths a_q2_lengths_cells c_q2_lengths z_5 z_3 z_6 _ hz_7) 10 rfl rfl rfl gX0_carrySmoke_X9_link rfl rfl rfl ⟨rfl, hd_X9_link⟩ ⟨Nat.le_of_ble_eq_true rfl, Nat.le_of_ble_eq_true rfl⟩ rfl rfl (Nat.le_of_ble_eq_true rfl) rfl (by decide +kernel) rfl (by decide +kernel) (by decide +kernel) ⟨Nat.zero_le _, Nat.zero_le _⟩ rfl (by decide +kernel) dX0_carrySmoke_48 rfl ?_
        refine g_lvs [1, 2, 3, 4] rfl ?_
        exact t_X0_carrySmoke_b51 X hret ih h
set_option maxHeartbeats 4000000 in
set_option maxRecDepth 100000 in
theorem c_X0_carrySmoke (l : Launch) (D : va_G) (cA : ClassId) (a_me a_q1 a_q2 a_height a_into a_nearest a_into_cells a_q1_one a_q1_two a_q1_length a_q1_draught a_q1_one_cells a_q1_two_cells a_q1_length_cells a_q2_lengths a_q2_lengths_cells : Nat) (u_breathing : Int32) (u_q1_doors : Int32) (u_q1_shafts : Int32) (c_into : A32) (c_q1_galleries : Int32) (c_q1_one : A32) (c_q1_two : A32) (c_q1_length : A32) (c_q2_lengths : A32) (z : A32) (h : f_X0_carrySmoke c_into c_q1_galleries c_q1_one c_q1_two c_q1_length c_q2_lengths = some z) : CtV l yX0_carrySmoke wsX0_carrySmoke rm_X0_carrySmoke D cA [.ref a_me, .ref a_q1, .ref a_q2] (w_X0_carrySmoke cA a_me a_q1 a_q2 a_height a_into a_nearest a_into_cells a_q1_one a_q1_two a_q1_length a_q1_draught a_q1_one_cells a_q1_two_cells a_q1_length_cells a_q2_lengths a_q2_lengths_cells u_breathing u_q1_doors u_q1_shafts c_into c_q1_galleries c_q1_one c_q1_two c_q1_length c_q2_lengths) Unit (fun _ => (w_X0_carrySmoke cA a_me a_q1 a_q2 a_height a_into a_nearest a_into_cells a_q1_one a_q1_two a_q1_length a_q1_draught a_q1_one_cells a_q1_two_cells a_q1_length_cells a_q2_lengths a_q2_lengths_cells u_breathing u_q1_doors u_q1_shafts c_into c_q1_galleries c_q1_one c_q1_two c_q1_length z)) 0 0 := by
  refine ct_V (maxL := 5) (cc := cX0_carrySmoke) (by decide) rfl (Nat.le_of_ble_eq_true rfl) rfl (fun p e s m args below meth c A Q X _ hret => ?_)
  have hret := hret ()
  have h : (Option.bind (f_X9_clear c_q2_lengths) fun z_1 => f_X0_carrySmoke_b6 c_into c_q1_galleries c_q1_one c_q1_two c_q1_length FU z_1 0 : Option (A32)) = some z := h
  refine g_aload_n X 2 rfl rfl dX0_carrySmoke_0 rfl ?_
  obtain ⟨z_1, hz_1, h⟩ := bnd_s h
  refine g_callVV (rm := rm_X9_clear) (As := []) (W0 := (w_X9_clear cA a_q2 a_q2_lengths a_q2_lengths_cells c_q2_lengths)) (W1 := (w_X9_clear cA a_q2 a_q2_lengths a_q2_lengths_cells z_1)) (isC := [10, 11, 12]) (isR := [0, 1, 2, 3, 4, 5, 6, 7, 8, 9]) (perm := [0, 1, 2, 3, 4, 5, 6, 7, 8, 9, 10, 11, 12]) (ws' := (w_X0_carrySmoke cA a_me a_q1 a_q2 a_height a_into a_nearest a_into_cells a_q1_one a_q1_two a_q1_length a_q1_draught a_q1_one_cells a_q1_two_cells a_q1_length_cells a_q2_lengths a_q2_lengths_cells u_breathing u_q1_doors u_q1_shafts c_into c_q1_galleries c_q1_one c_q1_two c_q1_length z_1)) X (c_X9_clear l D cA a_q2 a_q2_lengths a_q2_lengths_cells c_q2_lengths _ hz_1) 10 rfl rfl rfl gX0_carrySmoke_X9_clear rfl rfl rfl ⟨rfl, hd_X9_clear⟩ ⟨Nat.le_of_ble_eq_true rfl, Nat.le_of_ble_eq_true rfl⟩ rfl rfl (Nat.le_of_ble_eq_true rfl) rfl (by decide +kernel) rfl (by decide +kernel) (by decide +kernel) ⟨Nat.zero_le _, Nat.zero_le _⟩ rfl (by decide +kernel) dX0_carrySmoke_1 rfl ?_
  refine g_iconst (v := 0) X dX0_carrySmoke_4 (by decide) rfl ?_
  refine g_istore_n (lv' := [(3, .int 0), (0, .ref a_me), (1, .ref a_q1), (2, .ref a_q2)]) X rfl (by decide) rfl dX0_carrySmoke_5 rfl ?_
  refine g_lvs [1, 2, 3, 0] rfl ?_
  exact t_X0_carrySmoke_b6 X hret _ _ _ h
abbrev rm_X3_begin : Room := { frames := 1, cells := 0, slots := 0, locals := 22 }
theorem hd_X3_begin : yX3_begin.cls ≠ "java/lang/invoke/MethodHandle" ∧ yX3_begin.cls ≠ "java/lang/invoke/VarHandle" ∧ (parseMethodDescriptor yX3_begin.desc).map (fun d => d.parameters.length) = some 1 := by decide +kernel
theorem iw_X3_begin_X3 : ∀ w ∈ wsX30, w ∈ wsX3_begin := fun w h => List.mem_cons_of_mem _ (List.mem_append_left _ (List.mem_append_right _ h))
theorem fl_X3_begin_X3_0 : Cond.fieldLink RX3 23 RX3 (TX3 0).2.1 (TX3 0).2.2.1 ∈ wsX3_begin := List.mem_of_getElem? (i := 1) rfl
theorem fl_X3_begin_X3_1 : Cond.fieldLink RX3 27 RX3 (TX3 1).2.1 (TX3 1).2.2.1 ∈ wsX3_begin := List.mem_of_getElem? (i := 2) rfl
theorem fl_X3_begin_X3_2 : Cond.fieldLink RX3 14 RX3 (TX3 2).2.1 (TX3 2).2.2.1 ∈ wsX3_begin := List.mem_of_getElem? (i := 3) rfl
theorem fl_X3_begin_X3_4 : Cond.fieldLink RX3 34 RX3 (TX3 4).2.1 (TX3 4).2.2.1 ∈ wsX3_begin := List.mem_of_getElem? (i := 4) rfl
theorem fl_X3_begin_X3_5 : Cond.fieldLink RX3 37 RX3 (TX3 5).2.1 (TX3 5).2.2.1 ∈ wsX3_begin := List.mem_of_getElem? (i := 5) rfl
abbrev w_X3_begin (cA : ClassId) (a_me a_gas a_place a_gas_cells : Nat) (c_open : Int32) (c_moon : Int32) (c_out : Int32) (c_gone : Int32) (c_gas : A32) : va_W := [(a_me, .inr (3, [.int c_open, .int c_moon, .ref a_gas, .ref a_place, .int c_out, .int c_gone])), (a_gas, .inr (8, [.ref a_gas_cells])), (a_gas_cells, .inl (cA, 7, .inl c_gas))]
set_option maxHeartbeats 4000000 in
set_option maxRecDepth 100000 in
theorem c_X3_begin (l : Launch) (D : va_G) (cA : ClassId) (a_me a_gas a_place a_gas_cells : Nat)  (c_open : Int32) (c_moon : Int32) (c_out : Int32) (c_gone : Int32) (c_gas : A32) (v1 : Int32) (z : Int32 × Int32 × Int32 × Int32 × A32) (h : f_X3_begin c_open c_moon c_out c_gone c_gas v1 = some z) : CtV l yX3_begin wsX3_begin rm_X3_begin D cA [.ref a_me, .int v1] (w_X3_begin cA a_me a_gas a_place a_gas_cells c_open c_moon c_out c_gone c_gas) Unit (fun _ => (w_X3_begin cA a_me a_gas a_place a_gas_cells z.1 z.2.1 z.2.2.1 z.2.2.2.1 z.2.2.2.2)) 0 0 := by
  refine ct_V (maxL := 2) (cc := cX3_begin) (by decide) rfl (Nat.le_of_ble_eq_true rfl) rfl (fun p e s m args below meth c A Q X _ hret => ?_)
  have hret := hret ()
  have h : (Option.bind (f_X8_fill 7 c_gas 0) fun z_1 => some (v1, 0, 0, 0, z_1) : Option (Int32 × Int32 × Int32 × Int32 × A32)) = some z := h
  refine g_aload_n X 0 rfl rfl dX3_begin_0 rfl ?_
  refine g_iload_n X 1 rfl rfl dX3_begin_1 rfl ?_
  refine g_putf (C := RX3) (T := TX3) (N := 6) (ty := .int) (ws' := (w_X3_begin cA a_me a_gas a_place a_gas_cells v1 c_moon c_out c_gone c_gas)) X 0 tyX3 tyX3_ok nmX3 rfl vc_X3 0 (by decide) iw_X3_begin_X3 fl_X3_begin_X3_0 rfl rfl pd_X3_0 rfl rfl (Nat.le_of_ble_eq_true rfl) rfl dX3_begin_2 rfl ?_
  refine g_aload_n X 0 rfl rfl dX3_begin_5 rfl ?_
  refine g_iconst (v := 0) X dX3_begin_6 (by decide) rfl ?_
  refine g_putf (C := RX3) (T := TX3) (N := 6) (ty := .boolean) (ws' := (w_X3_begin cA a_me a_gas a_place a_gas_cells v1 0 c_out c_gone c_gas)) X 0 tyX3 tyX3_ok nmX3 rfl vc_X3 1 (by decide) iw_X3_begin_X3 fl_X3_begin_X3_1 rfl rfl pd_X3_1 rfl rfl (Nat.le_of_ble_eq_true rfl) rfl dX3_begin_7 rfl ?_
  refine g_aload_n X 0 rfl rfl dX3_begin_10 rfl ?_
  refine g_getf (C := RX3) (T := TX3) (N := 6) (v := .ref a_gas) X 0 rfl vc_X3 2 (by decide) iw_X3_begin_X3 fl_X3_begin_X3_2 rfl rfl dX3_begin_11 rfl ?_
  refine g_iconst (v := 0) X dX3_begin_14 (by decide) rfl ?_
  obtain ⟨z_1, hz_1, h⟩ := bnd_s h
  refine g_callVV (rm := rm_X8_fill) (As := [.int 0]) (W0 := (w_X8_fill cA a_gas a_gas_cells 7 c_gas)) (W1 := (w_X8_fill cA a_gas a_gas_cells 7 z_1)) (isC := [1, 2]) (isR := [0]) (perm := [0, 1, 2]) (ws' := (w_X3_begin cA a_me a_gas a_place a_gas_cells v1 0 c_out c_gone z_1)) X (c_X8_fill l D cA a_gas a_gas_cells 7 c_gas 0 _ hz_1) 1 rfl rfl rfl gX3_begin_X8_fill rfl rfl rfl ⟨rfl, hd_X8_fill⟩ ⟨Nat.le_of_ble_eq_true rfl, Nat.le_of_ble_eq_true rfl⟩ rfl rfl (Nat.le_of_ble_eq_true rfl) rfl (by decide +kernel) rfl (by decide +kernel) (by decide +kernel) ⟨Nat.zero_le _, Nat.zero_le _⟩ rfl (by decide +kernel) dX3_begin_15 rfl ?_
  refine g_aload_n X 0 rfl rfl dX3_begin_18 rfl ?_
  refine g_iconst (v := 0) X dX3_begin_19 (by decide) rfl ?_
  refine g_putf (C := RX3) (T := TX3) (N := 6) (ty := .int) (ws' := (w_X3_begin cA a_me a_gas a_place a_gas_cells v1 0 0 c_gone z_1)) X 0 tyX3 tyX3_ok nmX3 rfl vc_X3 4 (by decide) iw_X3_begin_X3 fl_X3_begin_X3_4 rfl rfl pd_X3_4 rfl rfl (Nat.le_of_ble_eq_true rfl) rfl dX3_begin_20 rfl ?_
  refine g_aload_n X 0 rfl rfl dX3_begin_23 rfl ?_
  refine g_iconst (v := 0) X dX3_begin_24 (by decide) rfl ?_
  refine g_putf (C := RX3) (T := TX3) (N := 6) (ty := .int) (ws' := (w_X3_begin cA a_me a_gas a_place a_gas_cells v1 0 0 0 z_1)) X 0 tyX3 tyX3_ok nmX3 rfl vc_X3 5 (by decide) iw_X3_begin_X3 fl_X3_begin_X3_5 rfl rfl pd_X3_5 rfl rfl (Nat.le_of_ble_eq_true rfl) rfl dX3_begin_25 rfl ?_
  cases Option.some.inj h
  exact hret _ _ dX3_begin_28
abbrev rm_X3_copyFrom : Room := { frames := 2, cells := 0, slots := 0, locals := 43 }
theorem hd_X3_copyFrom : yX3_copyFrom.cls ≠ "java/lang/invoke/MethodHandle" ∧ yX3_copyFrom.cls ≠ "java/lang/invoke/VarHandle" ∧ (parseMethodDescriptor yX3_copyFrom.desc).map (fun d => d.parameters.length) = some 1 := by decide +kernel
theorem iw_X3_copyFrom_X3 : ∀ w ∈ wsX30, w ∈ wsX3_copyFrom := fun w h => List.mem_cons_of_mem _ (List.mem_append_left _ (List.mem_append_right _ h))
theorem fl_X3_copyFrom_X3_0 : Cond.fieldLink RX3 23 RX3 (TX3 0).2.1 (TX3 0).2.2.1 ∈ wsX3_copyFrom := List.mem_of_getElem? (i := 1) rfl
theorem fl_X3_copyFrom_X3_1 : Cond.fieldLink RX3 27 RX3 (TX3 1).2.1 (TX3 1).2.2.1 ∈ wsX3_copyFrom := List.mem_of_getElem? (i := 2) rfl
theorem fl_X3_copyFrom_X3_2 : Cond.fieldLink RX3 14 RX3 (TX3 2).2.1 (TX3 2).2.2.1 ∈ wsX3_copyFrom := List.mem_of_getElem? (i := 3) rfl
theorem fl_X3_copyFrom_X3_3 : Cond.fieldLink RX3 20 RX3 (TX3 3).2.1 (TX3 3).2.2.1 ∈ wsX3_copyFrom := List.mem_of_getElem? (i := 4) rfl
theorem fl_X3_copyFrom_X3_4 : Cond.fieldLink RX3 34 RX3 (TX3 4).2.1 (TX3 4).2.2.1 ∈ wsX3_copyFrom := List.mem_of_getElem? (i := 5) rfl
theorem fl_X3_copyFrom_X3_5 : Cond.fieldLink RX3 37 RX3 (TX3 5).2.1 (TX3 5).2.2.1 ∈ wsX3_copyFrom := List.mem_of_getElem? (i := 6) rfl
abbrev w_X3_copyFrom (cA : ClassId) (a_me a_q1 a_gas a_place a_gas_cells a_place_cells a_q1_gas a_q1_place a_q1_gas_cells a_q1_place_cells : Nat) (c_open : Int32) (c_moon : Int32) (c_out : Int32) (c_gone : Int32) (c_gas : A32) (c_place : A32) (c_q1_open : Int32) (c_q1_moon : Int32) (c_q1_out : Int32) (c_q1_gone : Int32) (c_q1_gas : A32) (c_q1_place : A32) : va_W := [(a_me, .inr (3, [.int c_open, .int c_moon, .ref a_gas, .ref a_place, .int c_out, .int c_gone])), (a_gas, .inr (8, [.ref a_gas_cells])), (a_gas_cells, .inl (cA, 7, .inl c_gas)), (a_place, .inr (8, [.ref a_place_cells])), (a_place_cells, .inl (cA, 6, .inl c_place)), (a_q1, .inr (3, [.int c_q1_open, .int c_q1_moon, .ref a_q1_gas, .ref a_q1_place, .int c_q1_out, .int c_q1_gone])), (a_q1_gas, .inr (8, [.ref a_q1_gas_cells])), (a_q1_gas_cells, .inl (cA, 7, .inl c_q1_gas)), (a_q1_place, .inr (8, [.ref a_q1_place_cells])), (a_q1_place_cells, .inl (cA, 6, .inl c_q1_place))]
set_option maxHeartbeats 4000000 in
set_option maxRecDepth 100000 in
theorem c_X3_copyFrom (l : Launch) (D : va_G) (cA : ClassId) (a_me a_q1 a_gas a_place a_gas_cells a_place_cells a_q1_gas a_q1_place a_q1_gas_cells a_q1_place_cells : Nat)  (c_open : Int32) (c_moon : Int32) (c_out : Int32) (c_gone : Int32) (c_gas : A32) (c_place : A32) (c_q1_open : Int32) (c_q1_moon : Int32) (c_q1_out : Int32) (c_q1_gone : Int32) (c_q1_gas : A32) (c_q1_place : A32) (z : Int32 × Int32 × Int32 × Int32 × A32 × A32) (h : f_X3_copyFrom c_open c_moon c_out c_gone c_gas c_place c_q1_open c_q1_moon c_q1_out c_q1_gone c_q1_gas c_q1_place = some z) : CtV l yX3_copyFrom wsX3_copyFrom rm_X3_copyFrom D cA [.ref a_me, .ref a_q1] (w_X3_copyFrom cA a_me a_q1 a_gas a_place a_gas_cells a_place_cells a_q1_gas a_q1_place a_q1_gas_cells a_q1_place_cells c_open c_moon c_out c_gone c_gas c_place c_q1_open c_q1_moon c_q1_out c_q1_gone c_q1_gas c_q1_place) Unit (fun _ => (w_X3_copyFrom cA a_me a_q1 a_gas a_place a_gas_cells a_place_cells a_q1_gas a_q1_place a_q1_gas_cells a_q1_place_cells z.1 z.2.1 z.2.2.1 z.2.2.2.1 z.2.2.2.2.1 z.2.2.2.2.2 c_q1_open c_q1_moon c_q1_out c_q1_gone c_q1_gas c_q1_place)) 0 0 := by
  refine ct_V (maxL := 2) (cc := cX3_copyFrom) (by decide) rfl (Nat.le_of_ble_eq_true rfl) rfl (fun p e s m args below meth c A Q X _ hret => ?_)
  have hret := hret ()
  have h : (if c_q1_moon = 0 ∨ c_q1_moon = 1 then Option.bind (f_X8_copyFrom 7 7 c_gas c_q1_gas) fun z_2 => Option.bind (f_X8_copyFrom 6 6 c_place c_q1_place) fun z_3 => some (c_q1_open, c_q1_moon, c_q1_out, c_q1_gone, z_2, z_3) else none : Option (Int32 × Int32 × Int32 × Int32 × A32 × A32)) = some z := h
  refine g_aload_n X 0 rfl rfl dX3_copyFrom_0 rfl ?_
  refine g_aload_n X 1 rfl rfl dX3_copyFrom_1 rfl ?_
  refine g_getf (C := RX3) (T := TX3) (N := 6) (v := .int c_q1_open) X 5 rfl vc_X3 0 (by decide) iw_X3_copyFrom_X3 fl_X3_copyFrom_X3_0 rfl rfl dX3_copyFrom_2 rfl ?_
  refine g_putf (C := RX3) (T := TX3) (N := 6) (ty := .int) (ws' := (w_X3_copyFrom cA a_me a_q1 a_gas a_place a_gas_cells a_place_cells a_q1_gas a_q1_place a_q1_gas_cells a_q1_place_cells c_q1_open c_moon c_out c_gone c_gas c_place c_q1_open c_q1_moon c_q1_out c_q1_gone c_q1_gas c_q1_place)) X 0 tyX3 tyX3_ok nmX3 rfl vc_X3 0 (by decide) iw_X3_copyFrom_X3 fl_X3_copyFrom_X3_0 rfl rfl pd_X3_0 rfl rfl (Nat.le_of_ble_eq_true rfl) rfl dX3_copyFrom_5 rfl ?_
  refine g_aload_n X 0 rfl rfl dX3_copyFrom_8 rfl ?_
  refine g_aload_n X 1 rfl rfl dX3_copyFrom_9 rfl ?_
  refine g_getf (C := RX3) (T := TX3) (N := 6) (v := .int c_q1_moon) X 5 rfl vc_X3 1 (by decide) iw_X3_copyFrom_X3 fl_X3_copyFrom_X3_1 rfl rfl dX3_copyFrom_10 rfl ?_
  obtain ⟨c_1, h⟩ := ite_y h
  refine g_putf (C := RX3) (T := TX3) (N := 6) (ty := .boolean) (ws' := (w_X3_copyFrom cA a_me a_q1 a_gas a_place a_gas_cells a_place_cells a_q1_gas a_q1_place a_q1_gas_cells a_q1_place_cells c_q1_open c_q1_moon c_out c_gone c_gas c_place c_q1_open c_q1_moon c_q1_out c_q1_gone c_q1_gas c_q1_place)) X 0 tyX3 tyX3_ok nmX3 rfl vc_X3 1 (by decide) iw_X3_copyFrom_X3 fl_X3_copyFrom_X3_1 rfl rfl pd_X3_1 (nar_z c_1) (fit_z c_1) (Nat.le_of_ble_eq_true rfl) rfl dX3_copyFrom_13 rfl ?_
  refine g_aload_n X 0 rfl rfl dX3_copyFrom_16 rfl ?_
  refine g_getf (C := RX3) (T := TX3) (N := 6) (v := .ref a_gas) X 0 rfl vc_X3 2 (by decide) iw_X3_copyFrom_X3 fl_X3_copyFrom_X3_2 rfl rfl dX3_copyFrom_17 rfl ?_
  refine g_aload_n X 1 rfl rfl dX3_copyFrom_20 rfl ?_
  refine g_getf (C := RX3) (T := TX3) (N := 6) (v := .ref a_q1_gas) X 5 rfl vc_X3 2 (by decide) iw_X3_copyFrom_X3 fl_X3_copyFrom_X3_2 rfl rfl dX3_copyFrom_21 rfl ?_
  obtain ⟨z_2, hz_2, h⟩ := bnd_s h
  refine g_callVV (rm := rm_X8_copyFrom) (As := [.ref a_q1_gas]) (W0 := (w_X8_copyFrom cA a_gas a_q1_gas a_gas_cells a_q1_gas_cells 7 7 c_gas c_q1_gas)) (W1 := (w_X8_copyFrom cA a_gas a_q1_gas a_gas_cells a_q1_gas_cells 7 7 z_2 c_q1_gas)) (isC := [1, 2, 6, 7]) (isR := [0, 3, 4, 5, 8, 9]) (perm := [0, 6, 7, 1, 2, 3, 8, 9, 4, 5]) (ws' := (w_X3_copyFrom cA a_me a_q1 a_gas a_place a_gas_cells a_place_cells a_q1_gas a_q1_place a_q1_gas_cells a_q1_place_cells c_q1_open c_q1_moon c_out c_gone z_2 c_place c_q1_open c_q1_moon c_q1_out c_q1_gone c_q1_gas c_q1_place)) X (c_X8_copyFrom l D cA a_gas a_q1_gas a_gas_cells a_q1_gas_cells 7 7 c_gas c_q1_gas _ hz_2) 1 rfl rfl rfl gX3_copyFrom_X8_copyFrom rfl rfl rfl ⟨rfl, hd_X8_copyFrom⟩ ⟨Nat.le_of_ble_eq_true rfl, Nat.le_of_ble_eq_true rfl⟩ rfl rfl (Nat.le_of_ble_eq_true rfl) rfl (by decide +kernel) rfl (by decide +kernel) (by decide +kernel) ⟨Nat.zero_le _, Nat.zero_le _⟩ rfl (by decide +kernel) dX3_copyFrom_24 rfl ?_
  refine g_aload_n X 0 rfl rfl dX3_copyFrom_27 rfl ?_
  refine g_getf (C := RX3) (T := TX3) (N := 6) (v := .ref a_place) X 0 rfl vc_X3 3 (by decide) iw_X3_copyFrom_X3 fl_X3_copyFrom_X3_3 rfl rfl dX3_copyFrom_28 rfl ?_
  refine g_aload_n X 1 rfl rfl dX3_copyFrom_31 rfl ?_
  refine g_getf (C := RX3) (T := TX3) (N := 6) (v := .ref a_q1_place) X 5 rfl vc_X3 3 (by decide) iw_X3_copyFrom_X3 fl_X3_copyFrom_X3_3 rfl rfl dX3_copyFrom_32 rfl ?_
  obtain ⟨z_3, hz_3, h⟩ := bnd_s h
  refine g_callVV (rm := rm_X8_copyFrom) (As := [.ref a_q1_place]) (W0 := (w_X8_copyFrom cA a_place a_q1_place a_place_cells a_q1_place_cells 6 6 c_place c_q1_place)) (W1 := (w_X8_copyFrom cA a_place a_q1_place a_place_cells a_q1_place_cells 6 6 z_3 c_q1_place)) (isC := [3, 4, 8, 9]) (isR := [0, 1, 2, 5, 6, 7]) (perm := [0, 1, 2, 6, 7, 3, 4, 5, 8, 9]) (ws' := (w_X3_copyFrom cA a_me a_q1 a_gas a_place a_gas_cells a_place_cells a_q1_gas a_q1_place a_q1_gas_cells a_q1_place_cells c_q1_open c_q1_moon c_out c_gone z_2 z_3 c_q1_open c_q1_moon c_q1_out c_q1_gone c_q1_gas c_q1_place)) X (c_X8_copyFrom l D cA a_place a_q1_place a_place_cells a_q1_place_cells 6 6 c_place c_q1_place _ hz_3) 3 rfl rfl rfl gX3_copyFrom_X8_copyFrom rfl rfl rfl ⟨rfl, hd_X8_copyFrom⟩ ⟨Nat.le_of_ble_eq_true rfl, Nat.le_of_ble_eq_true rfl⟩ rfl rfl (Nat.le_of_ble_eq_true rfl) rfl (by decide +kernel) rfl (by decide +kernel) (by decide +kernel) ⟨Nat.zero_le _, Nat.zero_le _⟩ rfl (by decide +kernel) dX3_copyFrom_35 rfl ?_
  refine g_aload_n X 0 rfl rfl dX3_copyFrom_38 rfl ?_
  refine g_aload_n X 1 rfl rfl dX3_copyFrom_39 rfl ?_
  refine g_getf (C := RX3) (T := TX3) (N := 6) (v := .int c_q1_out) X 5 rfl vc_X3 4 (by decide) iw_X3_copyFrom_X3 fl_X3_copyFrom_X3_4 rfl rfl dX3_copyFrom_40 rfl ?_
  refine g_putf (C := RX3) (T := TX3) (N := 6) (ty := .int) (ws' := (w_X3_copyFrom cA a_me a_q1 a_gas a_place a_gas_cells a_place_cells a_q1_gas a_q1_place a_q1_gas_cells a_q1_place_cells c_q1_open c_q1_moon c_q1_out c_gone z_2 z_3 c_q1_open c_q1_moon c_q1_out c_q1_gone c_q1_gas c_q1_place)) X 0 tyX3 tyX3_ok nmX3 rfl vc_X3 4 (by decide) iw_X3_copyFrom_X3 fl_X3_copyFrom_X3_4 rfl rfl pd_X3_4 rfl rfl (Nat.le_of_ble_eq_true rfl) rfl dX3_copyFrom_43 rfl ?_
  refine g_aload_n X 0 rfl rfl dX3_copyFrom_46 rfl ?_
  refine g_aload_n X 1 rfl rfl dX3_copyFrom_47 rfl ?_
  refine g_getf (C := RX3) (T := TX3) (N := 6) (v := .int c_q1_gone) X 5 rfl vc_X3 5 (by decide) iw_X3_copyFrom_X3 fl_X3_copyFrom_X3_5 rfl rfl dX3_copyFrom_48 rfl ?_
  refine g_putf (C := RX3) (T := TX3) (N := 6) (ty := .int) (ws' := (w_X3_copyFrom cA a_me a_q1 a_gas a_place a_gas_cells a_place_cells a_q1_gas a_q1_place a_q1_gas_cells a_q1_place_cells c_q1_open c_q1_moon c_q1_out c_q1_gone z_2 z_3 c_q1_open c_q1_moon c_q1_out c_q1_gone c_q1_gas c_q1_place)) X 0 tyX3 tyX3_ok nmX3 rfl vc_X3 5 (by decide) iw_X3_copyFrom_X3 fl_X3_copyFrom_X3_5 rfl rfl pd_X3_5 rfl rfl (Nat.le_of_ble_eq_true rfl) rfl dX3_copyFrom_51 rfl ?_
  cases Option.some.inj h
  exact hret _ _ dX3_copyFrom_54
abbrev rm_X3_passMinute : Room := { frames := 2, cells := 0, slots := 0, locals := 42 }
theorem hd_X3_passMinute : yX3_passMinute.cls ≠ "java/lang/invoke/MethodHandle" ∧ yX3_passMinute.cls ≠ "java/lang/invoke/VarHandle" ∧ (parseMethodDescriptor yX3_passMinute.desc).map (fun d => d.parameters.length) = some 2 := by decide +kernel
theorem iw_X3_passMinute_X1 : ∀ w ∈ wsX10, w ∈ wsX3_passMinute := fun w h => List.mem_cons_of_mem _ (List.mem_append_left _ (List.mem_append_right _ h))
theorem iw_X3_passMinute_X3 : ∀ w ∈ wsX30, w ∈ wsX3_passMinute := fun w h => List.mem_cons_of_mem _ (List.mem_append_left _ (List.mem_append_left _ (List.mem_append_right _ h)))
theorem fl_X3_passMinute_X3_2 : Cond.fieldLink RX3 14 RX3 (TX3 2).2.1 (TX3 2).2.2.1 ∈ wsX3_passMinute := List.mem_of_getElem? (i := 1) rfl
theorem fl_X3_passMinute_X1_1 : Cond.fieldLink RX3 61 RX1 (TX1 1).2.1 (TX1 1).2.2.1 ∈ wsX3_passMinute := List.mem_of_getElem? (i := 6) rfl
theorem fl_X3_passMinute_X3_5 : Cond.fieldLink RX3 37 RX3 (TX3 5).2.1 (TX3 5).2.2.1 ∈ wsX3_passMinute := List.mem_of_getElem? (i := 9) rfl
theorem fl_X3_passMinute_X3_3 : Cond.fieldLink RX3 20 RX3 (TX3 3).2.1 (TX3 3).2.2.1 ∈ wsX3_passMinute := List.mem_of_getElem? (i := 7) rfl
theorem fl_X3_passMinute_X3_4 : Cond.fieldLink RX3 34 RX3 (TX3 4).2.1 (TX3 4).2.2.1 ∈ wsX3_passMinute := List.mem_of_getElem? (i := 8) rfl
abbrev w_X3_passMinute (cA : ClassId) (a_me a_q1 a_gas a_place a_gas_cells a_place_cells a_q1_kinds a_q1_kinds_cells : Nat) (u_open : Int32) (u_moon : Int32) (c_out : Int32) (c_gone : Int32) (c_gas : A32) (c_place : A32) (c_q1_size : Int32) (c_q1_kinds : A32) : va_W := [(a_me, .inr (3, [.int u_open, .int u_moon, .ref a_gas, .ref a_place, .int c_out, .int c_gone])), (a_gas, .inr (8, [.ref a_gas_cells])), (a_gas_cells, .inl (cA, 7, .inl c_gas)), (a_place, .inr (8, [.ref a_place_cells])), (a_place_cells, .inl (cA, 6, .inl c_place)), (a_q1, .inr (1, [.ref a_q1_kinds, .int c_q1_size])), (a_q1_kinds, .inr (8, [.ref a_q1_kinds_cells])), (a_q1_kinds_cells, .inl (cA, 6, .inl c_q1_kinds))]
set_option maxHeartbeats 4000000 in
set_option maxRecDepth 100000 in
theorem t_X3_passMinute_b53 {l : Launch} {D : va_G} {cA : ClassId} {p : Program} {e : Env} {s : State} {m : MethodId} {args : Array Value} {below : List Frame} {meth : Method} {c : Code} {A : Nat → Prop} {Q : State → Prop} {z : Int32 × Int32 × A32} {a_me a_q1 a_gas a_place a_gas_cells a_place_cells a_q1_kinds a_q1_kinds_cells : Nat} {u_open : Int32} {u_moon : Int32}  {c_out : Int32} {c_gone : Int32} {c_gas : A32} {c_place : A32} {c_q1_size : Int32} {c_q1_kinds : A32} {t1 : Int32} {t2 : Int32} {v2 : Int32} {v3 : Int32} {k2 : A32 → Int32 → Option (Int32 × Int32 × A32)} (X : GX p s m args c cX3_passMinute RX3 wsX3_passMinute D cA A 5) (hret : RtV p l e rm_X3_passMinute s m args below meth c cX3_passMinute D A 5 0 0 Q (w_X3_passMinute cA a_me a_q1 a_gas a_place a_gas_cells a_place_cells a_q1_kinds a_q1_kinds_cells u_open u_moon z.1 z.2.1 z.2.2 c_place c_q1_size c_q1_kinds)) (hk2 : ∀ (c_gas : A32) (v3 : Int32), k2 c_gas v3 = some z → G p l e rm_X3_passMinute s m args below meth c D A 5 0 0 Q 2 [(0, .ref a_me), (1, .ref a_q1), (2, .int v2), (3, .int v3)] [] (w_X3_passMinute cA a_me a_q1 a_gas a_place a_gas_cells a_place_cells a_q1_kinds a_q1_kinds_cells u_open u_moon c_out c_gone c_gas c_place c_q1_size c_q1_kinds)) (h : f_X3_passMinute_b53 k2 c_out c_gone c_gas c_place c_q1_size c_q1_kinds t1 t2 v2 v3 = some z) : G p l e rm_X3_passMinute s m args below meth c D A 5 0 0 Q 53 [(0, .ref a_me), (1, .ref a_q1), (2, .int v2), (3, .int v3)] [.int t2, .int t1, .ref a_gas] (w_X3_passMinute cA a_me a_q1 a_gas a_place a_gas_cells a_place_cells a_q1_kinds a_q1_kinds_cells u_open u_moon c_out c_gone c_gas c_place c_q1_size c_q1_kinds) := by
  have h : (Option.bind (f_X8_set 7 c_gas t1 t2) fun z_1 => nam (v3 + 1) fun v3_2 => k2 z_1 v3_2 : Option (Int32 × Int32 × A32)) = some z := h
  obtain ⟨z_1, hz_1, h⟩ := bnd_s h
  refine g_callVV (rm := rm_X8_set) (As := [.int t1, .int t2]) (W0 := (w_X8_set cA a_gas a_gas_cells 7 c_gas)) (W1 := (w_X8_set cA a_gas a_gas_cells 7 z_1)) (isC := [1, 2]) (isR := [0, 3, 4, 5, 6, 7]) (perm := [0, 6, 7, 1, 2, 3, 4, 5]) (ws' := (w_X3_passMinute cA a_me a_q1 a_gas a_place a_gas_cells a_place_cells a_q1_kinds a_q1_kinds_cells u_open u_moon c_out c_gone z_1 c_place c_q1_size c_q1_kinds)) X (c_X8_set l D cA a_gas a_gas_cells 7 c_gas t1 t2 _ hz_1) 1 rfl rfl rfl gX3_passMinute_X8_set rfl rfl rfl ⟨rfl, hd_X8_set⟩ ⟨Nat.le_of_ble_eq_true rfl, Nat.le_of_ble_eq_true rfl⟩ rfl rfl (Nat.le_of_ble_eq_true rfl) rfl (by decide +kernel) rfl (by decide +kernel) (by decide +kernel) ⟨Nat.zero_le _, Nat.zero_le _⟩ rfl (by decide +kernel) dX3_passMinute_53 rfl ?_
  obtain ⟨v3_2, ev3_2, h⟩ := nam_s h
  refine g_iinc (v := v3_2) (lv' := [(3, .int v3_2), (0, .ref a_me), (1, .ref a_q1), (2, .int v2)]) X 3 rfl (by rw [ev3_2]; rfl) (by decide) rfl dX3_passMinute_56 rfl ?_
  refine g_goto (tgt := 2) X dX3_passMinute_59 (by decide) ?_
  refine g_lvs [1, 2, 3, 0] rfl ?_
  exact hk2 _ _ h
set_option maxHeartbeats 4000000 in
set_option maxRecDepth 100000 in
theorem t_X3_passMinute_b22 {l : Launch} {D : va_G} {cA : ClassId} {p : Program} {e : Env} {s : State} {m : MethodId} {args : Array Value} {below : List Frame} {meth : Method} {c : Code} {A : Nat → Prop} {Q : State → Prop} {z : Int32 × Int32 × A32} {a_me a_q1 a_gas a_place a_gas_cells a_place_cells a_q1_kinds a_q1_kinds_cells : Nat} {u_open : Int32} {u_moon : Int32}  {c_out : Int32} {c_gone : Int32} {c_gas : A32} {c_place : A32} {c_q1_size : Int32} {c_q1_kinds : A32} {t0 : Int32} {v2 : Int32} {v3 : Int32} {k2 : A32 → Int32 → Option (Int32 × Int32 × A32)} (X : GX p s m args c cX3_passMinute RX3 wsX3_passMinute D cA A 5) (hret : RtV p l e rm_X3_passMinute s m args below meth c cX3_passMinute D A 5 0 0 Q (w_X3_passMinute cA a_me a_q1 a_gas a_place a_gas_cells a_place_cells a_q1_kinds a_q1_kinds_cells u_open u_moon z.1 z.2.1 z.2.2 c_place c_q1_size c_q1_kinds)) (hk2 : ∀ (c_gas : A32) (v3 : Int32), k2 c_gas v3 = some z → G p l e rm_X3_passMinute s m args below meth c D A 5 0 0 Q 2 [(0, .ref a_me), (1, .ref a_q1), (2, .int v2), (3, .int v3)] [] (w_X3_passMinute cA a_me a_q1 a_gas a_place a_gas_cells a_place_cells a_q1_kinds a_q1_kinds_cells u_open u_moon c_out c_gone c_gas c_place c_q1_size c_q1_kinds)) (h : f_X3_passMinute_b22 k2 c_out c_gone c_gas c_place c_q1_size c_q1_kinds t0 v2 v3 = some z) : G p l e rm_X3_passMinute s m args below meth c D A 5 0 0 Q 22 [(0, .ref a_me), (1, .ref a_q1), (2, .int v2), (3, .int v3)] [.int t0] (w_X3_passMinute cA a_me a_q1 a_gas a_place a_gas_cells a_place_cells a_q1_kinds a_q1_kinds_cells u_open u_moon c_out c_gone c_gas c_place c_q1_size c_q1_kinds) := by
  have h : (if t0 = 0 then Option.bind (f_X8_get 7 c_gas v3) fun z_2 => f_X3_passMinute_b53 k2 c_out c_gone c_gas c_place c_q1_size c_q1_kinds v3 (if (z_2 + 1) < 9 then z_2 + 1 else 9) v2 v3 else f_X3_passMinute_b53 k2 c_out c_gone c_gas c_place c_q1_size c_q1_kinds v3 0 v2 v3 : Option (Int32 × Int32 × A32)) = some z := h
  refine g_istore (lv' := [(4, .int t0), (0, .ref a_me), (1, .ref a_q1), (2, .int v2), (3, .int v3)]) X (by decide) rfl dX3_passMinute_22 rfl ?_
  refine g_aload_n X 1 rfl rfl dX3_passMinute_24 rfl ?_
  refine g_getf (C := RX3) (T := TX3) (N := 6) (v := .ref a_gas) X 0 rfl vc_X3 2 (by decide) iw_X3_passMinute_X3 fl_X3_passMinute_X3_2 rfl rfl dX3_passMinute_25 rfl ?_
  refine g_iload_n X 4 rfl rfl dX3_passMinute_28 rfl ?_
  refine g_iload X 0 rfl dX3_passMinute_29 rfl ?_
  refine g_if_eq (tgt := 38) X dX3_passMinute_31 (by decide) rfl h (fun c_1 h => ?_) (fun c_1 h => ?_)
  · refine g_bipush (v := 9) X dX3_passMinute_38 (by decide) rfl ?_
    refine g_aload_n X 1 rfl rfl dX3_passMinute_40 rfl ?_
    refine g_getf (C := RX3) (T := TX3) (N := 6) (v := .ref a_gas) X 0 rfl vc_X3 2 (by decide) iw_X3_passMinute_X3 fl_X3_passMinute_X3_2 rfl rfl dX3_passMinute_41 rfl ?_
    refine g_iload_n X 4 rfl rfl dX3_passMinute_44 rfl ?_
    obtain ⟨z_2, hz_2, h⟩ := bnd_s h
    refine g_callVI (rm := rm_X8_get) (As := [.int v3]) (r := z_2) (W0 := (w_X8_get cA a_gas a_gas_cells 7 c_gas)) (W1 := (w_X8_get cA a_gas a_gas_cells 7 c_gas)) (isC := [1, 2]) (isR := [0, 3, 4, 5, 6, 7]) (perm := [0, 6, 7, 1, 2, 3, 4, 5]) (ws' := (w_X3_passMinute cA a_me a_q1 a_gas a_place a_gas_cells a_place_cells a_q1_kinds a_q1_kinds_cells u_open u_moon c_out c_gone c_gas c_place c_q1_size c_q1_kinds)) X (c_X8_get l D cA a_gas a_gas_cells 7 c_gas v3 _ hz_2) 1 rfl rfl rfl gX3_passMinute_X8_get rfl rfl rfl ⟨rfl, hd_X8_get⟩ ⟨Nat.le_of_ble_eq_true rfl, Nat.le_of_ble_eq_true rfl⟩ rfl rfl (Nat.le_of_ble_eq_true rfl) rfl (by decide +kernel) rfl (by decide +kernel) (by decide +kernel) ⟨Nat.zero_le _, Nat.zero_le _⟩ rfl (by decide +kernel) dX3_passMinute_45 rfl ?_
    refine g_iconst (v := 1) X dX3_passMinute_48 (by decide) rfl ?_
    refine g_iadd X dX3_passMinute_49 rfl ?_
    refine g_mmin X (by decide +kernel) (by decide +kernel) (by decide +kernel) (by decide +kernel) (Nat.le_of_ble_eq_true rfl) (Nat.le_of_ble_eq_true rfl) (Nat.zero_le _) (Nat.zero_le _) dX3_passMinute_50 rfl ?_
    refine g_lvs [1, 2, 3, 4] rfl ?_
    exact t_X3_passMinute_b53 X hret hk2 h
  · refine g_iconst (v := 0) X dX3_passMinute_34 (by decide) rfl ?_
    refine g_goto (tgt := 53) X dX3_passMinute_35 (by decide) ?_
    refine g_lvs [1, 2, 3, 4] rfl ?_
    exact t_X3_passMinute_b53 X hret hk2 h
set_option maxHeartbeats 4000000 in
set_option maxRecDepth 100000 in
theorem t_X3_passMinute_b107 {l : Launch} {D : va_G} {cA : ClassId} {p : Program} {e : Env} {s : State} {m : MethodId} {args : Array Value} {below : List Frame} {meth : Method} {c : Code} {A : Nat → Prop} {Q : State → Prop} {z : Int32 × Int32 × A32} {a_me a_q1 a_gas a_place a_gas_cells a_place_cells a_q1_kinds a_q1_kinds_cells : Nat} {u_open : Int32} {u_moon : Int32}  {c_out : Int32} {c_gone : Int32} {c_gas : A32} {c_place : A32} {c_q1_size : Int32} {c_q1_kinds : A32} {v3 : Int32} {k64 : Int32 → Int32 → Option (Int32 × Int32 × A32)} (X : GX p s m args c cX3_passMinute RX3 wsX3_passMinute D cA A 5) (hret : RtV p l e rm_X3_passMinute s m args below meth c cX3_passMinute D A 5 0 0 Q (w_X3_passMinute cA a_me a_q1 a_gas a_place a_gas_cells a_place_cells a_q1_kinds a_q1_kinds_cells u_open u_moon z.1 z.2.1 z.2.2 c_place c_q1_size c_q1_kinds)) (hk64 : ∀ (c_out : Int32) (v3 : Int32), k64 c_out v3 = some z → G p l e rm_X3_passMinute s m args below meth c D A 5 0 0 Q 64 [(0, .ref a_me), (1, .ref a_q1), (3, .int v3)] [] (w_X3_passMinute cA a_me a_q1 a_gas a_place a_gas_cells a_place_cells a_q1_kinds a_q1_kinds_cells u_open u_moon c_out c_gone c_gas c_place c_q1_size c_q1_kinds)) (h : f_X3_passMinute_b107 k64 c_out c_gone c_gas c_place c_q1_size c_q1_kinds v3 = some z) : G p l e rm_X3_passMinute s m args below meth c D A 5 0 0 Q 107 [(0, .ref a_me), (1, .ref a_q1), (3, .int v3)] [] (w_X3_passMinute cA a_me a_q1 a_gas a_place a_gas_cells a_place_cells a_q1_kinds a_q1_kinds_cells u_open u_moon c_out c_gone c_gas c_place c_q1_size c_q1_kinds) := by
  have h : (nam (v3 + 1) fun v3_1 => k64 c_out v3_1 : Option (Int32 × Int32 × A32)) = some z := h
  obtain ⟨v3_1, ev3_1, h⟩ := nam_s h
  refine g_iinc (v := v3_1) (lv' := [(3, .int v3_1), (0, .ref a_me), (1, .ref a_q1)]) X 2 rfl (by rw [ev3_1]; rfl) (by decide) rfl dX3_passMinute_107 rfl ?_
  refine g_goto (tgt := 64) X dX3_passMinute_110 (by decide) ?_
  refine g_lvs [1, 2, 0] rfl ?_
  exact hk64 _ _ h
set_option maxHeartbeats 4000000 in
set_option maxRecDepth 100000 in
theorem t_X3_passMinute_b64 {l : Launch} {D : va_G} {cA : ClassId} {p : Program} {e : Env} {s : State} {m : MethodId} {args : Array Value} {below : List Frame} {meth : Method} {c : Code} {A : Nat → Prop} {Q : State → Prop} {z : Int32 × Int32 × A32} {a_me a_q1 a_gas a_place a_gas_cells a_place_cells a_q1_kinds a_q1_kinds_cells : Nat} {u_open : Int32} {u_moon : Int32}  {c_gone : Int32} {c_gas : A32} {c_place : A32} {c_q1_size : Int32} {c_q1_kinds : A32}  (X : GX p s m args c cX3_passMinute RX3 wsX3_passMinute D cA A 5) (hret : RtV p l e rm_X3_passMinute s m args below meth c cX3_passMinute D A 5 0 0 Q (w_X3_passMinute cA a_me a_q1 a_gas a_place a_gas_cells a_place_cells a_q1_kinds a_q1_kinds_cells u_open u_moon z.1 z.2.1 z.2.2 c_place c_q1_size c_q1_kinds))  : ∀ (fu : Nat) (c_out : Int32) (v3 : Int32), f_X3_passMinute_b64 c_gone c_gas c_place c_q1_size c_q1_kinds fu c_out v3 = some z → G p l e rm_X3_passMinute s m args below meth c D A 5 0 0 Q 64 [(0, .ref a_me), (1, .ref a_q1), (3, .int v3)] [] (w_X3_passMinute cA a_me a_q1 a_gas a_place a_gas_cells a_place_cells a_q1_kinds a_q1_kinds_cells u_open u_moon c_out c_gone c_gas c_place c_q1_size c_q1_kinds) := by
  intro fu
  induction fu with
  | zero => intro c_out v3 h; exact absurd (show (none : Option (Int32 × Int32 × A32)) = some z from h) (by simp)
  | succ fu ih =>
    intro c_out v3 h
    have h : (if c_q1_size ≤ v3 then nam (c_gone + 1) fun w_2 => some (c_out, w_2, c_gas) else Option.bind (f_X8_get 6 c_place v3) fun z_3 => Option.bind (f_X8_get 7 c_gas z_3) fun z_4 => Option.bind (f_X1_bears c_q1_kinds v3) fun z_5 => if z_4 ≤ z_5 then f_X3_passMinute_b107 (f_X3_passMinute_b64 c_gone c_gas c_place c_q1_size c_q1_kinds fu) c_out c_gone c_gas c_place c_q1_size c_q1_kinds v3 else nam (c_out ||| (1 <<< (v3 &&& 31))) fun w_7 => f_X3_passMinute_b107 (f_X3_passMinute_b64 c_gone c_gas c_place c_q1_size c_q1_kinds fu) w_7 c_gone c_gas c_place c_q1_size c_q1_kinds v3 : Option (Int32 × Int32 × A32)) = some z := h
    refine g_iload_n X 2 rfl rfl dX3_passMinute_64 rfl ?_
    refine g_aload_n X 1 rfl rfl dX3_passMinute_65 rfl ?_
    refine g_getf (C := RX1) (T := TX1) (N := 2) (v := .int c_q1_size) X 5 rfl vc_X1 1 (by decide) iw_X3_passMinute_X1 fl_X3_passMinute_X1_1 rfl rfl dX3_passMinute_66 rfl ?_
    refine g_icmp_ge (tgt := 113) X dX3_passMinute_69 (by decide) rfl h (fun c_1 h => ?_) (fun c_1 h => ?_)
    · refine g_aload_n X 0 rfl rfl dX3_passMinute_113 rfl ?_
      refine g_dup X dX3_passMinute_114 rfl rfl ?_
      refine g_getf (C := RX3) (T := TX3) (N := 6) (v := .int c_gone) X 0 rfl vc_X3 5 (by decide) iw_X3_passMinute_X3 fl_X3_passMinute_X3_5 rfl rfl dX3_passMinute_115 rfl ?_
      refine g_iconst (v := 1) X dX3_passMinute_118 (by decide) rfl ?_
      refine g_iadd X dX3_passMinute_119 rfl ?_
      refine g_nami h (fun w_2 h => ?_)
      refine g_putf (C := RX3) (T := TX3) (N := 6) (ty := .int) (ws' := (w_X3_passMinute cA a_me a_q1 a_gas a_place a_gas_cells a_place_cells a_q1_kinds a_q1_kinds_cells u_open u_moon c_out w_2 c_gas c_place c_q1_size c_q1_kinds)) X 0 tyX3 tyX3_ok nmX3 rfl vc_X3 5 (by decide) iw_X3_passMinute_X3 fl_X3_passMinute_X3_5 rfl rfl pd_X3_5 rfl rfl (Nat.le_of_ble_eq_true rfl) rfl dX3_passMinute_120 rfl ?_
      cases Option.some.inj h
      exact hret _ _ dX3_passMinute_123
    · refine g_aload_n X 0 rfl rfl dX3_passMinute_72 rfl ?_
      refine g_getf (C := RX3) (T := TX3) (N := 6) (v := .ref a_gas) X 0 rfl vc_X3 2 (by decide) iw_X3_passMinute_X3 fl_X3_passMinute_X3_2 rfl rfl dX3_passMinute_73 rfl ?_
      refine g_aload_n X 0 rfl rfl dX3_passMinute_76 rfl ?_
      refine g_getf (C := RX3) (T := TX3) (N := 6) (v := .ref a_place) X 0 rfl vc_X3 3 (by decide) iw_X3_passMinute_X3 fl_X3_passMinute_X3_3 rfl rfl dX3_passMinute_77 rfl ?_
      refine g_iload_n X 2 rfl rfl dX3_passMinute_80 rfl ?_
      obtain ⟨z_3, hz_3, h⟩ := bnd_s h
      refine g_callVI (rm := rm_X8_get) (As := [.int v3]) (r := z_3) (W0 := (w_X8_get cA a_place a_place_cells 6 c_place)) (W1 := (w_X8_get cA a_place a_place_cells 6 c_place)) (isC := [3, 4]) (isR := [0, 1, 2, 5, 6, 7]) (perm := [0, 1, 2, 6, 7, 3, 4, 5]) (ws' := (w_X3_passMinute cA a_me a_q1 a_gas a_place a_gas_cells a_place_cells a_q1_kinds a_q1_kinds_cells u_open u_moon c_out c_gone c_gas c_place c_q1_size c_q1_kinds)) X (c_X8_get l D cA a_place a_place_cells 6 c_place v3 _ hz_3) 3 rfl rfl rfl gX3_passMinute_X8_get rfl rfl rfl ⟨rfl, hd_X8_get⟩ ⟨Nat.le_of_ble_eq_true rfl, Nat.le_of_ble_eq_true rfl⟩ rfl rfl (Nat.le_of_ble_eq_true rfl) rfl (by decide +kernel) rfl (by decide +kernel) (by decide +kernel) ⟨Nat.zero_le _, Nat.zero_le _⟩ rfl (by decide +kernel) dX3_passMinute_81 rfl ?_
      obtain ⟨z_4, hz_4, h⟩ := bnd_s h
      refine g_callVI (rm := rm_X8_get) (As := [.int z_3]) (r := z_4) (W0 := (w_X8_get cA a_gas a_gas_cells 7 c_gas)) (W1 := (w_X8_get cA a_gas a_gas_cells 7 c_gas)) (isC := [1, 2]) (isR := [0, 3, 4, 5, 6, 7]) (perm := [0, 6, 7, 1, 2, 3, 4, 5]) (ws' := (w_X3_passMinute cA a_me a_q1 a_gas a_place a_gas_cells a_place_cells a_q1_kinds a_q1_kinds_cells u_open u_moon c_out c_gone c_gas c_place c_q1_size c_q1_kinds)) X (c_X8_get l D cA a_gas a_gas_cells 7 c_gas z_3 _ hz_4) 1 rfl rfl rfl gX3_passMinute_X8_get rfl rfl rfl ⟨rfl, hd_X8_get⟩ ⟨Nat.le_of_ble_eq_true rfl, Nat.le_of_ble_eq_true rfl⟩ rfl rfl (Nat.le_of_ble_eq_true rfl) rfl (by decide +kernel) rfl (by decide +kernel) (by decide +kernel) ⟨Nat.zero_le _, Nat.zero_le _⟩ rfl (by decide +kernel) dX3_passMinute_84 rfl ?_
      refine g_aload_n X 1 rfl rfl dX3_passMinute_87 rfl ?_
      refine g_iload_n X 2 rfl rfl dX3_passMinute_88 rfl ?_
      obtain ⟨z_5, hz_5, h⟩ := bnd_s h
      refine g_callVI (rm := rm_X1_bears) (As := [.int v3]) (r := z_5) (W0 := (w_X1_bears cA a_q1 a_q1_kinds a_q1_kinds_cells c_q1_size c_q1_kinds)) (W1 := (w_X1_bears cA a_q1 a_q1_kinds a_q1_kinds_cells c_q1_size c_q1_kinds)) (isC := [5, 6, 7]) (isR := [0, 1, 2, 3, 4]) (perm := [0, 1, 2, 3, 4, 5, 6, 7]) (ws' := (w_X3_passMinute cA a_me a_q1 a_gas a_place a_gas_cells a_place_cells a_q1_kinds a_q1_kinds_cells u_open u_moon c_out c_gone c_gas c_place c_q1_size c_q1_kinds)) X (c_X1_bears l D cA a_q1 a_q1_kinds a_q1_kinds_cells c_q1_size c_q1_kinds v3 _ hz_5) 5 rfl rfl rfl gX3_passMinute_X1_bears rfl rfl rfl ⟨rfl, hd_X1_bears⟩ ⟨Nat.le_of_ble_eq_true rfl, Nat.le_of_ble_eq_true rfl⟩ rfl rfl (Nat.le_of_ble_eq_true rfl) rfl (by decide +kernel) rfl (by decide +kernel) (by decide +kernel) ⟨Nat.zero_le _, Nat.zero_le _⟩ rfl (by decide +kernel) dX3_passMinute_89 rfl ?_
      refine g_icmp_le (tgt := 107) X dX3_passMinute_92 (by decide) rfl h (fun c_6 h => ?_) (fun c_6 h => ?_)
      · exact t_X3_passMinute_b107 X hret ih h
      · refine g_aload_n X 0 rfl rfl dX3_passMinute_95 rfl ?_
        refine g_dup X dX3_passMinute_96 rfl rfl ?_
        refine g_getf (C := RX3) (T := TX3) (N := 6) (v := .int c_out) X 0 rfl vc_X3 4 (by decide) iw_X3_passMinute_X3 fl_X3_passMinute_X3_4 rfl rfl dX3_passMinute_97 rfl ?_
        refine g_iconst (v := 1) X dX3_passMinute_100 (by decide) rfl ?_
        refine g_iload_n X 2 rfl rfl dX3_passMinute_101 rfl ?_
        refine g_ishl X dX3_passMinute_102 rfl ?_
        refine g_ior X dX3_passMinute_103 rfl ?_
        refine g_nami h (fun w_7 h => ?_)
        refine g_putf (C := RX3) (T := TX3) (N := 6) (ty := .int) (ws' := (w_X3_passMinute cA a_me a_q1 a_gas a_place a_gas_cells a_place_cells a_q1_kinds a_q1_kinds_cells u_open u_moon w_7 c_gone c_gas c_place c_q1_size c_q1_kinds)) X 0 tyX3 tyX3_ok nmX3 rfl vc_X3 4 (by decide) iw_X3_passMinute_X3 fl_X3_passMinute_X3_4 rfl rfl pd_X3_4 rfl rfl (Nat.le_of_ble_eq_true rfl) rfl dX3_passMinute_104 rfl ?_
        exact t_X3_passMinute_b107 X hret ih h
