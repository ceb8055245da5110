set_option maxHeartbeats 4000000 in
set_option maxRecDepth 100000 in
theorem t_X3_passMinute_b2 {l : Launch} {D : va_G} {cA : ClassId} {p : Program} {e : Env} {s : State} {m : MethodId} {args : Array Value} {below : List Frame} {meth : Method} {c : Code} {A : Nat → Prop} {Q : State → Prop} {z : Int32 × Int32 × A32} {a_me a_q1 a_gas a_place a_gas_cells a_place_cells a_q1_kinds a_q1_kinds_cells : Nat} {u_open : Int32} {u_moon : Int32}  {c_out : Int32} {c_gone : Int32} {c_place : A32} {c_q1_size : Int32} {c_q1_kinds : A32} {v2 : Int32}  (X : GX p s m args c cX3_passMinute RX3 wsX3_passMinute D cA A 5) (hret : RtV p l e rm_X3_passMinute s m args below meth c cX3_passMinute D A 5 0 0 Q (w_X3_passMinute cA a_me a_q1 a_gas a_place a_gas_cells a_place_cells a_q1_kinds a_q1_kinds_cells u_open u_moon z.1 z.2.1 z.2.2 c_place c_q1_size c_q1_kinds))  : ∀ (fu : Nat) (c_gas : A32) (v3 : Int32), f_X3_passMinute_b2 c_out c_gone c_place c_q1_size c_q1_kinds v2 fu c_gas v3 = some z → G p l e rm_X3_passMinute s m args below meth c D A 5 0 0 Q 2 [(0, .ref a_me), (1, .ref a_q1), (2, .int v2), (3, .int v3)] [] (w_X3_passMinute cA a_me a_q1 a_gas a_place a_gas_cells a_place_cells a_q1_kinds a_q1_kinds_cells u_open u_moon c_out c_gone c_gas c_place c_q1_size c_q1_kinds) := by
  intro fu
  induction fu with
  | zero => intro c_gas v3 h; exact absurd (show (none : Option (Int32 × Int32 × A32)) = some z from h) (by simp)
  | succ fu ih =>
    intro c_gas v3 h
    have h : (if 7 ≤ v3 then f_X3_passMinute_b64 c_gone c_gas c_place c_q1_size c_q1_kinds FU c_out 0 else Option.bind (f_X10_bit v2 v3) fun z_2 => if z_2 = 1 then f_X3_passMinute_b22 (f_X3_passMinute_b2 c_out c_gone c_place c_q1_size c_q1_kinds v2 fu) c_out c_gone c_gas c_place c_q1_size c_q1_kinds 1 v2 v3 else f_X3_passMinute_b22 (f_X3_passMinute_b2 c_out c_gone c_place c_q1_size c_q1_kinds v2 fu) c_out c_gone c_gas c_place c_q1_size c_q1_kinds 0 v2 v3 : Option (Int32 × Int32 × A32)) = some z := h
    refine g_iload_n X 3 rfl rfl dX3_passMinute_2 rfl ?_
    refine g_bipush (v := 7) X dX3_passMinute_3 (by decide) rfl ?_
    refine g_icmp_ge (tgt := 62) X dX3_passMinute_5 (by decide) rfl h (fun c_1 h => ?_) (fun c_1 h => ?_)
    · refine g_iconst (v := 0) X dX3_passMinute_62 (by decide) rfl ?_
      refine g_istore_n (lv' := [(3, .int 0), (0, .ref a_me), (1, .ref a_q1), (2, .int v2)]) X rfl (by decide) rfl dX3_passMinute_63 rfl ?_
      refine g_lvs [1, 2, 0] rfl ?_
      exact t_X3_passMinute_b64 X hret _ _ _ h
    · refine g_iload_n X 2 rfl rfl dX3_passMinute_8 rfl ?_
      refine g_iload_n X 3 rfl rfl dX3_passMinute_9 rfl ?_
      obtain ⟨z_2, hz_2, h⟩ := bnd_s h
      refine g_callSNI (rm := rm_X10_bit) (As := [.int v2, .int v3]) (r := z_2) (W0 := []) (W1 := []) (isC := []) (isR := [0, 1, 2, 3, 4, 5, 6, 7]) (perm := [0, 1, 2, 3, 4, 5, 6, 7]) (ws' := (w_X3_passMinute cA a_me a_q1 a_gas a_place a_gas_cells a_place_cells a_q1_kinds a_q1_kinds_cells u_open u_moon c_out c_gone c_gas c_place c_q1_size c_q1_kinds)) X (c_X10_bit l D cA v2 v3 _ hz_2) gX3_passMinute_X10_bit_n44 (by decide +kernel) (by decide +kernel) (by decide +kernel) rfl rfl rfl hd_X10_bit ⟨Nat.le_of_ble_eq_true rfl, Nat.le_of_ble_eq_true rfl⟩ rfl rfl (Nat.le_of_ble_eq_true rfl) rfl (by decide +kernel) rfl (by decide +kernel) (by decide +kernel) ⟨Nat.zero_le _, Nat.zero_le _⟩ rfl (by decide +kernel) dX3_passMinute_10 rfl ?_
      refine g_iconst (v := 1) X dX3_passMinute_13 (by decide) rfl ?_
      refine g_icmp_ne (tgt := 21) X dX3_passMinute_14 (by decide) rfl h (fun c_3 h => ?_) (fun c_3 h => ?_)
      · refine g_iconst (v := 0) X dX3_passMinute_21 (by decide) rfl ?_
        exact t_X3_passMinute_b22 X hret ih h
      · refine g_iconst (v := 1) X dX3_passMinute_17 (by decide) rfl ?_
        refine g_goto (tgt := 22) X dX3_passMinute_18 (by decide) ?_
        exact t_X3_passMinute_b22 X hret ih h
set_option maxHeartbeats 4000000 in
set_option maxRecDepth 100000 in
theorem c_X3_passMinute (l : Launch) (D : va_G) (cA : ClassId) (a_me a_q1 a_gas a_place a_gas_cells a_place_cells a_q1_kinds a_q1_kinds_cells : Nat) (u_open : Int32) (u_moon : Int32) (c_out : Int32) (c_gone : Int32) (c_gas : A32) (c_place : A32) (c_q1_size : Int32) (c_q1_kinds : A32) (v2 : Int32) (z : Int32 × Int32 × A32) (h : f_X3_passMinute c_out c_gone c_gas c_place c_q1_size c_q1_kinds v2 = some z) : CtV l yX3_passMinute wsX3_passMinute rm_X3_passMinute D cA [.ref a_me, .ref a_q1, .int v2] (w_X3_passMinute cA a_me a_q1 a_gas a_place a_gas_cells a_place_cells a_q1_kinds a_q1_kinds_cells u_open u_moon c_out c_gone c_gas c_place c_q1_size c_q1_kinds) Unit (fun _ => (w_X3_passMinute cA a_me a_q1 a_gas a_place a_gas_cells a_place_cells a_q1_kinds a_q1_kinds_cells u_open u_moon z.1 z.2.1 z.2.2 c_place c_q1_size c_q1_kinds)) 0 0 := by
  refine ct_V (maxL := 5) (cc := cX3_passMinute) (by decide) rfl (Nat.le_of_ble_eq_true rfl) rfl (fun p e s m args below meth c A Q X _ hret => ?_)
  have hret := hret ()
  have h : (f_X3_passMinute_b2 c_out c_gone c_place c_q1_size c_q1_kinds v2 FU c_gas 0 : Option (Int32 × Int32 × A32)) = some z := h
  refine g_iconst (v := 0) X dX3_passMinute_0 (by decide) rfl ?_
  refine g_istore_n (lv' := [(3, .int 0), (0, .ref a_me), (1, .ref a_q1), (2, .int v2)]) X rfl (by decide) rfl dX3_passMinute_1 rfl ?_
  refine g_lvs [1, 2, 3, 0] rfl ?_
  exact t_X3_passMinute_b2 X hret _ _ _ h
abbrev rm_X5_isRead : Room := { frames := 0, cells := 0, slots := 0, locals := 0 }
theorem hd_X5_isRead : yX5_isRead.cls ≠ "java/lang/invoke/MethodHandle" ∧ yX5_isRead.cls ≠ "java/lang/invoke/VarHandle" ∧ (parseMethodDescriptor yX5_isRead.desc).map (fun d => d.parameters.length) = some 0 := by decide +kernel
theorem iw_X5_isRead_X5 : ∀ w ∈ wsX50, w ∈ wsX5_isRead := fun w h => List.mem_cons_of_mem _ (List.mem_append_right _ h)
theorem fl_X5_isRead_X5_0 : Cond.fieldLink RX5 29 RX5 (TX5 0).2.1 (TX5 0).2.2.1 ∈ wsX5_isRead := List.mem_of_getElem? (i := 1) rfl
abbrev w_X5_isRead (cA : ClassId) (a_me a_one a_two a_length a_draught : Nat) (u_doors : Int32) (u_shafts : Int32) (c_galleries : Int32) : va_W := [(a_me, .inr (5, [.int c_galleries, .ref a_one, .ref a_two, .ref a_length, .int u_doors, .ref a_draught, .int u_shafts]))]
set_option maxHeartbeats 4000000 in
set_option maxRecDepth 100000 in
theorem c_X5_isRead (l : Launch) (D : va_G) (cA : ClassId) (a_me a_one a_two a_length a_draught : Nat) (u_doors : Int32) (u_shafts : Int32) (c_galleries : Int32) (z : Int32) (h : f_X5_isRead c_galleries = some z) : CtI l yX5_isRead wsX5_isRead rm_X5_isRead D cA [.ref a_me] (w_X5_isRead cA a_me a_one a_two a_length a_draught u_doors u_shafts c_galleries) z (w_X5_isRead cA a_me a_one a_two a_length a_draught u_doors u_shafts c_galleries) := by
  refine ct_I (maxL := 1) (ty := .boolean) (cc := cX5_isRead) (by decide) rfl (Nat.le_of_ble_eq_true rfl) rfl (fun p e s m args below meth c A Q X hret => ?_)
  have h : (if c_galleries ≤ 0 then some 0 else some 1 : Option (Int32)) = some z := h
  refine g_aload_n X 0 rfl rfl dX5_isRead_0 rfl ?_
  refine g_getf (C := RX5) (T := TX5) (N := 7) (v := .int c_galleries) X 0 rfl vc_X5 0 (by decide) iw_X5_isRead_X5 fl_X5_isRead_X5_0 rfl rfl dX5_isRead_1 rfl ?_
  refine g_if_le (tgt := 11) X dX5_isRead_4 (by decide) rfl h (fun c_1 h => ?_) (fun c_1 h => ?_)
  · refine g_iconst (v := 0) X dX5_isRead_11 (by decide) rfl ?_
    cases Option.some.inj h
    exact hret _ _ dX5_isRead_12 (nar_z (Or.inl rfl))
  · refine g_iconst (v := 1) X dX5_isRead_7 (by decide) rfl ?_
    refine g_goto (tgt := 12) X dX5_isRead_8 (by decide) ?_
    cases Option.some.inj h
    exact hret _ _ dX5_isRead_12 (nar_z (Or.inr rfl))
abbrev rm_X5_hasGallery : Room := { frames := 0, cells := 0, slots := 0, locals := 0 }
theorem hd_X5_hasGallery : yX5_hasGallery.cls ≠ "java/lang/invoke/MethodHandle" ∧ yX5_hasGallery.cls ≠ "java/lang/invoke/VarHandle" ∧ (parseMethodDescriptor yX5_hasGallery.desc).map (fun d => d.parameters.length) = some 1 := by decide +kernel
theorem iw_X5_hasGallery_X5 : ∀ w ∈ wsX50, w ∈ wsX5_hasGallery := fun w h => List.mem_cons_of_mem _ (List.mem_append_right _ h)
theorem fl_X5_hasGallery_X5_0 : Cond.fieldLink RX5 29 RX5 (TX5 0).2.1 (TX5 0).2.2.1 ∈ wsX5_hasGallery := List.mem_of_getElem? (i := 1) rfl
abbrev w_X5_hasGallery (cA : ClassId) (a_me a_one a_two a_length a_draught : Nat) (u_doors : Int32) (u_shafts : Int32) (c_galleries : Int32) : va_W := [(a_me, .inr (5, [.int c_galleries, .ref a_one, .ref a_two, .ref a_length, .int u_doors, .ref a_draught, .int u_shafts]))]
set_option maxHeartbeats 4000000 in
set_option maxRecDepth 100000 in
theorem c_X5_hasGallery (l : Launch) (D : va_G) (cA : ClassId) (a_me a_one a_two a_length a_draught : Nat) (u_doors : Int32) (u_shafts : Int32) (c_galleries : Int32) (v1 : Int32) (z : Int32) (h : f_X5_hasGallery c_galleries v1 = some z) : CtI l yX5_hasGallery wsX5_hasGallery rm_X5_hasGallery D cA [.ref a_me, .int v1] (w_X5_hasGallery cA a_me a_one a_two a_length a_draught u_doors u_shafts c_galleries) z (w_X5_hasGallery cA a_me a_one a_two a_length a_draught u_doors u_shafts c_galleries) := by
  refine ct_I (maxL := 2) (ty := .boolean) (cc := cX5_hasGallery) (by decide) rfl (Nat.le_of_ble_eq_true rfl) rfl (fun p e s m args below meth c A Q X hret => ?_)
  have h : (if v1 < 0 then some 0 else if c_galleries ≤ v1 then some 0 else some 1 : Option (Int32)) = some z := h
  refine g_iload_n X 1 rfl rfl dX5_hasGallery_0 rfl ?_
  refine g_if_lt (tgt := 16) X dX5_hasGallery_1 (by decide) rfl h (fun c_1 h => ?_) (fun c_1 h => ?_)
  · refine g_iconst (v := 0) X dX5_hasGallery_16 (by decide) rfl ?_
    cases Option.some.inj h
    exact hret _ _ dX5_hasGallery_17 (nar_z (Or.inl rfl))
  · refine g_iload_n X 1 rfl rfl dX5_hasGallery_4 rfl ?_
    refine g_aload_n X 0 rfl rfl dX5_hasGallery_5 rfl ?_
    refine g_getf (C := RX5) (T := TX5) (N := 7) (v := .int c_galleries) X 0 rfl vc_X5 0 (by decide) iw_X5_hasGallery_X5 fl_X5_hasGallery_X5_0 rfl rfl dX5_hasGallery_6 rfl ?_
    refine g_icmp_ge (tgt := 16) X dX5_hasGallery_9 (by decide) rfl h (fun c_2 h => ?_) (fun c_2 h => ?_)
    · refine g_iconst (v := 0) X dX5_hasGallery_16 (by decide) rfl ?_
      cases Option.some.inj h
      exact hret _ _ dX5_hasGallery_17 (nar_z (Or.inl rfl))
    · refine g_iconst (v := 1) X dX5_hasGallery_12 (by decide) rfl ?_
      refine g_goto (tgt := 17) X dX5_hasGallery_13 (by decide) ?_
      cases Option.some.inj h
      exact hret _ _ dX5_hasGallery_17 (nar_z (Or.inr rfl))
abbrev rm_X5_isShaft : Room := { frames := 1, cells := 0, slots := 0, locals := 21 }
theorem hd_X5_isShaft : yX5_isShaft.cls ≠ "java/lang/invoke/MethodHandle" ∧ yX5_isShaft.cls ≠ "java/lang/invoke/VarHandle" ∧ (parseMethodDescriptor yX5_isShaft.desc).map (fun d => d.parameters.length) = some 1 := by decide +kernel
theorem iw_X5_isShaft_X5 : ∀ w ∈ wsX50, w ∈ wsX5_isShaft := fun w h => List.mem_cons_of_mem _ (List.mem_append_right _ h)
theorem fl_X5_isShaft_X5_6 : Cond.fieldLink RX5 33 RX5 (TX5 6).2.1 (TX5 6).2.2.1 ∈ wsX5_isShaft := List.mem_of_getElem? (i := 1) rfl
abbrev w_X5_isShaft (cA : ClassId) (a_me a_one a_two a_length a_draught : Nat) (u_galleries : Int32) (u_doors : Int32) (c_shafts : Int32) : va_W := [(a_me, .inr (5, [.int u_galleries, .ref a_one, .ref a_two, .ref a_length, .int u_doors, .ref a_draught, .int c_shafts]))]
set_option maxHeartbeats 4000000 in
set_option maxRecDepth 100000 in
theorem c_X5_isShaft (l : Launch) (D : va_G) (cA : ClassId) (a_me a_one a_two a_length a_draught : Nat) (u_galleries : Int32) (u_doors : Int32) (c_shafts : Int32) (v1 : Int32) (z : Int32) (h : f_X5_isShaft c_shafts v1 = some z) : CtI l yX5_isShaft wsX5_isShaft rm_X5_isShaft D cA [.ref a_me, .int v1] (w_X5_isShaft cA a_me a_one a_two a_length a_draught u_galleries u_doors c_shafts) z (w_X5_isShaft cA a_me a_one a_two a_length a_draught u_galleries u_doors c_shafts) := by
  refine ct_I (maxL := 2) (ty := .boolean) (cc := cX5_isShaft) (by decide) rfl (Nat.le_of_ble_eq_true rfl) rfl (fun p e s m args below meth c A Q X hret => ?_)
  have h : (Option.bind (f_X10_bit c_shafts v1) fun z_1 => if z_1 = 1 then some 1 else some 0 : Option (Int32)) = some z := h
  refine g_aload_n X 0 rfl rfl dX5_isShaft_0 rfl ?_
  refine g_getf (C := RX5) (T := TX5) (N := 7) (v := .int c_shafts) X 0 rfl vc_X5 6 (by decide) iw_X5_isShaft_X5 fl_X5_isShaft_X5_6 rfl rfl dX5_isShaft_1 rfl ?_
  refine g_iload_n X 1 rfl rfl dX5_isShaft_4 rfl ?_
  obtain ⟨z_1, hz_1, h⟩ := bnd_s h
  refine g_callSNI (rm := rm_X10_bit) (As := [.int c_shafts, .int v1]) (r := z_1) (W0 := []) (W1 := []) (isC := []) (isR := [0]) (perm := [0]) (ws' := (w_X5_isShaft cA a_me a_one a_two a_length a_draught u_galleries u_doors c_shafts)) X (c_X10_bit l D cA c_shafts v1 _ hz_1) gX5_isShaft_X10_bit_n36 (by decide +kernel) (by decide +kernel) (by decide +kernel) rfl rfl rfl hd_X10_bit ⟨Nat.le_of_ble_eq_true rfl, Nat.le_of_ble_eq_true rfl⟩ rfl rfl (Nat.le_of_ble_eq_true rfl) rfl (by decide +kernel) rfl (by decide +kernel) (by decide +kernel) ⟨Nat.zero_le _, Nat.zero_le _⟩ rfl (by decide +kernel) dX5_isShaft_5 rfl ?_
  refine g_iconst (v := 1) X dX5_isShaft_8 (by decide) rfl ?_
  refine g_icmp_ne (tgt := 16) X dX5_isShaft_9 (by decide) rfl h (fun c_2 h => ?_) (fun c_2 h => ?_)
  · refine g_iconst (v := 0) X dX5_isShaft_16 (by decide) rfl ?_
    cases Option.some.inj h
    exact hret _ _ dX5_isShaft_17 (nar_z (Or.inl rfl))
  · refine g_iconst (v := 1) X dX5_isShaft_12 (by decide) rfl ?_
    refine g_goto (tgt := 17) X dX5_isShaft_13 (by decide) ?_
    cases Option.some.inj h
    exact hret _ _ dX5_isShaft_17 (nar_z (Or.inr rfl))
abbrev rm_X5_allGalleries : Room := { frames := 0, cells := 0, slots := 0, locals := 0 }
theorem hd_X5_allGalleries : yX5_allGalleries.cls ≠ "java/lang/invoke/MethodHandle" ∧ yX5_allGalleries.cls ≠ "java/lang/invoke/VarHandle" ∧ (parseMethodDescriptor yX5_allGalleries.desc).map (fun d => d.parameters.length) = some 0 := by decide +kernel
theorem iw_X5_allGalleries_X5 : ∀ w ∈ wsX50, w ∈ wsX5_allGalleries := fun w h => List.mem_cons_of_mem _ (List.mem_append_right _ h)
theorem fl_X5_allGalleries_X5_0 : Cond.fieldLink RX5 29 RX5 (TX5 0).2.1 (TX5 0).2.2.1 ∈ wsX5_allGalleries := List.mem_of_getElem? (i := 1) rfl
abbrev w_X5_allGalleries (cA : ClassId) (a_me a_one a_two a_length a_draught : Nat) (u_doors : Int32) (u_shafts : Int32) (c_galleries : Int32) : va_W := [(a_me, .inr (5, [.int c_galleries, .ref a_one, .ref a_two, .ref a_length, .int u_doors, .ref a_draught, .int u_shafts]))]
set_option maxHeartbeats 4000000 in
set_option maxRecDepth 100000 in
theorem c_X5_allGalleries (l : Launch) (D : va_G) (cA : ClassId) (a_me a_one a_two a_length a_draught : Nat) (u_doors : Int32) (u_shafts : Int32) (c_galleries : Int32) (z : Int32) (h : f_X5_allGalleries c_galleries = some z) : CtI l yX5_allGalleries wsX5_allGalleries rm_X5_allGalleries D cA [.ref a_me] (w_X5_allGalleries cA a_me a_one a_two a_length a_draught u_doors u_shafts c_galleries) z (w_X5_allGalleries cA a_me a_one a_two a_length a_draught u_doors u_shafts c_galleries) := by
  refine ct_I (maxL := 1) (ty := .int) (cc := cX5_allGalleries) (by decide) rfl (Nat.le_of_ble_eq_true rfl) rfl (fun p e s m args below meth c A Q X hret => ?_)
  have h : (some ((1 <<< (c_galleries &&& 31)) - 1) : Option (Int32)) = some z := h
  refine g_iconst (v := 1) X dX5_allGalleries_0 (by decide) rfl ?_
  refine g_aload_n X 0 rfl rfl dX5_allGalleries_1 rfl ?_
  refine g_getf (C := RX5) (T := TX5) (N := 7) (v := .int c_galleries) X 0 rfl vc_X5 0 (by decide) iw_X5_allGalleries_X5 fl_X5_allGalleries_X5_0 rfl rfl dX5_allGalleries_2 rfl ?_
  refine g_ishl X dX5_allGalleries_5 rfl ?_
  refine g_iconst (v := 1) X dX5_allGalleries_6 (by decide) rfl ?_
  refine g_isub X dX5_allGalleries_7 rfl ?_
  cases Option.some.inj h
  exact hret _ _ dX5_allGalleries_8 rfl
abbrev rm_X5_readShafts : Room := { frames := 2, cells := 0, slots := 0, locals := 42 }
theorem hd_X5_readShafts : yX5_readShafts.cls ≠ "java/lang/invoke/MethodHandle" ∧ yX5_readShafts.cls ≠ "java/lang/invoke/VarHandle" ∧ (parseMethodDescriptor yX5_readShafts.desc).map (fun d => d.parameters.length) = some 2 := by decide +kernel
theorem iw_X5_readShafts_X4 : ∀ w ∈ wsX40, w ∈ wsX5_readShafts := fun w h => List.mem_cons_of_mem _ (List.mem_append_left _ (List.mem_append_right _ h))
theorem iw_X5_readShafts_X5 : ∀ w ∈ wsX50, w ∈ wsX5_readShafts := fun w h => List.mem_cons_of_mem _ (List.mem_append_left _ (List.mem_append_left _ (List.mem_append_right _ h)))
theorem fl_X5_readShafts_X5_5 : Cond.fieldLink RX5 26 RX5 (TX5 5).2.1 (TX5 5).2.2.1 ∈ wsX5_readShafts := List.mem_of_getElem? (i := 1) rfl
theorem fl_X5_readShafts_X5_6 : Cond.fieldLink RX5 33 RX5 (TX5 6).2.1 (TX5 6).2.2.1 ∈ wsX5_readShafts := List.mem_of_getElem? (i := 2) rfl
theorem fl_X5_readShafts_X4_1 : Cond.fieldLink RX5 66 RX4 (TX4 1).2.1 (TX4 1).2.2.1 ∈ wsX5_readShafts := List.mem_of_getElem? (i := 3) rfl
abbrev w_X5_readShafts (cA : ClassId) (a_me a_q1 a_one a_two a_length a_draught a_draught_cells a_q1_letters a_q1_reader a_q1_letters_cells : Nat) (u_galleries : Int32) (u_doors : Int32) (c_shafts : Int32) (c_draught : A32) (c_q1_length : Int32) (c_q1_letters : A32) : va_W := [(a_me, .inr (5, [.int u_galleries, .ref a_one, .ref a_two, .ref a_length, .int u_doors, .ref a_draught, .int c_shafts])), (a_draught, .inr (8, [.ref a_draught_cells])), (a_draught_cells, .inl (cA, 7, .inl c_draught)), (a_q1, .inr (4, [.ref a_q1_letters, .int c_q1_length, .ref a_q1_reader])), (a_q1_letters, .inr (8, [.ref a_q1_letters_cells])), (a_q1_letters_cells, .inl (cA, 66, .inl c_q1_letters))]
set_option maxHeartbeats 4000000 in
set_option maxRecDepth 100000 in
theorem t_X5_readShafts_b15 {l : Launch} {D : va_G} {cA : ClassId} {p : Program} {e : Env} {s : State} {m : MethodId} {args : Array Value} {below : List Frame} {meth : Method} {c : Code} {A : Nat → Prop} {Q : State → Prop} {z : Int32 × A32} {a_me a_q1 a_one a_two a_length a_draught a_draught_cells a_q1_letters a_q1_reader a_q1_letters_cells : Nat} {u_galleries : Int32} {u_doors : Int32}  {c_q1_length : Int32} {c_q1_letters : A32}  (X : GX p s m args c cX5_readShafts RX5 wsX5_readShafts D cA A 4) (hret : RtV p l e rm_X5_readShafts s m args below meth c cX5_readShafts D A 4 0 0 Q (w_X5_readShafts cA a_me a_q1 a_one a_two a_length a_draught a_draught_cells a_q1_letters a_q1_reader a_q1_letters_cells u_galleries u_doors z.1 z.2 c_q1_length c_q1_letters))  : ∀ (fu : Nat) (c_shafts : Int32) (c_draught : A32) (v3 : Int32), f_X5_readShafts_b15 c_q1_length c_q1_letters fu c_shafts c_draught v3 = some z → G p l e rm_X5_readShafts s m args below meth c D A 4 0 0 Q 15 [(0, .ref a_me), (1, .ref a_q1), (3, .int v3)] [] (w_X5_readShafts cA a_me a_q1 a_one a_two a_length a_draught a_draught_cells a_q1_letters a_q1_reader a_q1_letters_cells u_galleries u_doors c_shafts c_draught c_q1_length c_q1_letters) := by
  intro fu
  induction fu with
  | zero => intro c_shafts c_draught v3 h; exact absurd (show (none : Option (Int32 × A32)) = some z from h) (by simp)
  | succ fu ih =>
    intro c_shafts c_draught v3 h
    have h : (if c_q1_length ≤ (v3 + 1) then some (c_shafts, c_draught) else Option.bind (f_X4_digit c_q1_letters v3) fun z_2 => Option.bind (f_X4_digit c_q1_letters (v3 + 1)) fun z_3 => Option.bind (f_X8_set 7 c_draught z_2 z_3) fun z_4 => Option.bind (f_X4_digit c_q1_letters v3) fun z_5 => nam (c_shafts ||| (1 <<< (z_5 &&& 31))) fun w_6 => nam (v3 + 2) fun v3_7 => (f_X5_readShafts_b15 c_q1_length c_q1_letters fu) w_6 z_4 v3_7 : Option (Int32 × A32)) = some z := h
    refine g_iload_n X 2 rfl rfl dX5_readShafts_15 rfl ?_
    refine g_iconst (v := 1) X dX5_readShafts_16 (by decide) rfl ?_
    refine g_iadd X dX5_readShafts_17 rfl ?_
    refine g_aload_n X 1 rfl rfl dX5_readShafts_18 rfl ?_
    refine g_getf (C := RX4) (T := TX4) (N := 3) (v := .int c_q1_length) X 3 rfl vc_X4 1 (by decide) iw_X5_readShafts_X4 fl_X5_readShafts_X4_1 rfl rfl dX5_readShafts_19 rfl ?_
    refine g_icmp_ge (tgt := 66) X dX5_readShafts_22 (by decide) rfl h (fun c_1 h => ?_) (fun c_1 h => ?_)
    · cases Option.some.inj h
      exact hret _ _ dX5_readShafts_66
    · refine g_aload_n X 0 rfl rfl dX5_readShafts_25 rfl ?_
      refine g_getf (C := RX5) (T := TX5) (N := 7) (v := .ref a_draught) X 0 rfl vc_X5 5 (by decide) iw_X5_readShafts_X5 fl_X5_readShafts_X5_5 rfl rfl dX5_readShafts_26 rfl ?_
      refine g_aload_n X 1 rfl rfl dX5_readShafts_29 rfl ?_
      refine g_iload_n X 2 rfl rfl dX5_readShafts_30 rfl ?_
      obtain ⟨z_2, hz_2, h⟩ := bnd_s h
      refine g_callVI (rm := rm_X4_digit) (As := [.int v3]) (r := z_2) (W0 := (w_X4_digit cA a_q1 a_q1_letters a_q1_reader a_q1_letters_cells c_q1_length c_q1_letters)) (W1 := (w_X4_digit cA a_q1 a_q1_letters a_q1_reader a_q1_letters_cells c_q1_length c_q1_letters)) (isC := [3, 4, 5]) (isR := [0, 1, 2]) (perm := [0, 1, 2, 3, 4, 5]) (ws' := (w_X5_readShafts cA a_me a_q1 a_one a_two a_length a_draught a_draught_cells a_q1_letters a_q1_reader a_q1_letters_cells u_galleries u_doors c_shafts c_draught c_q1_length c_q1_letters)) X (c_X4_digit l D cA a_q1 a_q1_letters a_q1_reader a_q1_letters_cells c_q1_length c_q1_letters v3 _ hz_2) 3 rfl rfl rfl gX5_readShafts_X4_digit rfl rfl rfl ⟨rfl, hd_X4_digit⟩ ⟨Nat.le_of_ble_eq_true rfl, Nat.le_of_ble_eq_true rfl⟩ rfl rfl (Nat.le_of_ble_eq_true rfl) rfl (by decide +kernel) rfl (by decide +kernel) (by decide +kernel) ⟨Nat.zero_le _, Nat.zero_le _⟩ rfl (by decide +kernel) dX5_readShafts_31 rfl ?_
      refine g_aload_n X 1 rfl rfl dX5_readShafts_34 rfl ?_
      refine g_iload_n X 2 rfl rfl dX5_readShafts_35 rfl ?_
      refine g_iconst (v := 1) X dX5_readShafts_36 (by decide) rfl ?_
      refine g_iadd X dX5_readShafts_37 rfl ?_
      obtain ⟨z_3, hz_3, h⟩ := bnd_s h
      refine g_callVI (rm := rm_X4_digit) (As := [.int (v3 + 1)]) (r := z_3) (W0 := (w_X4_digit cA a_q1 a_q1_letters a_q1_reader a_q1_letters_cells c_q1_length c_q1_letters)) (W1 := (w_X4_digit cA a_q1 a_q1_letters a_q1_reader a_q1_letters_cells c_q1_length c_q1_letters)) (isC := [3, 4, 5]) (isR := [0, 1, 2]) (perm := [0, 1, 2, 3, 4, 5]) (ws' := (w_X5_readShafts cA a_me a_q1 a_one a_two a_length a_draught a_draught_cells a_q1_letters a_q1_reader a_q1_letters_cells u_galleries u_doors c_shafts c_draught c_q1_length c_q1_letters)) X (c_X4_digit l D cA a_q1 a_q1_letters a_q1_reader a_q1_letters_cells c_q1_length c_q1_letters (v3 + 1) _ hz_3) 3 rfl rfl rfl gX5_readShafts_X4_digit rfl rfl rfl ⟨rfl, hd_X4_digit⟩ ⟨Nat.le_of_ble_eq_true rfl, Nat.le_of_ble_eq_true rfl⟩ rfl rfl (Nat.le_of_ble_eq_true rfl) rfl (by decide +kernel) rfl (by decide +kernel) (by decide +kernel) ⟨Nat.zero_le _, Nat.zero_le _⟩ rfl (by decide +kernel) dX5_readShafts_38 rfl ?_
      obtain ⟨z_4, hz_4, h⟩ := bnd_s h
      refine g_callVV (rm := rm_X8_set) (As := [.int z_2, .int z_3]) (W0 := (w_X8_set cA a_draught a_draught_cells 7 c_draught)) (W1 := (w_X8_set cA a_draught a_draught_cells 7 z_4)) (isC := [1, 2]) (isR := [0, 3, 4, 5]) (perm := [0, 4, 5, 1, 2, 3]) (ws' := (w_X5_readShafts cA a_me a_q1 a_one a_two a_length a_draught a_draught_cells a_q1_letters a_q1_reader a_q1_letters_cells u_galleries u_doors c_shafts z_4 c_q1_length c_q1_letters)) X (c_X8_set l D cA a_draught a_draught_cells 7 c_draught z_2 z_3 _ hz_4) 1 rfl rfl rfl gX5_readShafts_X8_set rfl rfl rfl ⟨rfl, hd_X8_set⟩ ⟨Nat.le_of_ble_eq_true rfl, Nat.le_of_ble_eq_true rfl⟩ rfl rfl (Nat.le_of_ble_eq_true rfl) rfl (by decide +kernel) rfl (by decide +kernel) (by decide +kernel) ⟨Nat.zero_le _, Nat.zero_le _⟩ rfl (by decide +kernel) dX5_readShafts_41 rfl ?_
      refine g_aload_n X 0 rfl rfl dX5_readShafts_44 rfl ?_
      refine g_dup X dX5_readShafts_45 rfl rfl ?_
      refine g_getf (C := RX5) (T := TX5) (N := 7) (v := .int c_shafts) X 0 rfl vc_X5 6 (by decide) iw_X5_readShafts_X5 fl_X5_readShafts_X5_6 rfl rfl dX5_readShafts_46 rfl ?_
      refine g_iconst (v := 1) X dX5_readShafts_49 (by decide) rfl ?_
      refine g_aload_n X 1 rfl rfl dX5_readShafts_50 rfl ?_
      refine g_iload_n X 2 rfl rfl dX5_readShafts_51 rfl ?_
      obtain ⟨z_5, hz_5, h⟩ := bnd_s h
      refine g_callVI (rm := rm_X4_digit) (As := [.int v3]) (r := z_5) (W0 := (w_X4_digit cA a_q1 a_q1_letters a_q1_reader a_q1_letters_cells c_q1_length c_q1_letters)) (W1 := (w_X4_digit cA a_q1 a_q1_letters a_q1_reader a_q1_letters_cells c_q1_length c_q1_letters)) (isC := [3, 4, 5]) (isR := [0, 1, 2]) (perm := [0, 1, 2, 3, 4, 5]) (ws' := (w_X5_readShafts cA a_me a_q1 a_one a_two a_length a_draught a_draught_cells a_q1_letters a_q1_reader a_q1_letters_cells u_galleries u_doors c_shafts z_4 c_q1_length c_q1_letters)) X (c_X4_digit l D cA a_q1 a_q1_letters a_q1_reader a_q1_letters_cells c_q1_length c_q1_letters v3 _ hz_5) 3 rfl rfl rfl gX5_readShafts_X4_digit rfl rfl rfl ⟨rfl, hd_X4_digit⟩ ⟨Nat.le_of_ble_eq_true rfl, Nat.le_of_ble_eq_true rfl⟩ rfl rfl (Nat.le_of_ble_eq_true rfl) rfl (by decide +kernel) rfl (by decide +kernel) (by decide +kernel) ⟨Nat.zero_le _, Nat.zero_le _⟩ rfl (by decide +kernel) dX5_readShafts_52 rfl ?_
      refine g_ishl X dX5_readShafts_55 rfl ?_
      refine g_ior X dX5_readShafts_56 rfl ?_
      refine g_nami h (fun w_6 h => ?_)
      refine g_putf (C := RX5) (T := TX5) (N := 7) (ty := .int) (ws' := (w_X5_readShafts cA a_me a_q1 a_one a_two a_length a_draught a_draught_cells a_q1_letters a_q1_reader a_q1_letters_cells u_galleries u_doors w_6 z_4 c_q1_length c_q1_letters)) X 0 tyX5 tyX5_ok nmX5 rfl vc_X5 6 (by decide) iw_X5_readShafts_X5 fl_X5_readShafts_X5_6 rfl rfl pd_X5_6 rfl rfl (Nat.le_of_ble_eq_true rfl) rfl dX5_readShafts_57 rfl ?_
      obtain ⟨v3_7, ev3_7, h⟩ := nam_s h
      refine g_iinc (v := v3_7) (lv' := [(3, .int v3_7), (0, .ref a_me), (1, .ref a_q1)]) X 2 rfl (by rw [ev3_7]; rfl) (by decide) rfl dX5_readShafts_60 rfl ?_
      refine g_goto (tgt := 15) X dX5_readShafts_63 (by decide) ?_
      refine g_lvs [1, 2, 0] rfl ?_
      exact ih _ _ _ h
set_option maxHeartbeats 4000000 in
set_option maxRecDepth 100000 in
theorem c_X5_readShafts (l : Launch) (D : va_G) (cA : ClassId) (a_me a_q1 a_one a_two a_length a_draught a_draught_cells a_q1_letters a_q1_reader a_q1_letters_cells : Nat) (u_galleries : Int32) (u_doors : Int32) (c_shafts : Int32) (c_draught : A32) (c_q1_length : Int32) (c_q1_letters : A32) (v2 : Int32) (z : Int32 × A32) (h : f_X5_readShafts c_shafts c_draught c_q1_length c_q1_letters v2 = some z) : CtV l yX5_readShafts wsX5_readShafts rm_X5_readShafts D cA [.ref a_me, .ref a_q1, .int v2] (w_X5_readShafts cA a_me a_q1 a_one a_two a_length a_draught a_draught_cells a_q1_letters a_q1_reader a_q1_letters_cells u_galleries u_doors c_shafts c_draught c_q1_length c_q1_letters) Unit (fun _ => (w_X5_readShafts cA a_me a_q1 a_one a_two a_length a_draught a_draught_cells a_q1_letters a_q1_reader a_q1_letters_cells u_galleries u_doors z.1 z.2 c_q1_length c_q1_letters)) 0 0 := by
  refine ct_V (maxL := 4) (cc := cX5_readShafts) (by decide) rfl (Nat.le_of_ble_eq_true rfl) rfl (fun p e s m args below meth c A Q X _ hret => ?_)
  have hret := hret ()
  have h : (Option.bind (f_X8_fill 7 c_draught (-1)) fun z_1 => f_X5_readShafts_b15 c_q1_length c_q1_letters FU 0 z_1 v2 : Option (Int32 × A32)) = some z := h
  refine g_aload_n X 0 rfl rfl dX5_readShafts_0 rfl ?_
  refine g_getf (C := RX5) (T := TX5) (N := 7) (v := .ref a_draught) X 0 rfl vc_X5 5 (by decide) iw_X5_readShafts_X5 fl_X5_readShafts_X5_5 rfl rfl dX5_readShafts_1 rfl ?_
  refine g_iconst (v := (-1)) X dX5_readShafts_4 (by decide) rfl ?_
  obtain ⟨z_1, hz_1, h⟩ := bnd_s h
  refine g_callVV (rm := rm_X8_fill) (As := [.int (-1)]) (W0 := (w_X8_fill cA a_draught a_draught_cells 7 c_draught)) (W1 := (w_X8_fill cA a_draught a_draught_cells 7 z_1)) (isC := [1, 2]) (isR := [0, 3, 4, 5]) (perm := [0, 4, 5, 1, 2, 3]) (ws' := (w_X5_readShafts cA a_me a_q1 a_one a_two a_length a_draught a_draught_cells a_q1_letters a_q1_reader a_q1_letters_cells u_galleries u_doors c_shafts z_1 c_q1_length c_q1_letters)) X (c_X8_fill l D cA a_draught a_draught_cells 7 c_draught (-1) _ hz_1) 1 rfl rfl rfl gX5_readShafts_X8_fill rfl rfl rfl ⟨rfl, hd_X8_fill⟩ ⟨Nat.le_of_ble_eq_true rfl, Nat.le_of_ble_eq_true rfl⟩ rfl rfl (Nat.le_of_ble_eq_true rfl) rfl (by decide +kernel) rfl (by decide +kernel) (by decide +kernel) ⟨Nat.zero_le _, Nat.zero_le _⟩ rfl (by decide +kernel) dX5_readShafts_5 rfl ?_
  refine g_aload_n X 0 rfl rfl dX5_readShafts_8 rfl ?_
  refine g_iconst (v := 0) X dX5_readShafts_9 (by decide) rfl ?_
  refine g_putf (C := RX5) (T := TX5) (N := 7) (ty := .int) (ws' := (w_X5_readShafts cA a_me a_q1 a_one a_two a_length a_draught a_draught_cells a_q1_letters a_q1_reader a_q1_letters_cells u_galleries u_doors 0 z_1 c_q1_length c_q1_letters)) X 0 tyX5 tyX5_ok nmX5 rfl vc_X5 6 (by decide) iw_X5_readShafts_X5 fl_X5_readShafts_X5_6 rfl rfl pd_X5_6 rfl rfl (Nat.le_of_ble_eq_true rfl) rfl dX5_readShafts_10 rfl ?_
  refine g_iload_n X 2 rfl rfl dX5_readShafts_13 rfl ?_
  refine g_istore_n (lv' := [(3, .int v2), (0, .ref a_me), (1, .ref a_q1), (2, .int v2)]) X rfl (by decide) rfl dX5_readShafts_14 rfl ?_
  refine g_lvs [1, 2, 0] rfl ?_
  exact t_X5_readShafts_b15 X hret _ _ _ _ h
abbrev rm_X5_readFrom : Room := { frames := 3, cells := 0, slots := 0, locals := 65 }
theorem hd_X5_readFrom : yX5_readFrom.cls ≠ "java/lang/invoke/MethodHandle" ∧ yX5_readFrom.cls ≠ "java/lang/invoke/VarHandle" ∧ (parseMethodDescriptor yX5_readFrom.desc).map (fun d => d.parameters.length) = some 1 := by decide +kernel
theorem iw_X5_readFrom_X4 : ∀ w ∈ wsX40, w ∈ wsX5_readFrom := fun w h => List.mem_cons_of_mem _ (List.mem_append_left _ (List.mem_append_right _ h))
theorem iw_X5_readFrom_X5 : ∀ w ∈ wsX50, w ∈ wsX5_readFrom := fun w h => List.mem_cons_of_mem _ (List.mem_append_left _ (List.mem_append_left _ (List.mem_append_right _ h)))
theorem fl_X5_readFrom_X5_0 : Cond.fieldLink RX5 29 RX5 (TX5 0).2.1 (TX5 0).2.2.1 ∈ wsX5_readFrom := List.mem_of_getElem? (i := 1) rfl
theorem fl_X5_readFrom_X5_4 : Cond.fieldLink RX5 40 RX5 (TX5 4).2.1 (TX5 4).2.2.1 ∈ wsX5_readFrom := List.mem_of_getElem? (i := 2) rfl
theorem fl_X5_readFrom_X4_0 : Cond.fieldLink RX5 43 RX4 (TX4 0).2.1 (TX4 0).2.2.1 ∈ wsX5_readFrom := List.mem_of_getElem? (i := 3) rfl
theorem fl_X5_readFrom_X5_1 : Cond.fieldLink RX5 14 RX5 (TX5 1).2.1 (TX5 1).2.2.1 ∈ wsX5_readFrom := List.mem_of_getElem? (i := 4) rfl
theorem fl_X5_readFrom_X5_2 : Cond.fieldLink RX5 20 RX5 (TX5 2).2.1 (TX5 2).2.2.1 ∈ wsX5_readFrom := List.mem_of_getElem? (i := 5) rfl
theorem fl_X5_readFrom_X5_3 : Cond.fieldLink RX5 23 RX5 (TX5 3).2.1 (TX5 3).2.2.1 ∈ wsX5_readFrom := List.mem_of_getElem? (i := 6) rfl
abbrev w_X5_readFrom (cA : ClassId) (a_me a_q1 a_one a_two a_length a_draught a_one_cells a_two_cells a_length_cells a_draught_cells a_q1_letters a_q1_reader a_q1_letters_cells : Nat) (c_galleries : Int32) (c_doors : Int32) (c_shafts : Int32) (c_one : A32) (c_two : A32) (c_length : A32) (c_draught : A32) (c_q1_length : Int32) (c_q1_letters : A32) : va_W := [(a_me, .inr (5, [.int c_galleries, .ref a_one, .ref a_two, .ref a_length, .int c_doors, .ref a_draught, .int c_shafts])), (a_one, .inr (8, [.ref a_one_cells])), (a_one_cells, .inl (cA, 10, .inl c_one)), (a_two, .inr (8, [.ref a_two_cells])), (a_two_cells, .inl (cA, 10, .inl c_two)), (a_length, .inr (8, [.ref a_length_cells])), (a_length_cells, .inl (cA, 10, .inl c_length)), (a_draught, .inr (8, [.ref a_draught_cells])), (a_draught_cells, .inl (cA, 7, .inl c_draught)), (a_q1, .inr (4, [.ref a_q1_letters, .int c_q1_length, .ref a_q1_reader])), (a_q1_letters, .inr (8, [.ref a_q1_letters_cells])), (a_q1_letters_cells, .inl (cA, 66, .inl c_q1_letters))]
set_option maxHeartbeats 4000000 in
set_option maxRecDepth 100000 in
theorem t_X5_readFrom_b123 {l : Launch} {D : va_G} {cA : ClassId} {p : Program} {e : Env} {s : State} {m : MethodId} {args : Array Value} {below : List Frame} {meth : Method} {c : Code} {A : Nat → Prop} {Q : State → Prop} {z : Int32 × Int32 × Int32 × A32 × A32 × A32 × A32} {a_me a_q1 a_one a_two a_length a_draught a_one_cells a_two_cells a_length_cells a_draught_cells a_q1_letters a_q1_reader a_q1_letters_cells : Nat}   {c_galleries : Int32} {c_doors : Int32} {c_shafts : Int32} {c_one : A32} {c_two : A32} {c_length : A32} {c_draught : A32} {c_q1_length : Int32} {c_q1_letters : A32} {v2 : Int32} {v3 : Int32} {k14 : Int32 → Int32 → A32 → A32 → A32 → Int32 → Int32 → Option (Int32 × Int32 × Int32 × A32 × A32 × A32 × A32)} (X : GX p s m args c cX5_readFrom RX5 wsX5_readFrom D cA A 4) (hret : RtV p l e rm_X5_readFrom s m args below meth c cX5_readFrom D A 4 0 0 Q (w_X5_readFrom cA a_me a_q1 a_one a_two a_length a_draught a_one_cells a_two_cells a_length_cells a_draught_cells a_q1_letters a_q1_reader a_q1_letters_cells z.1 z.2.1 z.2.2.1 z.2.2.2.1 z.2.2.2.2.1 z.2.2.2.2.2.1 z.2.2.2.2.2.2 c_q1_length c_q1_letters)) (hk14 : ∀ (c_galleries : Int32) (c_doors : Int32) (c_one : A32) (c_two : A32) (c_length : A32) (v2 : Int32) (v3 : Int32), k14 c_galleries c_doors c_one c_two c_length v2 v3 = some z → G p l e rm_X5_readFrom s m args below meth c D A 4 0 0 Q 14 [(0, .ref a_me), (1, .ref a_q1), (2, .int v2), (3, .int v3)] [] (w_X5_readFrom cA a_me a_q1 a_one a_two a_length a_draught a_one_cells a_two_cells a_length_cells a_draught_cells a_q1_letters a_q1_reader a_q1_letters_cells c_galleries c_doors c_shafts c_one c_two c_length c_draught c_q1_length c_q1_letters)) (h : f_X5_readFrom_b123 k14 c_galleries c_doors c_shafts c_one c_two c_length c_draught c_q1_length c_q1_letters v2 v3 = some z) : G p l e rm_X5_readFrom s m args below meth c D A 4 0 0 Q 123 [(0, .ref a_me), (1, .ref a_q1), (2, .int v2), (3, .int v3)] [] (w_X5_readFrom cA a_me a_q1 a_one a_two a_length a_draught a_one_cells a_two_cells a_length_cells a_draught_cells a_q1_letters a_q1_reader a_q1_letters_cells c_galleries c_doors c_shafts c_one c_two c_length c_draught c_q1_length c_q1_letters) := by
  have h : (nam (v2 + 1) fun v2_1 => nam (v3 + 1) fun v3_2 => k14 c_galleries c_doors c_one c_two c_length v2_1 v3_2 : Option (Int32 × Int32 × Int32 × A32 × A32 × A32 × A32)) = some z := h
  obtain ⟨v2_1, ev2_1, h⟩ := nam_s h
  refine g_iinc (v := v2_1) (lv' := [(2, .int v2_1), (0, .ref a_me), (1, .ref a_q1), (3, .int v3)]) X 2 rfl (by rw [ev2_1]; rfl) (by decide) rfl dX5_readFrom_123 rfl ?_
  obtain ⟨v3_2, ev3_2, h⟩ := nam_s h
  refine g_iinc (v := v3_2) (lv' := [(3, .int v3_2), (2, .int v2_1), (0, .ref a_me), (1, .ref a_q1)]) X 3 rfl (by rw [ev3_2]; rfl) (by decide) rfl dX5_readFrom_126 rfl ?_
  refine g_goto (tgt := 14) X dX5_readFrom_129 (by decide) ?_
  refine g_lvs [2, 3, 1, 0] rfl ?_
  exact hk14 _ _ _ _ _ _ _ h
set_option maxHeartbeats 4000000 in
set_option maxRecDepth 100000 in
theorem t_X5_readFrom_b39 {l : Launch} {D : va_G} {cA : ClassId} {p : Program} {e : Env} {s : State} {m : MethodId} {args : Array Value} {below : List Frame} {meth : Method} {c : Code} {A : Nat → Prop} {Q : State → Prop} {z : Int32 × Int32 × Int32 × A32 × A32 × A32 × A32} {a_me a_q1 a_one a_two a_length a_draught a_one_cells a_two_cells a_length_cells a_draught_cells a_q1_letters a_q1_reader a_q1_letters_cells : Nat}   {c_galleries : Int32} {c_doors : Int32} {c_shafts : Int32} {c_one : A32} {c_two : A32} {c_length : A32} {c_draught : A32} {c_q1_length : Int32} {c_q1_letters : A32} {v2 : Int32} {v3 : Int32} {k14 : Int32 → Int32 → A32 → A32 → A32 → Int32 → Int32 → Option (Int32 × Int32 × Int32 × A32 × A32 × A32 × A32)} (X : GX p s m args c cX5_readFrom RX5 wsX5_readFrom D cA A 4) (hret : RtV p l e rm_X5_readFrom s m args below meth c cX5_readFrom D A 4 0 0 Q (w_X5_readFrom cA a_me a_q1 a_one a_two a_length a_draught a_one_cells a_two_cells a_length_cells a_draught_cells a_q1_letters a_q1_reader a_q1_letters_cells z.1 z.2.1 z.2.2.1 z.2.2.2.1 z.2.2.2.2.1 z.2.2.2.2.2.1 z.2.2.2.2.2.2 c_q1_length c_q1_letters)) (hk14 : ∀ (c_galleries : Int32) (c_doors : Int32) (c_one : A32) (c_two : A32) (c_length : A32) (v2 : Int32) (v3 : Int32), k14 c_galleries c_doors c_one c_two c_length v2 v3 = some z → G p l e rm_X5_readFrom s m args below meth c D A 4 0 0 Q 14 [(0, .ref a_me), (1, .ref a_q1), (2, .int v2), (3, .int v3)] [] (w_X5_readFrom cA a_me a_q1 a_one a_two a_length a_draught a_one_cells a_two_cells a_length_cells a_draught_cells a_q1_letters a_q1_reader a_q1_letters_cells c_galleries c_doors c_shafts c_one c_two c_length c_draught c_q1_length c_q1_letters)) (h : f_X5_readFrom_b39 k14 c_galleries c_doors c_shafts c_one c_two c_length c_draught c_q1_length c_q1_letters v2 v3 = some z) : G p l e rm_X5_readFrom s m args below meth c D A 4 0 0 Q 39 [(0, .ref a_me), (1, .ref a_q1), (2, .int v2), (3, .int v3)] [] (w_X5_readFrom cA a_me a_q1 a_one a_two a_length a_draught a_one_cells a_two_cells a_length_cells a_draught_cells a_q1_letters a_q1_reader a_q1_letters_cells c_galleries c_doors c_shafts c_one c_two c_length c_draught c_q1_length c_q1_letters) := by
  have h : (Option.bind (f_X4_digit c_q1_letters v2) fun z_1 => Option.bind (f_X8_set 10 c_one v3 z_1) fun z_2 => Option.bind (f_X4_digit c_q1_letters (v2 + 1)) fun z_3 => Option.bind (f_X8_set 10 c_two v3 z_3) fun z_4 => Option.bind (f_X4_digit c_q1_letters (v2 + 2)) fun z_5 => Option.bind (f_X8_set 10 c_length v3 z_5) fun z_6 => nam (c_galleries + 1) fun w_7 => nam (v2 + 3) fun v2_8 => Option.bind (f_X8_get 66 c_q1_letters v2_8) fun z_9 => if z_9 = 100 then nam (c_doors ||| (1 <<< (v3 &&& 31))) fun w_11 => nam (v2_8 + 1) fun v2_12 => f_X5_readFrom_b123 k14 w_7 w_11 c_shafts z_2 z_4 z_6 c_draught c_q1_length c_q1_letters v2_12 v3 else f_X5_readFrom_b123 k14 w_7 c_doors c_shafts z_2 z_4 z_6 c_draught c_q1_length c_q1_letters v2_8 v3 : Option (Int32 × Int32 × Int32 × A32 × A32 × A32 × A32)) = some z := h
  refine g_aload_n X 0 rfl rfl dX5_readFrom_39 rfl ?_
  refine g_getf (C := RX5) (T := TX5) (N := 7) (v := .ref a_one) X 0 rfl vc_X5 1 (by decide) iw_X5_readFrom_X5 fl_X5_readFrom_X5_1 rfl rfl dX5_readFrom_40 rfl ?_
  refine g_iload_n X 3 rfl rfl dX5_readFrom_43 rfl ?_
  refine g_aload_n X 1 rfl rfl dX5_readFrom_44 rfl ?_
  refine g_iload_n X 2 rfl rfl dX5_readFrom_45 rfl ?_
  obtain ⟨z_1, hz_1, h⟩ := bnd_s h
  refine g_callVI (rm := rm_X4_digit) (As := [.int v2]) (r := z_1) (W0 := (w_X4_digit cA a_q1 a_q1_letters a_q1_reader a_q1_letters_cells c_q1_length c_q1_letters)) (W1 := (w_X4_digit cA a_q1 a_q1_letters a_q1_reader a_q1_letters_cells c_q1_length c_q1_letters)) (isC := [9, 10, 11]) (isR := [0, 1, 2, 3, 4, 5, 6, 7, 8]) (perm := [0, 1, 2, 3, 4, 5, 6, 7, 8, 9, 10, 11]) (ws' := (w_X5_readFrom cA a_me a_q1 a_one a_two a_length a_draught a_one_cells a_two_cells a_length_cells a_draught_cells a_q1_letters a_q1_reader a_q1_letters_cells c_galleries c_doors c_shafts c_one c_two c_length c_draught c_q1_length c_q1_letters)) X (c_X4_digit l D cA a_q1 a_q1_letters a_q1_reader a_q1_letters_cells c_q1_length c_q1_letters v2 _ hz_1) 9 rfl rfl rfl gX5_readFrom_X4_digit rfl rfl rfl ⟨rfl, hd_X4_digit⟩ ⟨Nat.le_of_ble_eq_true rfl, Nat.le_of_ble_eq_true rfl⟩ rfl rfl (Nat.le_of_ble_eq_true rfl) rfl (by decide +kernel) rfl (by decide +kernel) (by decide +kernel) ⟨Nat.zero_le _, Nat.zero_le _⟩ rfl (by decide +kernel) dX5_readFrom_46 rfl ?_
  obtain ⟨z_2, hz_2, h⟩ := bnd_s h
  refine g_callVV (rm := rm_X8_set) (As := [.int v3, .int z_1]) (W0 := (w_X8_set cA a_one a_one_cells 10 c_one)) (W1 := (w_X8_set cA a_one a_one_cells 10 z_2)) (isC := [1, 2]) (isR := [0, 3, 4, 5, 6, 7, 8, 9, 10, 11]) (perm := [0, 10, 11, 1, 2, 3, 4, 5, 6, 7, 8, 9]) (ws' := (w_X5_readFrom cA a_me a_q1 a_one a_two a_length a_draught a_one_cells a_two_cells a_length_cells a_draught_cells a_q1_letters a_q1_reader a_q1_letters_cells c_galleries c_doors c_shafts z_2 c_two c_length c_draught c_q1_length c_q1_letters)) X (c_X8_set l D cA a_one a_one_cells 10 c_one v3 z_1 _ hz_2) 1 rfl rfl rfl gX5_readFrom_X8_set rfl rfl rfl ⟨rfl, hd_X8_set⟩ ⟨Nat.le_of_ble_eq_true rfl, Nat.le_of_ble_eq_true rfl⟩ rfl rfl (Nat.le_of_ble_eq_true rfl) rfl (by decide +kernel) rfl (by decide +kernel) (by decide +kernel) ⟨Nat.zero_le _, Nat.zero_le _⟩ rfl (by decide +kernel) dX5_readFrom_49 rfl ?_
  refine g_aload_n X 0 rfl rfl dX5_readFrom_52 rfl ?_
  refine g_getf (C := RX5) (T := TX5) (N := 7) (v := .ref a_two) X 0 rfl vc_X5 2 (by decide) iw_X5_readFrom_X5 fl_X5_readFrom_X5_2 rfl rfl dX5_readFrom_53 rfl ?_
  refine g_iload_n X 3 rfl rfl dX5_readFrom_56 rfl ?_
  refine g_aload_n X 1 rfl rfl dX5_readFrom_57 rfl ?_
  refine g_iload_n X 2 rfl rfl dX5_readFrom_58 rfl ?_
  refine g_iconst (v := 1) X dX5_readFrom_59 (by decide) rfl ?_
  refine g_iadd X dX5_readFrom_60 rfl ?_
  obtain ⟨z_3, hz_3, h⟩ := bnd_s h
  refine g_callVI (rm := rm_X4_digit) (As := [.int (v2 + 1)]) (r := z_3) (W0 := (w_X4_digit cA a_q1 a_q1_letters a_q1_reader a_q1_letters_cells c_q1_length c_q1_letters)) (W1 := (w_X4_digit cA a_q1 a_q1_letters a_q1_reader a_q1_letters_cells c_q1_length c_q1_letters)) (isC := [9, 10, 11]) (isR := [0, 1, 2, 3, 4, 5, 6, 7, 8]) (perm := [0, 1, 2, 3, 4, 5, 6, 7, 8, 9, 10, 11]) (ws' := (w_X5_readFrom cA a_me a_q1 a_one a_two a_length a_draught a_one_cells a_two_cells a_length_cells a_draught_cells a_q1_letters a_q1_reader a_q1_letters_cells c_galleries c_doors c_shafts z_2 c_two c_length c_draught c_q1_length c_q1_letters)) X (c_X4_digit l D cA a_q1 a_q1_letters a_q1_reader a_q1_letters_cells c_q1_length c_q1_letters (v2 + 1) _ hz_3) 9 rfl rfl rfl gX5_readFrom_X4_digit rfl rfl rfl ⟨rfl, hd_X4_digit⟩ ⟨Nat.le_of_ble_eq_true rfl, Nat.le_of_ble_eq_true rfl⟩ rfl rfl (Nat.le_of_ble_eq_true rfl) rfl (by decide +kernel) rfl (by decide +kernel) (by decide +kernel) ⟨Nat.zero_le _, Nat.zero_le _⟩ rfl (by decide +kernel) dX5_readFrom_61 rfl ?_
  obtain ⟨z_4, hz_4, h⟩ := bnd_s h
  refine g_callVV (rm := rm_X8_set) (As := [.int v3, .int z_3]) (W0 := (w_X8_set cA a_two a_two_cells 10 c_two)) (W1 := (w_X8_set cA a_two a_two_cells 10 z_4)) (isC := [3, 4]) (isR := [0, 1, 2, 5, 6, 7, 8, 9, 10, 11]) (perm := [0, 1, 2, 10, 11, 3, 4, 5, 6, 7, 8, 9]) (ws' := (w_X5_readFrom cA a_me a_q1 a_one a_two a_length a_draught a_one_cells a_two_cells a_length_cells a_draught_cells a_q1_letters a_q1_reader a_q1_letters_cells c_galleries c_doors c_shafts z_2 z_4 c_length c_draught c_q1_length c_q1_letters)) X (c_X8_set l D cA a_two a_two_cells 10 c_two v3 z_3 _ hz_4) 3 rfl rfl rfl gX5_readFrom_X8_set rfl rfl rfl ⟨rfl, hd_X8_set⟩ ⟨Nat.le_of_ble_eq_true rfl, Nat.le_of_ble_eq_true rfl⟩ rfl rfl (Nat.le_of_ble_eq_true rfl) rfl (by decide +kernel) rfl (by decide +kernel) (by decide +kernel) ⟨Nat.zero_le _, Nat.zero_le _⟩ rfl (by decide +kernel) dX5_readFrom_64 rfl ?_
  refine g_aload_n X 0 rfl rfl dX5_readFrom_67 rfl ?_
  refine g_getf (C := RX5) (T := TX5) (N := 7) (v := .ref a_length) X 0 rfl vc_X5 3 (by decide) iw_X5_readFrom_X5 fl_X5_readFrom_X5_3 rfl rfl dX5_readFrom_68 rfl ?_
  refine g_iload_n X 3 rfl rfl dX5_readFrom_71 rfl ?_
  refine g_aload_n X 1 rfl rfl dX5_readFrom_72 rfl ?_
  refine g_iload_n X 2 rfl rfl dX5_readFrom_73 rfl ?_
  refine g_iconst (v := 2) X dX5_readFrom_74 (by decide) rfl ?_
  refine g_iadd X dX5_readFrom_75 rfl ?_
  obtain ⟨z_5, hz_5, h⟩ := bnd_s h
  refine g_callVI (rm := rm_X4_digit) (As := [.int (v2 + 2)]) (r := z_5) (W0 := (w_X4_digit cA a_q1 a_q1_letters a_q1_reader a_q1_letters_cells c_q1_length c_q1_letters)) (W1 := (w_X4_digit cA a_q1 a_q1_letters a_q1_reader a_q1_letters_cells c_q1_length c_q1_letters)) (isC := [9, 10, 11]) (isR := [0, 1, 2, 3, 4, 5, 6, 7, 8]) (perm := [0, 1, 2, 3, 4, 5, 6, 7, 8, 9, 10, 11]) (ws' := (w_X5_readFrom cA a_me a_q1 a_one a_two a_length a_draught a_one_cells a_two_cells a_length_cells a_draught_cells a_q1_letters a_q1_reader a_q1_letters_cells c_galleries c_doors c_shafts z_2 z_4 c_length c_draught c_q1_length c_q1_letters)) X (c_X4_digit l D cA a_q1 a_q1_letters a_q1_reader a_q1_letters_cells c_q1_length c_q1_letters (v2 + 2) _ hz_5) 9 rfl rfl rfl gX5_readFrom_X4_digit rfl rfl rfl ⟨rfl, hd_X4_digit⟩ ⟨Nat.le_of_ble_eq_true rfl, Nat.le_of_ble_eq_true rfl⟩ rfl rfl (Nat.le_of_ble_eq_true rfl) rfl (by decide +kernel) rfl (by decide +kernel) (by decide +kernel) ⟨Nat.zero_le _, Nat.zero_le _⟩ rfl (by decide +kernel) dX5_readFrom_76 rfl ?_
  obtain ⟨z_6, hz_6, h⟩ := bnd_s h
  refine g_callVV (rm := rm_X8_set) (As := [.int v3, .int z_5]) (W0 := (w_X8_set cA a_length a_length_cells 10 c_length)) (W1 := (w_X8_set cA a_length a_length_cells 10 z_6)) (isC := [5, 6]) (isR := [0, 1, 2, 3, 4, 7, 8, 9, 10, 11]) (perm := [0, 1, 2, 3, 4, 10, 11, 5, 6, 7, 8, 9]) (ws' := (w_X5_readFrom cA a_me a_q1 a_one a_two a_length a_draught a_one_cells a_two_cells a_length_cells a_draught_cells a_q1_letters a_q1_reader a_q1_letters_cells c_galleries c_doors c_shafts z_2 z_4 z_6 c_draught c_q1_length c_q1_letters)) X (c_X8_set l D cA a_length a_length_cells 10 c_length v3 z_5 _ hz_6) 5 rfl rfl rfl gX5_readFrom_X8_set rfl rfl rfl ⟨rfl, hd_X8_set⟩ ⟨Nat.le_of_ble_eq_true rfl, Nat.le_of_ble_eq_true rfl⟩ rfl rfl (Nat.le_of_ble_eq_true rfl) rfl (by decide +kernel) rfl (by decide +kernel) (by decide +kernel) ⟨Nat.zero_le _, Nat.zero_le _⟩ rfl (by decide +kernel) dX5_readFrom_79 rfl ?_
  refine g_aload_n X 0 rfl rfl dX5_readFrom_82 rfl ?_
  refine g_dup X dX5_readFrom_83 rfl rfl ?_
  refine g_getf (C := RX5) (T := TX5) (N := 7) (v := .int c_galleries) X 0 rfl vc_X5 0 (by decide) iw_X5_readFrom_X5 fl_X5_readFrom_X5_0 rfl rfl dX5_readFrom_84 rfl ?_
  refine g_iconst (v := 1) X dX5_readFrom_87 (by decide) rfl ?_
  refine g_iadd X dX5_readFrom_88 rfl ?_
  refine g_nami h (fun w_7 h => ?_)
  refine g_putf (C := RX5) (T := TX5) (N := 7) (ty := .int) (ws' := (w_X5_readFrom cA a_me a_q1 a_one a_two a_length a_draught a_one_cells a_two_cells a_length_cells a_draught_cells a_q1_letters a_q1_reader a_q1_letters_cells w_7 c_doors c_shafts z_2 z_4 z_6 c_draught c_q1_length c_q1_letters)) X 0 tyX5 tyX5_ok nmX5 rfl vc_X5 0 (by decide) iw_X5_readFrom_X5 fl_X5_readFrom_X5_0 rfl rfl pd_X5_0 rfl rfl (Nat.le_of_ble_eq_true rfl) rfl dX5_readFrom_89 rfl ?_
  obtain ⟨v2_8, ev2_8, h⟩ := nam_s h
  refine g_iinc (v := v2_8) (lv' := [(2, .int v2_8), (0, .ref a_me), (1, .ref a_q1), (3, .int v3)]) X 2 rfl (by rw [ev2_8]; rfl) (by decide) rfl dX5_readFrom_92 rfl ?_
  refine g_aload_n X 2 rfl rfl dX5_readFrom_95 rfl ?_
  refine g_getf (C := RX4) (T := TX4) (N := 3) (v := .ref a_q1_letters) X 9 rfl vc_X4 0 (by decide) iw_X5_readFrom_X4 fl_X5_readFrom_X4_0 rfl rfl dX5_readFrom_96 rfl ?_
  refine g_iload_n X 0 rfl rfl dX5_readFrom_99 rfl ?_
  obtain ⟨z_9, hz_9, h⟩ := bnd_s h
  refine g_callVI (rm := rm_X8_get) (As := [.int v2_8]) (r := z_9) (W0 := (w_X8_get cA a_q1_letters a_q1_letters_cells 66 c_q1_letters)) (W1 := (w_X8_get cA a_q1_letters a_q1_letters_cells 66 c_q1_letters)) (isC := [10, 11]) (isR := [0, 1, 2, 3, 4, 5, 6, 7, 8, 9]) (perm := [0, 1, 2, 3, 4, 5, 6, 7, 8, 9, 10, 11]) (ws' := (w_X5_readFrom cA a_me a_q1 a_one a_two a_length a_draught a_one_cells a_two_cells a_length_cells a_draught_cells a_q1_letters a_q1_reader a_q1_letters_cells w_7 c_doors c_shafts z_2 z_4 z_6 c_draught c_q1_length c_q1_letters)) X (c_X8_get l D cA a_q1_letters a_q1_letters_cells 66 c_q1_letters v2_8 _ hz_9) 10 rfl rfl rfl gX5_readFrom_X8_get rfl rfl rfl ⟨rfl, hd_X8_get⟩ ⟨Nat.le_of_ble_eq_true rfl, Nat.le_of_ble_eq_true rfl⟩ rfl rfl (Nat.le_of_ble_eq_true rfl) rfl (by decide +kernel) rfl (by decide +kernel) (by decide +kernel) ⟨Nat.zero_le _, Nat.zero_le _⟩ rfl (by decide +kernel) dX5_readFrom_100 rfl ?_
  refine g_bipush (v := 100) X dX5_readFrom_103 (by decide) rfl ?_
  refine g_icmp_ne (tgt := 123) X dX5_readFrom_105 (by decide) rfl h (fun c_10 h => ?_) (fun c_10 h => ?_)
  · refine g_lvs [1, 2, 0, 3] rfl ?_
    exact t_X5_readFrom_b123 X hret hk14 h
  · refine g_aload_n X 1 rfl rfl dX5_readFrom_108 rfl ?_
    refine g_dup X dX5_readFrom_109 rfl rfl ?_
    refine g_getf (C := RX5) (T := TX5) (N := 7) (v := .int c_doors) X 0 rfl vc_X5 4 (by decide) iw_X5_readFrom_X5 fl_X5_readFrom_X5_4 rfl rfl dX5_readFrom_110 rfl ?_
    refine g_iconst (v := 1) X dX5_readFrom_113 (by decide) rfl ?_
    refine g_iload_n X 3 rfl rfl dX5_readFrom_114 rfl ?_
    refine g_ishl X dX5_readFrom_115 rfl ?_
    refine g_ior X dX5_readFrom_116 rfl ?_
    refine g_nami h (fun w_11 h => ?_)
    refine g_putf (C := RX5) (T := TX5) (N := 7) (ty := .int) (ws' := (w_X5_readFrom cA a_me a_q1 a_one a_two a_length a_draught a_one_cells a_two_cells a_length_cells a_draught_cells a_q1_letters a_q1_reader a_q1_letters_cells w_7 w_11 c_shafts z_2 z_4 z_6 c_draught c_q1_length c_q1_letters)) X 0 tyX5 tyX5_ok nmX5 rfl vc_X5 4 (by decide) iw_X5_readFrom_X5 fl_X5_readFrom_X5_4 rfl rfl pd_X5_4 rfl rfl (Nat.le_of_ble_eq_true rfl) rfl dX5_readFrom_117 rfl ?_
    obtain ⟨v2_12, ev2_12, h⟩ := nam_s h
    refine g_iinc (v := v2_12) (lv' := [(2, .int v2_12), (0, .ref a_me), (1, .ref a_q1), (3, .int v3)]) X 0 rfl (by rw [ev2_12]; rfl) (by decide) rfl dX5_readFrom_120 rfl ?_
    refine g_lvs [1, 2, 0, 3] rfl ?_
    exact t_X5_readFrom_b123 X hret hk14 h
set_option maxHeartbeats 4000000 in
set_option maxRecDepth 100000 in
theorem t_X5_readFrom_b132 {l : Launch} {D : va_G} {cA : ClassId} {p : Program} {e : Env} {s : State} {m : MethodId} {args : Array Value} {below : List Frame} {meth : Method} {c : Code} {A : Nat → Prop} {Q : State → Prop} {z : Int32 × Int32 × Int32 × A32 × A32 × A32 × A32} {a_me a_q1 a_one a_two a_length a_draught a_one_cells a_two_cells a_length_cells a_draught_cells a_q1_letters a_q1_reader a_q1_letters_cells : Nat}   {c_galleries : Int32} {c_doors : Int32} {c_shafts : Int32} {c_one : A32} {c_two : A32} {c_length : A32} {c_draught : A32} {c_q1_length : Int32} {c_q1_letters : A32} {v2 : Int32}  (X : GX p s m args c cX5_readFrom RX5 wsX5_readFrom D cA A 4) (hret : RtV p l e rm_X5_readFrom s m args below meth c cX5_readFrom D A 4 0 0 Q (w_X5_readFrom cA a_me a_q1 a_one a_two a_length a_draught a_one_cells a_two_cells a_length_cells a_draught_cells a_q1_letters a_q1_reader a_q1_letters_cells z.1 z.2.1 z.2.2.1 z.2.2.2.1 z.2.2.2.2.1 z.2.2.2.2.2.1 z.2.2.2.2.2.2 c_q1_length c_q1_letters))  (h : f_X5_readFrom_b132 c_galleries c_doors c_shafts c_one c_two c_length c_draught c_q1_length c_q1_letters v2 = some z) : G p l e rm_X5_readFrom s m args below meth c D A 4 0 0 Q 132 [(0, .ref a_me), (1, .ref a_q1), (2, .int v2)] [] (w_X5_readFrom cA a_me a_q1 a_one a_two a_length a_draught a_one_cells a_two_cells a_length_cells a_draught_cells a_q1_letters a_q1_reader a_q1_letters_cells c_galleries c_doors c_shafts c_one c_two c_length c_draught c_q1_length c_q1_letters) := by
  have h : (Option.bind (f_X5_readShafts c_shafts c_draught c_q1_length c_q1_letters v2) fun z_1 => some (c_galleries, c_doors, z_1.1, c_one, c_two, c_length, z_1.2) : Option (Int32 × Int32 × Int32 × A32 × A32 × A32 × A32)) = some z := h
  refine g_aload_n X 0 rfl rfl dX5_readFrom_132 rfl ?_
  refine g_aload_n X 1 rfl rfl dX5_readFrom_133 rfl ?_
  refine g_iload_n X 2 rfl rfl dX5_readFrom_134 rfl ?_
  obtain ⟨z_1, hz_1, h⟩ := bnd_s h
  refine g_callVV (rm := rm_X5_readShafts) (As := [.ref a_q1, .int v2]) (W0 := (w_X5_readShafts cA a_me a_q1 a_one a_two a_length a_draught a_draught_cells a_q1_letters a_q1_reader a_q1_letters_cells c_galleries c_doors c_shafts c_draught c_q1_length c_q1_letters)) (W1 := (w_X5_readShafts cA a_me a_q1 a_one a_two a_length a_draught a_draught_cells a_q1_letters a_q1_reader a_q1_letters_cells c_galleries c_doors z_1.1 z_1.2 c_q1_length c_q1_letters)) (isC := [0, 7, 8, 9, 10, 11]) (isR := [1, 2, 3, 4, 5, 6]) (perm := [6, 0, 1, 2, 3, 4, 5, 7, 8, 9, 10, 11]) (ws' := (w_X5_readFrom cA a_me a_q1 a_one a_two a_length a_draught a_one_cells a_two_cells a_length_cells a_draught_cells a_q1_letters a_q1_reader a_q1_letters_cells c_galleries c_doors z_1.1 c_one c_two c_length z_1.2 c_q1_length c_q1_letters)) X (c_X5_readShafts l D cA a_me a_q1 a_one a_two a_length a_draught a_draught_cells a_q1_letters a_q1_reader a_q1_letters_cells c_galleries c_doors c_shafts c_draught c_q1_length c_q1_letters v2 _ hz_1) 0 rfl rfl rfl gX5_readFrom_X5_readShafts rfl rfl rfl ⟨rfl, hd_X5_readShafts⟩ ⟨Nat.le_of_ble_eq_true rfl, Nat.le_of_ble_eq_true rfl⟩ rfl rfl (Nat.le_of_ble_eq_true rfl) rfl (by decide +kernel) rfl (by decide +kernel) (by decide +kernel) ⟨Nat.zero_le _, Nat.zero_le _⟩ rfl (by decide +kernel) dX5_readFrom_135 rfl ?_
  cases Option.some.inj h
  exact hret _ _ dX5_readFrom_138
set_option maxHeartbeats 4000000 in
set_option maxRecDepth 100000 in
theorem t_X5_readFrom_b14 {l : Launch} {D : va_G} {cA : ClassId} {p : Program} {e : Env} {s : State} {m : MethodId} {args : Array Value} {below : List Frame} {meth : Method} {c : Code} {A : Nat → Prop} {Q : State → Prop} {z : Int32 × Int32 × Int32 × A32 × A32 × A32 × A32} {a_me a_q1 a_one a_two a_length a_draught a_one_cells a_two_cells a_length_cells a_draught_cells a_q1_letters a_q1_reader a_q1_letters_cells : Nat}   {c_shafts : Int32} {c_draught : A32} {c_q1_length : Int32} {c_q1_letters : A32}  (X : GX p s m args c cX5_readFrom RX5 wsX5_readFrom D cA A 4) (hret : RtV p l e rm_X5_readFrom s m args below meth c cX5_readFrom D A 4 0 0 Q (w_X5_readFrom cA a_me a_q1 a_one a_two a_length a_draught a_one_cells a_two_cells a_length_cells a_draught_cells a_q1_letters a_q1_reader a_q1_letters_cells z.1 z.2.1 z.2.2.1 z.2.2.2.1 z.2.2.2.2.1 z.2.2.2.2.2.1 z.2.2.2.2.2.2 c_q1_length c_q1_letters))  : ∀ (fu : Nat) (c_galleries : Int32) (c_doors : Int32) (c_one : A32) (c_two : A32) (c_length : A32) (v2 : Int32) (v3 : Int32), f_X5_readFrom_b14 c_shafts c_draught c_q1_length c_q1_letters fu c_galleries c_doors c_one c_two c_length v2 v3 = some z → G p l e rm_X5_readFrom s m args below meth c D A 4 0 0 Q 14 [(0, .ref a_me), (1, .ref a_q1), (2, .int v2), (3, .int v3)] [] (w_X5_readFrom cA a_me a_q1 a_one a_two a_length a_draught a_one_cells a_two_cells a_length_cells a_draught_cells a_q1_letters a_q1_reader a_q1_letters_cells c_galleries c_doors c_shafts c_one c_two c_length c_draught c_q1_length c_q1_letters) := by
  intro fu
  induction fu with
  | zero => intro c_galleries c_doors c_one c_two c_length v2 v3 h; exact absurd (show (none : Option (Int32 × Int32 × Int32 × A32 × A32 × A32 × A32)) = some z from h) (by simp)
  | succ fu ih =>
    intro c_galleries c_doors c_one c_two c_length v2 v3 h
    have h : (if 10 ≤ v3 then f_X5_readFrom_b132 c_galleries c_doors c_shafts c_one c_two c_length c_draught c_q1_length c_q1_letters v2 else if v2 = 0 then f_X5_readFrom_b39 (f_X5_readFrom_b14 c_shafts c_draught c_q1_length c_q1_letters fu) c_galleries c_doors c_shafts c_one c_two c_length c_draught c_q1_length c_q1_letters v2 v3 else Option.bind (f_X8_get 66 c_q1_letters (v2 - 1)) fun z_3 => if z_3 = 44 then f_X5_readFrom_b39 (f_X5_readFrom_b14 c_shafts c_draught c_q1_length c_q1_letters fu) c_galleries c_doors c_shafts c_one c_two c_length c_draught c_q1_length c_q1_letters v2 v3 else f_X5_readFrom_b132 c_galleries c_doors c_shafts c_one c_two c_length c_draught c_q1_length c_q1_letters v2 : Option (Int32 × Int32 × Int32 × A32 × A32 × A32 × A32)) = some z := h
    refine g_iload_n X 3 rfl rfl dX5_readFrom_14 rfl ?_
    refine g_bipush (v := 10) X dX5_readFrom_15 (by decide) rfl ?_
    refine g_icmp_ge (tgt := 132) X dX5_readFrom_17 (by decide) rfl h (fun c_1 h => ?_) (fun c_1 h => ?_)
    · refine g_lvs [0, 1, 2] rfl ?_
      exact t_X5_readFrom_b132 X hret h
    · refine g_iload_n X 2 rfl rfl dX5_readFrom_20 rfl ?_
      refine g_if_eq (tgt := 39) X dX5_readFrom_21 (by decide) rfl h (fun c_2 h => ?_) (fun c_2 h => ?_)
      · exact t_X5_readFrom_b39 X hret ih h
      · refine g_aload_n X 1 rfl rfl dX5_readFrom_24 rfl ?_
        refine g_getf (C := RX4) (T := TX4) (N := 3) (v := .ref a_q1_letters) X 9 rfl vc_X4 0 (by decide) iw_X5_readFrom_X4 fl_X5_readFrom_X4_0 rfl rfl dX5_readFrom_25 rfl ?_
        refine g_iload_n X 2 rfl rfl dX5_readFrom_28 rfl ?_
        refine g_iconst (v := 1) X dX5_readFrom_29 (by decide) rfl ?_
        refine g_isub X dX5_readFrom_30 rfl ?_
        obtain ⟨z_3, hz_3, h⟩ := bnd_s h
        refine g_callVI (rm := rm_X8_get) (As := [.int (v2 - 1)]) (r := z_3) (W0 := (w_X8_get cA a_q1_letters a_q1_letters_cells 66 c_q1_letters)) (W1 := (w_X8_get cA a_q1_letters a_q1_letters_cells 66 c_q1_letters)) (isC := [10, 11]) (isR := [0, 1, 2, 3, 4, 5, 6, 7, 8, 9]) (perm := [0, 1, 2, 3, 4, 5, 6, 7, 8, 9, 10, 11]) (ws' := (w_X5_readFrom cA a_me a_q1 a_one a_two a_length a_draught a_one_cells a_two_cells a_length_cells a_draught_cells a_q1_letters a_q1_reader a_q1_letters_cells c_galleries c_doors c_shafts c_one c_two c_length c_draught c_q1_length c_q1_letters)) X (c_X8_get l D cA a_q1_letters a_q1_letters_cells 66 c_q1_letters (v2 - 1) _ hz_3) 10 rfl rfl rfl gX5_readFrom_X8_get rfl rfl rfl ⟨rfl, hd_X8_get⟩ ⟨Nat.le_of_ble_eq_true rfl, Nat.le_of_ble_eq_true rfl⟩ rfl rfl (Nat.le_of_ble_eq_true rfl) rfl (by decide +kernel) rfl (by decide +kernel) (by decide +kernel) ⟨Nat.zero_le _, Nat.zero_le _⟩ rfl (by decide +kernel) dX5_readFrom_31 rfl ?_
        refine g_bipush (v := 44) X dX5_readFrom_34 (by decide) rfl ?_
        refine g_icmp_ne (tgt := 132) X dX5_readFrom_36 (by decide) rfl h (fun c_4 h => ?_) (fun c_4 h => ?_)
        · refine g_lvs [0, 1, 2] rfl ?_
          exact t_X5_readFrom_b132 X hret h
        · exact t_X5_readFrom_b39 X hret ih h
set_option maxHeartbeats 4000000 in
set_option maxRecDepth 100000 in
theorem c_X5_readFrom (l : Launch) (D : va_G) (cA : ClassId) (a_me a_q1 a_one a_two a_length a_draught a_one_cells a_two_cells a_length_cells a_draught_cells a_q1_letters a_q1_reader a_q1_letters_cells : Nat)  (c_galleries : Int32) (c_doors : Int32) (c_shafts : Int32) (c_one : A32) (c_two : A32) (c_length : A32) (c_draught : A32) (c_q1_length : Int32) (c_q1_letters : A32) (z : Int32 × Int32 × Int32 × A32 × A32 × A32 × A32) (h : f_X5_readFrom c_galleries c_doors c_shafts c_one c_two c_length c_draught c_q1_length c_q1_letters = some z) : CtV l yX5_readFrom wsX5_readFrom rm_X5_readFrom D cA [.ref a_me, .ref a_q1] (w_X5_readFrom cA a_me a_q1 a_one a_two a_length a_draught a_one_cells a_two_cells a_length_cells a_draught_cells a_q1_letters a_q1_reader a_q1_letters_cells c_galleries c_doors c_shafts c_one c_two c_length c_draught c_q1_length c_q1_letters) Unit (fun _ => (w_X5_readFrom cA a_me a_q1 a_one a_two a_length a_draught a_one_cells a_two_cells a_length_cells a_draught_cells a_q1_letters a_q1_reader a_q1_letters_cells z.1 z.2.1 z.2.2.1 z.2.2.2.1 z.2.2.2.2.1 z.2.2.2.2.2.1 z.2.2.2.2.2.2 c_q1_length c_q1_letters)) 0 0 := by
  refine ct_V (maxL := 4) (cc := cX5_readFrom) (by decide) rfl (Nat.le_of_ble_eq_true rfl) rfl (fun p e s m args below meth c A Q X _ hret => ?_)
  have hret := hret ()
  have h : (f_X5_readFrom_b14 c_shafts c_draught c_q1_length c_q1_letters FU 0 0 c_one c_two c_length 0 0 : Option (Int32 × Int32 × Int32 × A32 × A32 × A32 × A32)) = some z := h
  refine g_aload_n X 0 rfl rfl dX5_readFrom_0 rfl ?_
  refine g_iconst (v := 0) X dX5_readFrom_1 (by decide) rfl ?_
  refine g_putf (C := RX5) (T := TX5) (N := 7) (ty := .int) (ws' := (w_X5_readFrom cA a_me a_q1 a_one a_two a_length a_draught a_one_cells a_two_cells a_length_cells a_draught_cells a_q1_letters a_q1_reader a_q1_letters_cells 0 c_doors c_shafts c_one c_two c_length c_draught c_q1_length c_q1_letters)) X 0 tyX5 tyX5_ok nmX5 rfl vc_X5 0 (by decide) iw_X5_readFrom_X5 fl_X5_readFrom_X5_0 rfl rfl pd_X5_0 rfl rfl (Nat.le_of_ble_eq_true rfl) rfl dX5_readFrom_2 rfl ?_
  refine g_aload_n X 0 rfl rfl dX5_readFrom_5 rfl ?_
  refine g_iconst (v := 0) X dX5_readFrom_6 (by decide) rfl ?_
  refine g_putf (C := RX5) (T := TX5) (N := 7) (ty := .int) (ws' := (w_X5_readFrom cA a_me a_q1 a_one a_two a_length a_draught a_one_cells a_two_cells a_length_cells a_draught_cells a_q1_letters a_q1_reader a_q1_letters_cells 0 0 c_shafts c_one c_two c_length c_draught c_q1_length c_q1_letters)) X 0 tyX5 tyX5_ok nmX5 rfl vc_X5 4 (by decide) iw_X5_readFrom_X5 fl_X5_readFrom_X5_4 rfl rfl pd_X5_4 rfl rfl (Nat.le_of_ble_eq_true rfl) rfl dX5_readFrom_7 rfl ?_
  refine g_iconst (v := 0) X dX5_readFrom_10 (by decide) rfl ?_
  refine g_istore_n (lv' := [(2, .int 0), (0, .ref a_me), (1, .ref a_q1)]) X rfl (by decide) rfl dX5_readFrom_11 rfl ?_
  refine g_iconst (v := 0) X dX5_readFrom_12 (by decide) rfl ?_
  refine g_istore_n (lv' := [(3, .int 0), (2, .int 0), (0, .ref a_me), (1, .ref a_q1)]) X rfl (by decide) rfl dX5_readFrom_13 rfl ?_
  refine g_lvs [2, 3, 1, 0] rfl ?_
  exact t_X5_readFrom_b14 X hret _ _ _ _ _ _ _ _ h
abbrev rm_X5_isAt : Room := { frames := 1, cells := 0, slots := 0, locals := 21 }
theorem hd_X5_isAt : yX5_isAt.cls ≠ "java/lang/invoke/MethodHandle" ∧ yX5_isAt.cls ≠ "java/lang/invoke/VarHandle" ∧ (parseMethodDescriptor yX5_isAt.desc).map (fun d => d.parameters.length) = some 2 := by decide +kernel
theorem iw_X5_isAt_X5 : ∀ w ∈ wsX50, w ∈ wsX5_isAt := fun w h => List.mem_cons_of_mem _ (List.mem_append_left _ (List.mem_append_right _ h))
theorem fl_X5_isAt_X5_1 : Cond.fieldLink RX5 14 RX5 (TX5 1).2.1 (TX5 1).2.2.1 ∈ wsX5_isAt := List.mem_of_getElem? (i := 1) rfl
theorem fl_X5_isAt_X5_2 : Cond.fieldLink RX5 20 RX5 (TX5 2).2.1 (TX5 2).2.2.1 ∈ wsX5_isAt := List.mem_of_getElem? (i := 2) rfl
abbrev w_X5_isAt (cA : ClassId) (a_me a_one a_two a_length a_draught a_one_cells a_two_cells : Nat) (u_galleries : Int32) (u_doors : Int32) (u_shafts : Int32) (c_one : A32) (c_two : A32) : va_W := [(a_me, .inr (5, [.int u_galleries, .ref a_one, .ref a_two, .ref a_length, .int u_doors, .ref a_draught, .int u_shafts])), (a_one, .inr (8, [.ref a_one_cells])), (a_one_cells, .inl (cA, 10, .inl c_one)), (a_two, .inr (8, [.ref a_two_cells])), (a_two_cells, .inl (cA, 10, .inl c_two))]
set_option maxHeartbeats 4000000 in
set_option maxRecDepth 100000 in
theorem t_X5_isAt_b24 {l : Launch} {D : va_G} {cA : ClassId} {p : Program} {e : Env} {s : State} {m : MethodId} {args : Array Value} {below : List Frame} {meth : Method} {c : Code} {A : Nat → Prop} {Q : State → Prop} {z : Int32} {a_me a_one a_two a_length a_draught a_one_cells a_two_cells : Nat} {u_galleries : Int32} {u_doors : Int32} {u_shafts : Int32} {c_one : A32} {c_two : A32}   (X : GX p s m args c cX5_isAt RX5 wsX5_isAt D cA A 3) (hret : RtI p l e rm_X5_isAt s m args below meth c cX5_isAt D A 3 0 0 Q .boolean z (w_X5_isAt cA a_me a_one a_two a_length a_draught a_one_cells a_two_cells u_galleries u_doors u_shafts c_one c_two))  (h : f_X5_isAt_b24  = some z) : G p l e rm_X5_isAt s m args below meth c D A 3 0 0 Q 24 [] [] (w_X5_isAt cA a_me a_one a_two a_length a_draught a_one_cells a_two_cells u_galleries u_doors u_shafts c_one c_two) := by
  have h : (some 1 : Option (Int32)) = some z := h
  refine g_iconst (v := 1) X dX5_isAt_24 (by decide) rfl ?_
  refine g_goto (tgt := 29) X dX5_isAt_25 (by decide) ?_
  cases Option.some.inj h
  exact hret _ _ dX5_isAt_29 (nar_z (Or.inr rfl))
set_option maxHeartbeats 4000000 in
set_option maxRecDepth 100000 in
theorem c_X5_isAt (l : Launch) (D : va_G) (cA : ClassId) (a_me a_one a_two a_length a_draught a_one_cells a_two_cells : Nat) (u_galleries : Int32) (u_doors : Int32) (u_shafts : Int32) (c_one : A32) (c_two : A32) (v1 : Int32) (v2 : Int32) (z : Int32) (h : f_X5_isAt c_one c_two v1 v2 = some z) : CtI l yX5_isAt wsX5_isAt rm_X5_isAt D cA [.ref a_me, .int v1, .int v2] (w_X5_isAt cA a_me a_one a_two a_length a_draught a_one_cells a_two_cells u_galleries u_doors u_shafts c_one c_two) z (w_X5_isAt cA a_me a_one a_two a_length a_draught a_one_cells a_two_cells u_galleries u_doors u_shafts c_one c_two) := by
  refine ct_I (maxL := 3) (ty := .boolean) (cc := cX5_isAt) (by decide) rfl (Nat.le_of_ble_eq_true rfl) rfl (fun p e s m args below meth c A Q X hret => ?_)
  have h : (Option.bind (f_X8_get 10 c_one v1) fun z_1 => if z_1 = v2 then f_X5_isAt_b24  else Option.bind (f_X8_get 10 c_two v1) fun z_3 => if z_3 = v2 then f_X5_isAt_b24  else some 0 : Option (Int32)) = some z := h
  refine g_aload_n X 0 rfl rfl dX5_isAt_0 rfl ?_
  refine g_getf (C := RX5) (T := TX5) (N := 7) (v := .ref a_one) X 0 rfl vc_X5 1 (by decide) iw_X5_isAt_X5 fl_X5_isAt_X5_1 rfl rfl dX5_isAt_1 rfl ?_
  refine g_iload_n X 1 rfl rfl dX5_isAt_4 rfl ?_
  obtain ⟨z_1, hz_1, h⟩ := bnd_s h
  refine g_callVI (rm := rm_X8_get) (As := [.int v1]) (r := z_1) (W0 := (w_X8_get cA a_one a_one_cells 10 c_one)) (W1 := (w_X8_get cA a_one a_one_cells 10 c_one)) (isC := [1, 2]) (isR := [0, 3, 4]) (perm := [0, 3, 4, 1, 2]) (ws' := (w_X5_isAt cA a_me a_one a_two a_length a_draught a_one_cells a_two_cells u_galleries u_doors u_shafts c_one c_two)) X (c_X8_get l D cA a_one a_one_cells 10 c_one v1 _ hz_1) 1 rfl rfl rfl gX5_isAt_X8_get rfl rfl rfl ⟨rfl, hd_X8_get⟩ ⟨Nat.le_of_ble_eq_true rfl, Nat.le_of_ble_eq_true rfl⟩ rfl rfl (Nat.le_of_ble_eq_true rfl) rfl (by decide +kernel) rfl (by decide +kernel) (by decide +kernel) ⟨Nat.zero_le _, Nat.zero_le _⟩ rfl (by decide +kernel) dX5_isAt_5 rfl ?_
  refine g_iload_n X 2 rfl rfl dX5_isAt_8 rfl ?_
  refine g_icmp_eq (tgt := 24) X dX5_isAt_9 (by decide) rfl h (fun c_2 h => ?_) (fun c_2 h => ?_)
  · refine g_lvs [] rfl ?_
    exact t_X5_isAt_b24 X hret h
  · refine g_aload_n X 0 rfl rfl dX5_isAt_12 rfl ?_
    refine g_getf (C := RX5) (T := TX5) (N := 7) (v := .ref a_two) X 0 rfl vc_X5 2 (by decide) iw_X5_isAt_X5 fl_X5_isAt_X5_2 rfl rfl dX5_isAt_13 rfl ?_
    refine g_iload_n X 1 rfl rfl dX5_isAt_16 rfl ?_
    obtain ⟨z_3, hz_3, h⟩ := bnd_s h
    refine g_callVI (rm := rm_X8_get) (As := [.int v1]) (r := z_3) (W0 := (w_X8_get cA a_two a_two_cells 10 c_two)) (W1 := (w_X8_get cA a_two a_two_cells 10 c_two)) (isC := [3, 4]) (isR := [0, 1, 2]) (perm := [0, 1, 2, 3, 4]) (ws' := (w_X5_isAt cA a_me a_one a_two a_length a_draught a_one_cells a_two_cells u_galleries u_doors u_shafts c_one c_two)) X (c_X8_get l D cA a_two a_two_cells 10 c_two v1 _ hz_3) 3 rfl rfl rfl gX5_isAt_X8_get rfl rfl rfl ⟨rfl, hd_X8_get⟩ ⟨Nat.le_of_ble_eq_true rfl, Nat.le_of_ble_eq_true rfl⟩ rfl rfl (Nat.le_of_ble_eq_true rfl) rfl (by decide +kernel) rfl (by decide +kernel) (by decide +kernel) ⟨Nat.zero_le _, Nat.zero_le _⟩ rfl (by decide +kernel) dX5_isAt_17 rfl ?_
    refine g_iload_n X 2 rfl rfl dX5_isAt_20 rfl ?_
    refine g_icmp_ne (tgt := 28) X dX5_isAt_21 (by decide) rfl h (fun c_4 h => ?_) (fun c_4 h => ?_)
    · refine g_iconst (v := 0) X dX5_isAt_28 (by decide) rfl ?_
      cases Option.some.inj h
      exact hret _ _ dX5_isAt_29 (nar_z (Or.inl rfl))
    · refine g_lvs [] rfl ?_
      exact t_X5_isAt_b24 X hret h
abbrev rm_X5_galleriesAt : Room := { frames := 2, cells := 0, slots := 0, locals := 43 }
theorem hd_X5_galleriesAt : yX5_galleriesAt.cls ≠ "java/lang/invoke/MethodHandle" ∧ yX5_galleriesAt.cls ≠ "java/lang/invoke/VarHandle" ∧ (parseMethodDescriptor yX5_galleriesAt.desc).map (fun d => d.parameters.length) = some 2 := by decide +kernel
theorem iw_X5_galleriesAt_X5 : ∀ w ∈ wsX50, w ∈ wsX5_galleriesAt := fun w h => List.mem_cons_of_mem _ (List.mem_append_left _ (List.mem_append_right _ h))
theorem fl_X5_galleriesAt_X5_0 : Cond.fieldLink RX5 29 RX5 (TX5 0).2.1 (TX5 0).2.2.1 ∈ wsX5_galleriesAt := List.mem_of_getElem? (i := 1) rfl
abbrev w_X5_galleriesAt (cA : ClassId) (a_me a_one a_two a_length a_draught a_one_cells a_two_cells : Nat) (u_doors : Int32) (u_shafts : Int32) (c_galleries : Int32) (c_one : A32) (c_two : A32) : va_W := [(a_me, .inr (5, [.int c_galleries, .ref a_one, .ref a_two, .ref a_length, .int u_doors, .ref a_draught, .int u_shafts])), (a_one, .inr (8, [.ref a_one_cells])), (a_one_cells, .inl (cA, 10, .inl c_one)), (a_two, .inr (8, [.ref a_two_cells])), (a_two_cells, .inl (cA, 10, .inl c_two))]
set_option maxHeartbeats 4000000 in
set_option maxRecDepth 100000 in
theorem t_X5_galleriesAt_b33 {l : Launch} {D : va_G} {cA : ClassId} {p : Program} {e : Env} {s : State} {m : MethodId} {args : Array Value} {below : List Frame} {meth : Method} {c : Code} {A : Nat → Prop} {Q : State → Prop} {z : Int32} {a_me a_one a_two a_length a_draught a_one_cells a_two_cells : Nat} {u_doors : Int32} {u_shafts : Int32}  {c_galleries : Int32} {c_one : A32} {c_two : A32} {v1 : Int32} {v2 : Int32} {v3 : Int32} {v4 : Int32} {k5 : Int32 → Int32 → Option (Int32)} (X : GX p s m args c cX5_galleriesAt RX5 wsX5_galleriesAt D cA A 5) (hret : RtI p l e rm_X5_galleriesAt s m args below meth c cX5_galleriesAt D A 5 0 0 Q .int z (w_X5_galleriesAt cA a_me a_one a_two a_length a_draught a_one_cells a_two_cells u_doors u_shafts c_galleries c_one c_two)) (hk5 : ∀ (v3 : Int32) (v4 : Int32), k5 v3 v4 = some z → G p l e rm_X5_galleriesAt s m args below meth c D A 5 0 0 Q 5 [(0, .ref a_me), (1, .int v1), (2, .int v2), (3, .int v3), (4, .int v4)] [] (w_X5_galleriesAt cA a_me a_one a_two a_length a_draught a_one_cells a_two_cells u_doors u_shafts c_galleries c_one c_two)) (h : f_X5_galleriesAt_b33 k5 c_galleries c_one c_two v1 v2 v3 v4 = some z) : G p l e rm_X5_galleriesAt s m args below meth c D A 5 0 0 Q 33 [(0, .ref a_me), (1, .int v1), (2, .int v2), (3, .int v3), (4, .int v4)] [] (w_X5_galleriesAt cA a_me a_one a_two a_length a_draught a_one_cells a_two_cells u_doors u_shafts c_galleries c_one c_two) := by
  have h : (nam (v4 + 1) fun v4_1 => k5 v3 v4_1 : Option (Int32)) = some z := h
  obtain ⟨v4_1, ev4_1, h⟩ := nam_s h
  refine g_iinc (v := v4_1) (lv' := [(4, .int v4_1), (0, .ref a_me), (1, .int v1), (2, .int v2), (3, .int v3)]) X 4 rfl (by rw [ev4_1]; rfl) (by decide) rfl dX5_galleriesAt_33 rfl ?_
  refine g_goto (tgt := 5) X dX5_galleriesAt_36 (by decide) ?_
  refine g_lvs [1, 2, 3, 4, 0] rfl ?_
  exact hk5 _ _ h
set_option maxHeartbeats 4000000 in
set_option maxRecDepth 100000 in
theorem t_X5_galleriesAt_b5 {l : Launch} {D : va_G} {cA : ClassId} {p : Program} {e : Env} {s : State} {m : MethodId} {args : Array Value} {below : List Frame} {meth : Method} {c : Code} {A : Nat → Prop} {Q : State → Prop} {z : Int32} {a_me a_one a_two a_length a_draught a_one_cells a_two_cells : Nat} {u_doors : Int32} {u_shafts : Int32}  {c_galleries : Int32} {c_one : A32} {c_two : A32} {v1 : Int32} {v2 : Int32}  (X : GX p s m args c cX5_galleriesAt RX5 wsX5_galleriesAt D cA A 5) (hret : RtI p l e rm_X5_galleriesAt s m args below meth c cX5_galleriesAt D A 5 0 0 Q .int z (w_X5_galleriesAt cA a_me a_one a_two a_length a_draught a_one_cells a_two_cells u_doors u_shafts c_galleries c_one c_two))  : ∀ (fu : Nat) (v3 : Int32) (v4 : Int32), f_X5_galleriesAt_b5 c_galleries c_one c_two v1 v2 fu v3 v4 = some z → G p l e rm_X5_galleriesAt s m args below meth c D A 5 0 0 Q 5 [(0, .ref a_me), (1, .int v1), (2, .int v2), (3, .int v3), (4, .int v4)] [] (w_X5_galleriesAt cA a_me a_one a_two a_length a_draught a_one_cells a_two_cells u_doors u_shafts c_galleries c_one c_two) := by
  intro fu
  induction fu with
  | zero => intro v3 v4 h; exact absurd (show (none : Option (Int32)) = some z from h) (by simp)
  | succ fu ih =>
    intro v3 v4 h
    have h : (if c_galleries ≤ v4 then some v3 else Option.bind (f_X5_isAt c_one c_two v4 v1) fun z_2 => if z_2 = 0 then f_X5_galleriesAt_b33 (f_X5_galleriesAt_b5 c_galleries c_one c_two v1 v2 fu) c_galleries c_one c_two v1 v2 v3 v4 else nam (v3 ||| (v2 &&& (1 <<< (v4 &&& 31)))) fun v3_4 => f_X5_galleriesAt_b33 (f_X5_galleriesAt_b5 c_galleries c_one c_two v1 v2 fu) c_galleries c_one c_two v1 v2 v3_4 v4 : Option (Int32)) = some z := h
    refine g_iload X 4 rfl dX5_galleriesAt_5 rfl ?_
    refine g_aload_n X 0 rfl rfl dX5_galleriesAt_7 rfl ?_
    refine g_getf (C := RX5) (T := TX5) (N := 7) (v := .int c_galleries) X 0 rfl vc_X5 0 (by decide) iw_X5_galleriesAt_X5 fl_X5_galleriesAt_X5_0 rfl rfl dX5_galleriesAt_8 rfl ?_
    refine g_icmp_ge (tgt := 39) X dX5_galleriesAt_11 (by decide) rfl h (fun c_1 h => ?_) (fun c_1 h => ?_)
    · refine g_iload_n X 3 rfl rfl dX5_galleriesAt_39 rfl ?_
      cases Option.some.inj h
      exact hret _ _ dX5_galleriesAt_40 rfl
    · refine g_aload_n X 0 rfl rfl dX5_galleriesAt_14 rfl ?_
      refine g_iload X 4 rfl dX5_galleriesAt_15 rfl ?_
      refine g_iload_n X 1 rfl rfl dX5_galleriesAt_17 rfl ?_
      obtain ⟨z_2, hz_2, h⟩ := bnd_s h
      refine g_callVI (rm := rm_X5_isAt) (As := [.int v4, .int v1]) (r := z_2) (W0 := (w_X5_isAt cA a_me a_one a_two a_length a_draught a_one_cells a_two_cells c_galleries u_doors u_shafts c_one c_two)) (W1 := (w_X5_isAt cA a_me a_one a_two a_length a_draught a_one_cells a_two_cells c_galleries u_doors u_shafts c_one c_two)) (isC := [0, 1, 2, 3, 4]) (isR := []) (perm := [0, 1, 2, 3, 4]) (ws' := (w_X5_galleriesAt cA a_me a_one a_two a_length a_draught a_one_cells a_two_cells u_doors u_shafts c_galleries c_one c_two)) X (c_X5_isAt l D cA a_me a_one a_two a_length a_draught a_one_cells a_two_cells c_galleries u_doors u_shafts c_one c_two v4 v1 _ hz_2) 0 rfl rfl rfl gX5_galleriesAt_X5_isAt rfl rfl rfl ⟨rfl, hd_X5_isAt⟩ ⟨Nat.le_of_ble_eq_true rfl, Nat.le_of_ble_eq_true rfl⟩ rfl rfl (Nat.le_of_ble_eq_true rfl) rfl (by decide +kernel) rfl (by decide +kernel) (by decide +kernel) ⟨Nat.zero_le _, Nat.zero_le _⟩ rfl (by decide +kernel) dX5_galleriesAt_18 rfl ?_
      refine g_if_eq (tgt := 33) X dX5_galleriesAt_21 (by decide) rfl h (fun c_3 h => ?_) (fun c_3 h => ?_)
      · exact t_X5_galleriesAt_b33 X hret ih h
      · refine g_iload_n X 3 rfl rfl dX5_galleriesAt_24 rfl ?_
        refine g_iload_n X 2 rfl rfl dX5_galleriesAt_25 rfl ?_
        refine g_iconst (v := 1) X dX5_galleriesAt_26 (by decide) rfl ?_
        refine g_iload X 4 rfl dX5_galleriesAt_27 rfl ?_
        refine g_ishl X dX5_galleriesAt_29 rfl ?_
        refine g_iand X dX5_galleriesAt_30 rfl ?_
        refine g_ior X dX5_galleriesAt_31 rfl ?_
        refine g_nami h (fun v3_4 h => ?_)
        refine g_istore_n (lv' := [(3, .int v3_4), (0, .ref a_me), (1, .int v1), (2, .int v2), (4, .int v4)]) X rfl (by decide) rfl dX5_galleriesAt_32 rfl ?_
        refine g_lvs [1, 2, 3, 0, 4] rfl ?_
        exact t_X5_galleriesAt_b33 X hret ih h
set_option maxHeartbeats 4000000 in
set_option maxRecDepth 100000 in
theorem c_X5_galleriesAt (l : Launch) (D : va_G) (cA : ClassId) (a_me a_one a_two a_length a_draught a_one_cells a_two_cells : Nat) (u_doors : Int32) (u_shafts : Int32) (c_galleries : Int32) (c_one : A32) (c_two : A32) (v1 : Int32) (v2 : Int32) (z : Int32) (h : f_X5_galleriesAt c_galleries c_one c_two v1 v2 = some z) : CtI l yX5_galleriesAt wsX5_galleriesAt rm_X5_galleriesAt D cA [.ref a_me, .int v1, .int v2] (w_X5_galleriesAt cA a_me a_one a_two a_length a_draught a_one_cells a_two_cells u_doors u_shafts c_galleries c_one c_two) z (w_X5_galleriesAt cA a_me a_one a_two a_length a_draught a_one_cells a_two_cells u_doors u_shafts c_galleries c_one c_two) := by
  refine ct_I (maxL := 5) (ty := .int) (cc := cX5_galleriesAt) (by decide) rfl (Nat.le_of_ble_eq_true rfl) rfl (fun p e s m args below meth c A Q X hret => ?_)
  have h : (f_X5_galleriesAt_b5 c_galleries c_one c_two v1 v2 FU 0 0 : Option (Int32)) = some z := h
  refine g_iconst (v := 0) X dX5_galleriesAt_0 (by decide) rfl ?_
  refine g_istore_n (lv' := [(3, .int 0), (0, .ref a_me), (1, .int v1), (2, .int v2)]) X rfl (by decide) rfl dX5_galleriesAt_1 rfl ?_
  refine g_iconst (v := 0) X dX5_galleriesAt_2 (by decide) rfl ?_
  refine g_istore (lv' := [(4, .int 0), (3, .int 0), (0, .ref a_me), (1, .int v1), (2, .int v2)]) X (by decide) rfl dX5_galleriesAt_3 rfl ?_
  refine g_lvs [2, 3, 4, 1, 0] rfl ?_
  exact t_X5_galleriesAt_b5 X hret _ _ _ h
