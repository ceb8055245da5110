abbrev rm_X8_set : Room := { frames := 0, cells := 0, slots := 0, locals := 0 }
theorem hd_X8_set : yX8_set.cls ≠ "java/lang/invoke/MethodHandle" ∧ yX8_set.cls ≠ "java/lang/invoke/VarHandle" ∧ (parseMethodDescriptor yX8_set.desc).map (fun d => d.parameters.length) = some 2 := by decide +kernel
theorem iw_X8_set_X8 : ∀ w ∈ wsX80, w ∈ wsX8_set := fun w h => List.mem_cons_of_mem _ (List.mem_append_right _ h)
theorem fl_X8_set_X8_0 : Cond.fieldLink RX8 7 RX8 (TX8 0).2.1 (TX8 0).2.2.1 ∈ wsX8_set := List.mem_of_getElem? (i := 1) rfl
abbrev w_X8_set (cA : ClassId) (a_me a_cells : Nat) (n_me : Nat) (c_cells : A32) : va_W := [(a_me, .inr (8, [.ref a_cells])), (a_cells, .inl (cA, n_me, .inl c_cells))]
set_option maxHeartbeats 4000000 in
set_option maxRecDepth 100000 in
theorem c_X8_set (l : Launch) (D : va_G) (cA : ClassId) (a_me a_cells : Nat)  (n_me : Nat) (c_cells : A32) (v1 : Int32) (v2 : Int32) (z : A32) (h : f_X8_set n_me c_cells v1 v2 = some z) : CtV l yX8_set wsX8_set rm_X8_set D cA [.ref a_me, .int v1, .int v2] (w_X8_set cA a_me a_cells n_me c_cells) Unit (fun _ => (w_X8_set cA a_me a_cells n_me z)) 0 0 := by
  refine ct_V (maxL := 3) (cc := cX8_set) (by decide) rfl (Nat.le_of_ble_eq_true rfl) rfl (fun p e s m args below meth c A Q X _ hret => ?_)
  have hret := hret ()
  have h : (if v1 < 0 then some c_cells else if (nI n_me) ≤ v1 then some c_cells else if inB v1 n_me then some (upd c_cells (Int32.toNatClampNeg v1) v2) else none : Option (A32)) = some z := h
  refine g_iload_n X 1 rfl rfl dX8_set_0 rfl ?_
  refine g_if_lt (tgt := 20) X dX8_set_1 (by decide) rfl h (fun c_1 h => ?_) (fun c_1 h => ?_)
  · cases Option.some.inj h
    exact hret _ _ dX8_set_20
  · refine g_iload_n X 1 rfl rfl dX8_set_4 rfl ?_
    refine g_aload_n X 0 rfl rfl dX8_set_5 rfl ?_
    refine g_getf (C := RX8) (T := TX8) (N := 1) (v := .ref a_cells) X 0 rfl vc_X8 0 (by decide) iw_X8_set_X8 fl_X8_set_X8_0 rfl rfl dX8_set_6 rfl ?_
    refine g_alen X 1 rfl dX8_set_9 rfl ?_
    refine g_icmp_ge (tgt := 20) X dX8_set_10 (by decide) rfl h (fun c_2 h => ?_) (fun c_2 h => ?_)
    · cases Option.some.inj h
      exact hret _ _ dX8_set_20
    · refine g_aload_n X 0 rfl rfl dX8_set_13 rfl ?_
      refine g_getf (C := RX8) (T := TX8) (N := 1) (v := .ref a_cells) X 0 rfl vc_X8 0 (by decide) iw_X8_set_X8 fl_X8_set_X8_0 rfl rfl dX8_set_14 rfl ?_
      refine g_iload_n X 1 rfl rfl dX8_set_17 rfl ?_
      refine g_iload_n X 2 rfl rfl dX8_set_18 rfl ?_
      refine g_iast (ws' := (w_X8_set cA a_me a_cells n_me (upd c_cells (Int32.toNatClampNeg v1) v2))) X 1 rfl rfl dX8_set_19 rfl h (fun h => ?_)
      cases Option.some.inj h
      exact hret _ _ dX8_set_20
abbrev rm_X10_bit : Room := { frames := 0, cells := 0, slots := 0, locals := 0 }
theorem hd_X10_bit : yX10_bit.cls ≠ "java/lang/invoke/MethodHandle" ∧ yX10_bit.cls ≠ "java/lang/invoke/VarHandle" ∧ (parseMethodDescriptor yX10_bit.desc).map (fun d => d.parameters.length) = some 2 := by decide +kernel
set_option maxHeartbeats 4000000 in
set_option maxRecDepth 100000 in
theorem c_X10_bit (l : Launch) (D : va_G) (cA : ClassId)  (v0 : Int32) (v1 : Int32) (z : Int32) (h : f_X10_bit v0 v1 = some z) : CtI l yX10_bit wsX10_bit rm_X10_bit D cA [.int v0, .int v1] [] z [] := by
  refine ct_I (maxL := 2) (ty := .int) (cc := cX10_bit) (by decide) rfl (Nat.le_of_ble_eq_true rfl) rfl (fun p e s m args below meth c A Q X hret => ?_)
  have h : (some ((v0 >>> (v1 &&& 31)) &&& 1) : Option (Int32)) = some z := h
  refine g_iload_n X 0 rfl rfl dX10_bit_0 rfl ?_
  refine g_iload_n X 1 rfl rfl dX10_bit_1 rfl ?_
  refine g_ishr X dX10_bit_2 rfl ?_
  refine g_iconst (v := 1) X dX10_bit_3 (by decide) rfl ?_
  refine g_iand X dX10_bit_4 rfl ?_
  cases Option.some.inj h
  exact hret _ _ dX10_bit_5 rfl
abbrev rm_X8_get : Room := { frames := 0, cells := 0, slots := 0, locals := 0 }
theorem hd_X8_get : yX8_get.cls ≠ "java/lang/invoke/MethodHandle" ∧ yX8_get.cls ≠ "java/lang/invoke/VarHandle" ∧ (parseMethodDescriptor yX8_get.desc).map (fun d => d.parameters.length) = some 1 := by decide +kernel
theorem iw_X8_get_X8 : ∀ w ∈ wsX80, w ∈ wsX8_get := fun w h => List.mem_cons_of_mem _ (List.mem_append_right _ h)
theorem fl_X8_get_X8_0 : Cond.fieldLink RX8 7 RX8 (TX8 0).2.1 (TX8 0).2.2.1 ∈ wsX8_get := List.mem_of_getElem? (i := 1) rfl
abbrev w_X8_get (cA : ClassId) (a_me a_cells : Nat) (n_me : Nat) (c_cells : A32) : va_W := [(a_me, .inr (8, [.ref a_cells])), (a_cells, .inl (cA, n_me, .inl c_cells))]
set_option maxHeartbeats 4000000 in
set_option maxRecDepth 100000 in
theorem c_X8_get (l : Launch) (D : va_G) (cA : ClassId) (a_me a_cells : Nat)  (n_me : Nat) (c_cells : A32) (v1 : Int32) (z : Int32) (h : f_X8_get n_me c_cells v1 = some z) : CtI l yX8_get wsX8_get rm_X8_get D cA [.ref a_me, .int v1] (w_X8_get cA a_me a_cells n_me c_cells) z (w_X8_get cA a_me a_cells n_me c_cells) := by
  refine ct_I (maxL := 2) (ty := .int) (cc := cX8_get) (by decide) rfl (Nat.le_of_ble_eq_true rfl) rfl (fun p e s m args below meth c A Q X hret => ?_)
  have h : (if v1 < 0 then some 0 else if (nI n_me) ≤ v1 then some 0 else if inB v1 n_me then some (c_cells v1.toNatClampNeg) else none : Option (Int32)) = some z := h
  refine g_iload_n X 1 rfl rfl dX8_get_0 rfl ?_
  refine g_if_lt (tgt := 22) X dX8_get_1 (by decide) rfl h (fun c_1 h => ?_) (fun c_1 h => ?_)
  · refine g_iconst (v := 0) X dX8_get_22 (by decide) rfl ?_
    cases Option.some.inj h
    exact hret _ _ dX8_get_23 rfl
  · refine g_iload_n X 1 rfl rfl dX8_get_4 rfl ?_
    refine g_aload_n X 0 rfl rfl dX8_get_5 rfl ?_
    refine g_getf (C := RX8) (T := TX8) (N := 1) (v := .ref a_cells) X 0 rfl vc_X8 0 (by decide) iw_X8_get_X8 fl_X8_get_X8_0 rfl rfl dX8_get_6 rfl ?_
    refine g_alen X 1 rfl dX8_get_9 rfl ?_
    refine g_icmp_ge (tgt := 22) X dX8_get_10 (by decide) rfl h (fun c_2 h => ?_) (fun c_2 h => ?_)
    · refine g_iconst (v := 0) X dX8_get_22 (by decide) rfl ?_
      cases Option.some.inj h
      exact hret _ _ dX8_get_23 rfl
    · refine g_aload_n X 0 rfl rfl dX8_get_13 rfl ?_
      refine g_getf (C := RX8) (T := TX8) (N := 1) (v := .ref a_cells) X 0 rfl vc_X8 0 (by decide) iw_X8_get_X8 fl_X8_get_X8_0 rfl rfl dX8_get_14 rfl ?_
      refine g_iload_n X 1 rfl rfl dX8_get_17 rfl ?_
      refine g_iald X 1 rfl dX8_get_18 rfl h (fun h => ?_)
      refine g_goto (tgt := 23) X dX8_get_19 (by decide) ?_
      cases Option.some.inj h
      exact hret _ _ dX8_get_23 rfl
abbrev rm_J6_bitCount_0f7a4 : Room := { frames := 0, cells := 0, slots := 0, locals := 0 }
theorem hd_J6_bitCount_0f7a4 : yJ6_bitCount_0f7a4.cls ≠ "java/lang/invoke/MethodHandle" ∧ yJ6_bitCount_0f7a4.cls ≠ "java/lang/invoke/VarHandle" ∧ (parseMethodDescriptor yJ6_bitCount_0f7a4.desc).map (fun d => d.parameters.length) = some 1 := by decide +kernel
set_option maxHeartbeats 4000000 in
set_option maxRecDepth 100000 in
theorem c_J6_bitCount_0f7a4 (l : Launch) (D : va_G) (cA : ClassId)  (v0 : Int32) (z : Int32) (h : f_J6_bitCount_0f7a4 v0 = some z) : CtI l yJ6_bitCount_0f7a4 wsJ6_bitCount_0f7a4 rm_J6_bitCount_0f7a4 D cA [.int v0] [] z [] := by
  refine ct_I (maxL := 1) (ty := .int) (cc := cJ6_bitCount_0f7a4) (by decide) rfl (Nat.le_of_ble_eq_true rfl) rfl (fun p e s m args below meth c A Q X hret => ?_)
  have h : (nam (v0 - ((UInt32.toInt32 (Int32.toUInt32 v0 >>> (Int32.toUInt32 1 &&& Int32.toUInt32 31))) &&& 1431655765)) fun v0_1 => nam ((v0_1 &&& 858993459) + ((UInt32.toInt32 (Int32.toUInt32 v0_1 >>> (Int32.toUInt32 2 &&& Int32.toUInt32 31))) &&& 858993459)) fun v0_2 => nam ((v0_2 + (UInt32.toInt32 (Int32.toUInt32 v0_2 >>> (Int32.toUInt32 4 &&& Int32.toUInt32 31)))) &&& 252645135) fun v0_3 => nam (v0_3 + (UInt32.toInt32 (Int32.toUInt32 v0_3 >>> (Int32.toUInt32 8 &&& Int32.toUInt32 31)))) fun v0_4 => nam (v0_4 + (UInt32.toInt32 (Int32.toUInt32 v0_4 >>> (Int32.toUInt32 16 &&& Int32.toUInt32 31)))) fun v0_5 => some (v0_5 &&& 63) : Option (Int32)) = some z := h
  refine g_iload_n X 0 rfl rfl dJ6_bitCount_0f7a4_0 rfl ?_
  refine g_iload_n X 0 rfl rfl dJ6_bitCount_0f7a4_1 rfl ?_
  refine g_iconst (v := 1) X dJ6_bitCount_0f7a4_2 (by decide) rfl ?_
  refine g_iushr X dJ6_bitCount_0f7a4_3 rfl ?_
  refine g_ldcw (v := 1431655765) X (by decide +kernel) dJ6_bitCount_0f7a4_4 rfl ?_
  refine g_iand X dJ6_bitCount_0f7a4_7 rfl ?_
  refine g_isub X dJ6_bitCount_0f7a4_8 rfl ?_
  refine g_nami h (fun v0_1 h => ?_)
  refine g_istore_n (lv' := [(0, .int v0_1)]) X rfl (by decide) rfl dJ6_bitCount_0f7a4_9 rfl ?_
  refine g_iload_n X 0 rfl rfl dJ6_bitCount_0f7a4_10 rfl ?_
  refine g_ldcw (v := 858993459) X (by decide +kernel) dJ6_bitCount_0f7a4_11 rfl ?_
  refine g_iand X dJ6_bitCount_0f7a4_14 rfl ?_
  refine g_iload_n X 0 rfl rfl dJ6_bitCount_0f7a4_15 rfl ?_
  refine g_iconst (v := 2) X dJ6_bitCount_0f7a4_16 (by decide) rfl ?_
  refine g_iushr X dJ6_bitCount_0f7a4_17 rfl ?_
  refine g_ldcw (v := 858993459) X (by decide +kernel) dJ6_bitCount_0f7a4_18 rfl ?_
  refine g_iand X dJ6_bitCount_0f7a4_21 rfl ?_
  refine g_iadd X dJ6_bitCount_0f7a4_22 rfl ?_
  refine g_nami h (fun v0_2 h => ?_)
  refine g_istore_n (lv' := [(0, .int v0_2)]) X rfl (by decide) rfl dJ6_bitCount_0f7a4_23 rfl ?_
  refine g_iload_n X 0 rfl rfl dJ6_bitCount_0f7a4_24 rfl ?_
  refine g_iload_n X 0 rfl rfl dJ6_bitCount_0f7a4_25 rfl ?_
  refine g_iconst (v := 4) X dJ6_bitCount_0f7a4_26 (by decide) rfl ?_
  refine g_iushr X dJ6_bitCount_0f7a4_27 rfl ?_
  refine g_iadd X dJ6_bitCount_0f7a4_28 rfl ?_
  refine g_ldcw (v := 252645135) X (by decide +kernel) dJ6_bitCount_0f7a4_29 rfl ?_
  refine g_iand X dJ6_bitCount_0f7a4_32 rfl ?_
  refine g_nami h (fun v0_3 h => ?_)
  refine g_istore_n (lv' := [(0, .int v0_3)]) X rfl (by decide) rfl dJ6_bitCount_0f7a4_33 rfl ?_
  refine g_iload_n X 0 rfl rfl dJ6_bitCount_0f7a4_34 rfl ?_
  refine g_iload_n X 0 rfl rfl dJ6_bitCount_0f7a4_35 rfl ?_
  refine g_bipush (v := 8) X dJ6_bitCount_0f7a4_36 (by decide) rfl ?_
  refine g_iushr X dJ6_bitCount_0f7a4_38 rfl ?_
  refine g_iadd X dJ6_bitCount_0f7a4_39 rfl ?_
  refine g_nami h (fun v0_4 h => ?_)
  refine g_istore_n (lv' := [(0, .int v0_4)]) X rfl (by decide) rfl dJ6_bitCount_0f7a4_40 rfl ?_
  refine g_iload_n X 0 rfl rfl dJ6_bitCount_0f7a4_41 rfl ?_
  refine g_iload_n X 0 rfl rfl dJ6_bitCount_0f7a4_42 rfl ?_
  refine g_bipush (v := 16) X dJ6_bitCount_0f7a4_43 (by decide) rfl ?_
  refine g_iushr X dJ6_bitCount_0f7a4_45 rfl ?_
  refine g_iadd X dJ6_bitCount_0f7a4_46 rfl ?_
  refine g_nami h (fun v0_5 h => ?_)
  refine g_istore_n (lv' := [(0, .int v0_5)]) X rfl (by decide) rfl dJ6_bitCount_0f7a4_47 rfl ?_
  refine g_iload_n X 0 rfl rfl dJ6_bitCount_0f7a4_48 rfl ?_
  refine g_bipush (v := 63) X dJ6_bitCount_0f7a4_49 (by decide) rfl ?_
  refine g_iand X dJ6_bitCount_0f7a4_51 rfl ?_
  cases Option.some.inj h
  exact hret _ _ dJ6_bitCount_0f7a4_52 rfl
abbrev rm_X8_fill : Room := { frames := 0, cells := 0, slots := 0, locals := 0 }
theorem hd_X8_fill : yX8_fill.cls ≠ "java/lang/invoke/MethodHandle" ∧ yX8_fill.cls ≠ "java/lang/invoke/VarHandle" ∧ (parseMethodDescriptor yX8_fill.desc).map (fun d => d.parameters.length) = some 1 := by decide +kernel
theorem iw_X8_fill_X8 : ∀ w ∈ wsX80, w ∈ wsX8_fill := fun w h => List.mem_cons_of_mem _ (List.mem_append_right _ h)
theorem fl_X8_fill_X8_0 : Cond.fieldLink RX8 7 RX8 (TX8 0).2.1 (TX8 0).2.2.1 ∈ wsX8_fill := List.mem_of_getElem? (i := 1) rfl
abbrev w_X8_fill (cA : ClassId) (a_me a_cells : Nat) (n_me : Nat) (c_cells : A32) : va_W := [(a_me, .inr (8, [.ref a_cells])), (a_cells, .inl (cA, n_me, .inl c_cells))]
set_option maxHeartbeats 4000000 in
set_option maxRecDepth 100000 in
theorem t_X8_fill_b2 {l : Launch} {D : va_G} {cA : ClassId} {p : Program} {e : Env} {s : State} {m : MethodId} {args : Array Value} {below : List Frame} {meth : Method} {c : Code} {A : Nat → Prop} {Q : State → Prop} {z : A32} {a_me a_cells : Nat}   {n_me : Nat} {v1 : Int32}  (X : GX p s m args c cX8_fill RX8 wsX8_fill D cA A 3) (hret : RtV p l e rm_X8_fill s m args below meth c cX8_fill D A 3 0 0 Q (w_X8_fill cA a_me a_cells n_me z))  : ∀ (fu : Nat) (c_cells : A32) (v2 : Int32), f_X8_fill_b2 n_me v1 fu c_cells v2 = some z → G p l e rm_X8_fill s m args below meth c D A 3 0 0 Q 2 [(0, .ref a_me), (1, .int v1), (2, .int v2)] [] (w_X8_fill cA a_me a_cells n_me c_cells) := by
  intro fu
  induction fu with
  | zero => intro c_cells v2 h; exact absurd (show (none : Option (A32)) = some z from h) (by simp)
  | succ fu ih =>
    intro c_cells v2 h
    have h : (if (nI n_me) ≤ v2 then some c_cells else if inB v2 n_me then nam (v2 + 1) fun v2_2 => (f_X8_fill_b2 n_me v1 fu) (upd c_cells (Int32.toNatClampNeg v2) v1) v2_2 else none : Option (A32)) = some z := h
    refine g_iload_n X 2 rfl rfl dX8_fill_2 rfl ?_
    refine g_aload_n X 0 rfl rfl dX8_fill_3 rfl ?_
    refine g_getf (C := RX8) (T := TX8) (N := 1) (v := .ref a_cells) X 0 rfl vc_X8 0 (by decide) iw_X8_fill_X8 fl_X8_fill_X8_0 rfl rfl dX8_fill_4 rfl ?_
    refine g_alen X 1 rfl dX8_fill_7 rfl ?_
    refine g_icmp_ge (tgt := 24) X dX8_fill_8 (by decide) rfl h (fun c_1 h => ?_) (fun c_1 h => ?_)
    · cases Option.some.inj h
      exact hret _ _ dX8_fill_24
    · refine g_aload_n X 0 rfl rfl dX8_fill_11 rfl ?_
      refine g_getf (C := RX8) (T := TX8) (N := 1) (v := .ref a_cells) X 0 rfl vc_X8 0 (by decide) iw_X8_fill_X8 fl_X8_fill_X8_0 rfl rfl dX8_fill_12 rfl ?_
      refine g_iload_n X 2 rfl rfl dX8_fill_15 rfl ?_
      refine g_iload_n X 1 rfl rfl dX8_fill_16 rfl ?_
      refine g_iast (ws' := (w_X8_fill cA a_me a_cells n_me (upd c_cells (Int32.toNatClampNeg v2) v1))) X 1 rfl rfl dX8_fill_17 rfl h (fun h => ?_)
      obtain ⟨v2_2, ev2_2, h⟩ := nam_s h
      refine g_iinc (v := v2_2) (lv' := [(2, .int v2_2), (0, .ref a_me), (1, .int v1)]) X 2 rfl (by rw [ev2_2]; rfl) (by decide) rfl dX8_fill_18 rfl ?_
      refine g_goto (tgt := 2) X dX8_fill_21 (by decide) ?_
      refine g_lvs [1, 2, 0] rfl ?_
      exact ih _ _ h
set_option maxHeartbeats 4000000 in
set_option maxRecDepth 100000 in
theorem c_X8_fill (l : Launch) (D : va_G) (cA : ClassId) (a_me a_cells : Nat)  (n_me : Nat) (c_cells : A32) (v1 : Int32) (z : A32) (h : f_X8_fill n_me c_cells v1 = some z) : CtV l yX8_fill wsX8_fill rm_X8_fill D cA [.ref a_me, .int v1] (w_X8_fill cA a_me a_cells n_me c_cells) Unit (fun _ => (w_X8_fill cA a_me a_cells n_me z)) 0 0 := by
  refine ct_V (maxL := 3) (cc := cX8_fill) (by decide) rfl (Nat.le_of_ble_eq_true rfl) rfl (fun p e s m args below meth c A Q X _ hret => ?_)
  have hret := hret ()
  have h : (f_X8_fill_b2 n_me v1 FU c_cells 0 : Option (A32)) = some z := h
  refine g_iconst (v := 0) X dX8_fill_0 (by decide) rfl ?_
  refine g_istore_n (lv' := [(2, .int 0), (0, .ref a_me), (1, .int v1)]) X rfl (by decide) rfl dX8_fill_1 rfl ?_
  refine g_lvs [1, 2, 0] rfl ?_
  exact t_X8_fill_b2 X hret _ _ _ h
abbrev rm_X9_clear : Room := { frames := 1, cells := 0, slots := 0, locals := 22 }
theorem hd_X9_clear : yX9_clear.cls ≠ "java/lang/invoke/MethodHandle" ∧ yX9_clear.cls ≠ "java/lang/invoke/VarHandle" ∧ (parseMethodDescriptor yX9_clear.desc).map (fun d => d.parameters.length) = some 0 := by decide +kernel
theorem iw_X9_clear_X9 : ∀ w ∈ wsX90, w ∈ wsX9_clear := fun w h => List.mem_cons_of_mem _ (List.mem_append_left _ (List.mem_append_right _ h))
theorem fl_X9_clear_X9_0 : Cond.fieldLink RX9 14 RX9 (TX9 0).2.1 (TX9 0).2.2.1 ∈ wsX9_clear := List.mem_of_getElem? (i := 1) rfl
abbrev w_X9_clear (cA : ClassId) (a_me a_lengths a_lengths_cells : Nat) (c_lengths : A32) : va_W := [(a_me, .inr (9, [.ref a_lengths])), (a_lengths, .inr (8, [.ref a_lengths_cells])), (a_lengths_cells, .inl (cA, 49, .inl c_lengths))]
set_option maxHeartbeats 4000000 in
set_option maxRecDepth 100000 in
theorem t_X9_clear_b10 {l : Launch} {D : va_G} {cA : ClassId} {p : Program} {e : Env} {s : State} {m : MethodId} {args : Array Value} {below : List Frame} {meth : Method} {c : Code} {A : Nat → Prop} {Q : State → Prop} {z : A32} {a_me a_lengths a_lengths_cells : Nat}     (X : GX p s m args c cX9_clear RX9 wsX9_clear D cA A 2) (hret : RtV p l e rm_X9_clear s m args below meth c cX9_clear D A 2 0 0 Q (w_X9_clear cA a_me a_lengths a_lengths_cells z))  : ∀ (fu : Nat) (c_lengths : A32) (v1 : Int32), f_X9_clear_b10  fu c_lengths v1 = some z → G p l e rm_X9_clear s m args below meth c D A 2 0 0 Q 10 [(0, .ref a_me), (1, .int v1)] [] (w_X9_clear cA a_me a_lengths a_lengths_cells c_lengths) := by
  intro fu
  induction fu with
  | zero => intro c_lengths v1 h; exact absurd (show (none : Option (A32)) = some z from h) (by simp)
  | succ fu ih =>
    intro c_lengths v1 h
    have h : (if 7 ≤ v1 then some c_lengths else Option.bind (f_X8_set 49 c_lengths ((v1 * 7) + v1) 0) fun z_2 => nam (v1 + 1) fun v1_3 => (f_X9_clear_b10  fu) z_2 v1_3 : Option (A32)) = some z := h
    refine g_iload_n X 1 rfl rfl dX9_clear_10 rfl ?_
    refine g_bipush (v := 7) X dX9_clear_11 (by decide) rfl ?_
    refine g_icmp_ge (tgt := 36) X dX9_clear_13 (by decide) rfl h (fun c_1 h => ?_) (fun c_1 h => ?_)
    · cases Option.some.inj h
      exact hret _ _ dX9_clear_36
    · refine g_aload_n X 0 rfl rfl dX9_clear_16 rfl ?_
      refine g_getf (C := RX9) (T := TX9) (N := 1) (v := .ref a_lengths) X 0 rfl vc_X9 0 (by decide) iw_X9_clear_X9 fl_X9_clear_X9_0 rfl rfl dX9_clear_17 rfl ?_
      refine g_iload_n X 1 rfl rfl dX9_clear_20 rfl ?_
      refine g_bipush (v := 7) X dX9_clear_21 (by decide) rfl ?_
      refine g_imul X dX9_clear_23 rfl ?_
      refine g_iload_n X 1 rfl rfl dX9_clear_24 rfl ?_
      refine g_iadd X dX9_clear_25 rfl ?_
      refine g_iconst (v := 0) X dX9_clear_26 (by decide) rfl ?_
      obtain ⟨z_2, hz_2, h⟩ := bnd_s h
      refine g_callVV (rm := rm_X8_set) (As := [.int ((v1 * 7) + v1), .int 0]) (W0 := (w_X8_set cA a_lengths a_lengths_cells 49 c_lengths)) (W1 := (w_X8_set cA a_lengths a_lengths_cells 49 z_2)) (isC := [1, 2]) (isR := [0]) (perm := [0, 1, 2]) (ws' := (w_X9_clear cA a_me a_lengths a_lengths_cells z_2)) X (c_X8_set l D cA a_lengths a_lengths_cells 49 c_lengths ((v1 * 7) + v1) 0 _ hz_2) 1 rfl rfl rfl gX9_clear_X8_set rfl rfl rfl ⟨rfl, hd_X8_set⟩ ⟨Nat.le_of_ble_eq_true rfl, Nat.le_of_ble_eq_true rfl⟩ rfl rfl (Nat.le_of_ble_eq_true rfl) rfl (by decide +kernel) rfl (by decide +kernel) (by decide +kernel) ⟨Nat.zero_le _, Nat.zero_le _⟩ rfl (by decide +kernel) dX9_clear_27 rfl ?_
      obtain ⟨v1_3, ev1_3, h⟩ := nam_s h
      refine g_iinc (v := v1_3) (lv' := [(1, .int v1_3), (0, .ref a_me)]) X 1 rfl (by rw [ev1_3]; rfl) (by decide) rfl dX9_clear_30 rfl ?_
      refine g_goto (tgt := 10) X dX9_clear_33 (by decide) ?_
      refine g_lvs [1, 0] rfl ?_
      exact ih _ _ h
set_option maxHeartbeats 4000000 in
set_option maxRecDepth 100000 in
theorem c_X9_clear (l : Launch) (D : va_G) (cA : ClassId) (a_me a_lengths a_lengths_cells : Nat)  (c_lengths : A32) (z : A32) (h : f_X9_clear c_lengths = some z) : CtV l yX9_clear wsX9_clear rm_X9_clear D cA [.ref a_me] (w_X9_clear cA a_me a_lengths a_lengths_cells c_lengths) Unit (fun _ => (w_X9_clear cA a_me a_lengths a_lengths_cells z)) 0 0 := by
  refine ct_V (maxL := 2) (cc := cX9_clear) (by decide) rfl (Nat.le_of_ble_eq_true rfl) rfl (fun p e s m args below meth c A Q X _ hret => ?_)
  have hret := hret ()
  have h : (Option.bind (f_X8_fill 49 c_lengths (-1)) fun z_1 => f_X9_clear_b10 FU z_1 0 : Option (A32)) = some z := h
  refine g_aload_n X 0 rfl rfl dX9_clear_0 rfl ?_
  refine g_getf (C := RX9) (T := TX9) (N := 1) (v := .ref a_lengths) X 0 rfl vc_X9 0 (by decide) iw_X9_clear_X9 fl_X9_clear_X9_0 rfl rfl dX9_clear_1 rfl ?_
  refine g_iconst (v := (-1)) X dX9_clear_4 (by decide) rfl ?_
  obtain ⟨z_1, hz_1, h⟩ := bnd_s h
  refine g_callVV (rm := rm_X8_fill) (As := [.int (-1)]) (W0 := (w_X8_fill cA a_lengths a_lengths_cells 49 c_lengths)) (W1 := (w_X8_fill cA a_lengths a_lengths_cells 49 z_1)) (isC := [1, 2]) (isR := [0]) (perm := [0, 1, 2]) (ws' := (w_X9_clear cA a_me a_lengths a_lengths_cells z_1)) X (c_X8_fill l D cA a_lengths a_lengths_cells 49 c_lengths (-1) _ hz_1) 1 rfl rfl rfl gX9_clear_X8_fill rfl rfl rfl ⟨rfl, hd_X8_fill⟩ ⟨Nat.le_of_ble_eq_true rfl, Nat.le_of_ble_eq_true rfl⟩ rfl rfl (Nat.le_of_ble_eq_true rfl) rfl (by decide +kernel) rfl (by decide +kernel) (by decide +kernel) ⟨Nat.zero_le _, Nat.zero_le _⟩ rfl (by decide +kernel) dX9_clear_5 rfl ?_
  refine g_iconst (v := 0) X dX9_clear_8 (by decide) rfl ?_
  refine g_istore_n (lv' := [(1, .int 0), (0, .ref a_me)]) X rfl (by decide) rfl dX9_clear_9 rfl ?_
  refine g_lvs [1, 0] rfl ?_
  exact t_X9_clear_b10 X hret _ _ _ h
abbrev rm_X9_between : Room := { frames := 1, cells := 0, slots := 0, locals := 21 }
theorem hd_X9_between : yX9_between.cls ≠ "java/lang/invoke/MethodHandle" ∧ yX9_between.cls ≠ "java/lang/invoke/VarHandle" ∧ (parseMethodDescriptor yX9_between.desc).map (fun d => d.parameters.length) = some 2 := by decide +kernel
theorem iw_X9_between_X9 : ∀ w ∈ wsX90, w ∈ wsX9_between := fun w h => List.mem_cons_of_mem _ (List.mem_append_left _ (List.mem_append_right _ h))
theorem fl_X9_between_X9_0 : Cond.fieldLink RX9 14 RX9 (TX9 0).2.1 (TX9 0).2.2.1 ∈ wsX9_between := List.mem_of_getElem? (i := 1) rfl
abbrev w_X9_between (cA : ClassId) (a_me a_lengths a_lengths_cells : Nat) (c_lengths : A32) : va_W := [(a_me, .inr (9, [.ref a_lengths])), (a_lengths, .inr (8, [.ref a_lengths_cells])), (a_lengths_cells, .inl (cA, 49, .inl c_lengths))]
set_option maxHeartbeats 4000000 in
set_option maxRecDepth 100000 in
theorem c_X9_between (l : Launch) (D : va_G) (cA : ClassId) (a_me a_lengths a_lengths_cells : Nat)  (c_lengths : A32) (v1 : Int32) (v2 : Int32) (z : Int32) (h : f_X9_between c_lengths v1 v2 = some z) : CtI l yX9_between wsX9_between rm_X9_between D cA [.ref a_me, .int v1, .int v2] (w_X9_between cA a_me a_lengths a_lengths_cells c_lengths) z (w_X9_between cA a_me a_lengths a_lengths_cells c_lengths) := by
  refine ct_I (maxL := 3) (ty := .int) (cc := cX9_between) (by decide) rfl (Nat.le_of_ble_eq_true rfl) rfl (fun p e s m args below meth c A Q X hret => ?_)
  have h : (Option.bind (f_X8_get 49 c_lengths ((v1 * 7) + v2)) fun z_1 => some z_1 : Option (Int32)) = some z := h
  refine g_aload_n X 0 rfl rfl dX9_between_0 rfl ?_
  refine g_getf (C := RX9) (T := TX9) (N := 1) (v := .ref a_lengths) X 0 rfl vc_X9 0 (by decide) iw_X9_between_X9 fl_X9_between_X9_0 rfl rfl dX9_between_1 rfl ?_
  refine g_iload_n X 1 rfl rfl dX9_between_4 rfl ?_
  refine g_bipush (v := 7) X dX9_between_5 (by decide) rfl ?_
  refine g_imul X dX9_between_7 rfl ?_
  refine g_iload_n X 2 rfl rfl dX9_between_8 rfl ?_
  refine g_iadd X dX9_between_9 rfl ?_
  obtain ⟨z_1, hz_1, h⟩ := bnd_s h
  refine g_callVI (rm := rm_X8_get) (As := [.int ((v1 * 7) + v2)]) (r := z_1) (W0 := (w_X8_get cA a_lengths a_lengths_cells 49 c_lengths)) (W1 := (w_X8_get cA a_lengths a_lengths_cells 49 c_lengths)) (isC := [1, 2]) (isR := [0]) (perm := [0, 1, 2]) (ws' := (w_X9_between cA a_me a_lengths a_lengths_cells c_lengths)) X (c_X8_get l D cA a_lengths a_lengths_cells 49 c_lengths ((v1 * 7) + v2) _ hz_1) 1 rfl rfl rfl gX9_between_X8_get rfl rfl rfl ⟨rfl, hd_X8_get⟩ ⟨Nat.le_of_ble_eq_true rfl, Nat.le_of_ble_eq_true rfl⟩ rfl rfl (Nat.le_of_ble_eq_true rfl) rfl (by decide +kernel) rfl (by decide +kernel) (by decide +kernel) ⟨Nat.zero_le _, Nat.zero_le _⟩ rfl (by decide +kernel) dX9_between_10 rfl ?_
  cases Option.some.inj h
  exact hret _ _ dX9_between_13 rfl
abbrev rm_X9_link : Room := { frames := 2, cells := 0, slots := 0, locals := 43 }
theorem hd_X9_link : yX9_link.cls ≠ "java/lang/invoke/MethodHandle" ∧ yX9_link.cls ≠ "java/lang/invoke/VarHandle" ∧ (parseMethodDescriptor yX9_link.desc).map (fun d => d.parameters.length) = some 3 := by decide +kernel
theorem iw_X9_link_X9 : ∀ w ∈ wsX90, w ∈ wsX9_link := fun w h => List.mem_cons_of_mem _ (List.mem_append_left _ (List.mem_append_right _ h))
theorem fl_X9_link_X9_0 : Cond.fieldLink RX9 14 RX9 (TX9 0).2.1 (TX9 0).2.2.1 ∈ wsX9_link := List.mem_of_getElem? (i := 1) rfl
abbrev w_X9_link (cA : ClassId) (a_me a_lengths a_lengths_cells : Nat) (c_lengths : A32) : va_W := [(a_me, .inr (9, [.ref a_lengths])), (a_lengths, .inr (8, [.ref a_lengths_cells])), (a_lengths_cells, .inl (cA, 49, .inl c_lengths))]
set_option maxHeartbeats 4000000 in
set_option maxRecDepth 100000 in
theorem t_X9_link_b20 {l : Launch} {D : va_G} {cA : ClassId} {p : Program} {e : Env} {s : State} {m : MethodId} {args : Array Value} {below : List Frame} {meth : Method} {c : Code} {A : Nat → Prop} {Q : State → Prop} {z : A32} {a_me a_lengths a_lengths_cells : Nat}   {c_lengths : A32} {v1 : Int32} {v2 : Int32} {v3 : Int32}  (X : GX p s m args c cX9_link RX9 wsX9_link D cA A 5) (hret : RtV p l e rm_X9_link s m args below meth c cX9_link D A 5 0 0 Q (w_X9_link cA a_me a_lengths a_lengths_cells z))  (h : f_X9_link_b20 c_lengths v1 v2 v3 = some z) : G p l e rm_X9_link s m args below meth c D A 5 0 0 Q 20 [(0, .ref a_me), (1, .int v1), (2, .int v2), (3, .int v3)] [] (w_X9_link cA a_me a_lengths a_lengths_cells c_lengths) := by
  have h : (Option.bind (f_X8_set 49 c_lengths ((v1 * 7) + v2) v3) fun z_1 => some z_1 : Option (A32)) = some z := h
  refine g_aload_n X 0 rfl rfl dX9_link_20 rfl ?_
  refine g_getf (C := RX9) (T := TX9) (N := 1) (v := .ref a_lengths) X 0 rfl vc_X9 0 (by decide) iw_X9_link_X9 fl_X9_link_X9_0 rfl rfl dX9_link_21 rfl ?_
  refine g_iload_n X 1 rfl rfl dX9_link_24 rfl ?_
  refine g_bipush (v := 7) X dX9_link_25 (by decide) rfl ?_
  refine g_imul X dX9_link_27 rfl ?_
  refine g_iload_n X 2 rfl rfl dX9_link_28 rfl ?_
  refine g_iadd X dX9_link_29 rfl ?_
  refine g_iload_n X 3 rfl rfl dX9_link_30 rfl ?_
  obtain ⟨z_1, hz_1, h⟩ := bnd_s h
  refine g_callVV (rm := rm_X8_set) (As := [.int ((v1 * 7) + v2), .int v3]) (W0 := (w_X8_set cA a_lengths a_lengths_cells 49 c_lengths)) (W1 := (w_X8_set cA a_lengths a_lengths_cells 49 z_1)) (isC := [1, 2]) (isR := [0]) (perm := [0, 1, 2]) (ws' := (w_X9_link cA a_me a_lengths a_lengths_cells z_1)) X (c_X8_set l D cA a_lengths a_lengths_cells 49 c_lengths ((v1 * 7) + v2) v3 _ hz_1) 1 rfl rfl rfl gX9_link_X8_set rfl rfl rfl ⟨rfl, hd_X8_set⟩ ⟨Nat.le_of_ble_eq_true rfl, Nat.le_of_ble_eq_true rfl⟩ rfl rfl (Nat.le_of_ble_eq_true rfl) rfl (by decide +kernel) rfl (by decide +kernel) (by decide +kernel) ⟨Nat.zero_le _, Nat.zero_le _⟩ rfl (by decide +kernel) dX9_link_31 rfl ?_
  cases Option.some.inj h
  exact hret _ _ dX9_link_34
set_option maxHeartbeats 4000000 in
set_option maxRecDepth 100000 in
theorem c_X9_link (l : Launch) (D : va_G) (cA : ClassId) (a_me a_lengths a_lengths_cells : Nat)  (c_lengths : A32) (v1 : Int32) (v2 : Int32) (v3 : Int32) (z : A32) (h : f_X9_link c_lengths v1 v2 v3 = some z) : CtV l yX9_link wsX9_link rm_X9_link D cA [.ref a_me, .int v1, .int v2, .int v3] (w_X9_link cA a_me a_lengths a_lengths_cells c_lengths) Unit (fun _ => (w_X9_link cA a_me a_lengths a_lengths_cells z)) 0 0 := by
  refine ct_V (maxL := 5) (cc := cX9_link) (by decide) rfl (Nat.le_of_ble_eq_true rfl) rfl (fun p e s m args below meth c A Q X _ hret => ?_)
  have hret := hret ()
  have h : (Option.bind (f_X9_between c_lengths v1 v2) fun z_1 => if z_1 = (-1) then f_X9_link_b20 c_lengths v1 v2 v3 else if z_1 ≤ v3 then some c_lengths else f_X9_link_b20 c_lengths v1 v2 v3 : Option (A32)) = some z := h
  refine g_aload_n X 0 rfl rfl dX9_link_0 rfl ?_
  refine g_iload_n X 1 rfl rfl dX9_link_1 rfl ?_
  refine g_iload_n X 2 rfl rfl dX9_link_2 rfl ?_
  obtain ⟨z_1, hz_1, h⟩ := bnd_s h
  refine g_callVI (rm := rm_X9_between) (As := [.int v1, .int v2]) (r := z_1) (W0 := (w_X9_between cA a_me a_lengths a_lengths_cells c_lengths)) (W1 := (w_X9_between cA a_me a_lengths a_lengths_cells c_lengths)) (isC := [0, 1, 2]) (isR := []) (perm := [0, 1, 2]) (ws' := (w_X9_link cA a_me a_lengths a_lengths_cells c_lengths)) X (c_X9_between l D cA a_me a_lengths a_lengths_cells c_lengths v1 v2 _ hz_1) 0 rfl rfl rfl gX9_link_X9_between rfl rfl rfl ⟨rfl, hd_X9_between⟩ ⟨Nat.le_of_ble_eq_true rfl, Nat.le_of_ble_eq_true rfl⟩ rfl rfl (Nat.le_of_ble_eq_true rfl) rfl (by decide +kernel) rfl (by decide +kernel) (by decide +kernel) ⟨Nat.zero_le _, Nat.zero_le _⟩ rfl (by decide +kernel) dX9_link_3 rfl ?_
  refine g_istore (lv' := [(4, .int z_1), (0, .ref a_me), (1, .int v1), (2, .int v2), (3, .int v3)]) X (by decide) rfl dX9_link_6 rfl ?_
  refine g_iload X 0 rfl dX9_link_8 rfl ?_
  refine g_iconst (v := (-1)) X dX9_link_10 (by decide) rfl ?_
  refine g_icmp_eq (tgt := 20) X dX9_link_11 (by decide) rfl h (fun c_2 h => ?_) (fun c_2 h => ?_)
  · refine g_lvs [1, 2, 3, 4] rfl ?_
    exact t_X9_link_b20 X hret h
  · refine g_iload_n X 4 rfl rfl dX9_link_14 rfl ?_
    refine g_iload X 0 rfl dX9_link_15 rfl ?_
    refine g_icmp_ge (tgt := 34) X dX9_link_17 (by decide) rfl h (fun c_3 h => ?_) (fun c_3 h => ?_)
    · cases Option.some.inj h
      exact hret _ _ dX9_link_34
    · refine g_lvs [1, 2, 3, 4] rfl ?_
      exact t_X9_link_b20 X hret h
abbrev rm_X9_joinWays : Room := { frames := 3, cells := 0, slots := 0, locals := 67 }
theorem hd_X9_joinWays : yX9_joinWays.cls ≠ "java/lang/invoke/MethodHandle" ∧ yX9_joinWays.cls ≠ "java/lang/invoke/VarHandle" ∧ (parseMethodDescriptor yX9_joinWays.desc).map (fun d => d.parameters.length) = some 0 := by decide +kernel
abbrev w_X9_joinWays (cA : ClassId) (a_me a_lengths a_lengths_cells : Nat) (c_lengths : A32) : va_W := [(a_me, .inr (9, [.ref a_lengths])), (a_lengths, .inr (8, [.ref a_lengths_cells])), (a_lengths_cells, .inl (cA, 49, .inl c_lengths))]
set_option maxHeartbeats 4000000 in
set_option maxRecDepth 100000 in
theorem t_X9_joinWays_b64 {l : Launch} {D : va_G} {cA : ClassId} {p : Program} {e : Env} {s : State} {m : MethodId} {args : Array Value} {below : List Frame} {meth : Method} {c : Code} {A : Nat → Prop} {Q : State → Prop} {z : A32} {a_me a_lengths a_lengths_cells : Nat}   {c_lengths : A32} {v1 : Int32} {v2 : Int32} {v3 : Int32} {v4 : Int32} {k2 : A32 → Int32 → Option (A32)} {k10 : A32 → Int32 → Option (A32)} {k26 : A32 → Int32 → Option (A32)} (X : GX p s m args c cX9_joinWays RX9 wsX9_joinWays D cA A 6) (hret : RtV p l e rm_X9_joinWays s m args below meth c cX9_joinWays D A 6 0 0 Q (w_X9_joinWays cA a_me a_lengths a_lengths_cells z)) (hk2 : ∀ (c_lengths : A32) (v1 : Int32), k2 c_lengths v1 = some z → G p l e rm_X9_joinWays s m args below meth c D A 6 0 0 Q 2 [(0, .ref a_me), (1, .int v1)] [] (w_X9_joinWays cA a_me a_lengths a_lengths_cells c_lengths)) (hk10 : ∀ (c_lengths : A32) (v2 : Int32), k10 c_lengths v2 = some z → G p l e rm_X9_joinWays s m args below meth c D A 6 0 0 Q 10 [(0, .ref a_me), (1, .int v1), (2, .int v2)] [] (w_X9_joinWays cA a_me a_lengths a_lengths_cells c_lengths)) (hk26 : ∀ (c_lengths : A32) (v4 : Int32), k26 c_lengths v4 = some z → G p l e rm_X9_joinWays s m args below meth c D A 6 0 0 Q 26 [(0, .ref a_me), (1, .int v1), (2, .int v2), (3, .int v3), (4, .int v4)] [] (w_X9_joinWays cA a_me a_lengths a_lengths_cells c_lengths)) (h : f_X9_joinWays_b64 k2 k10 k26 c_lengths v1 v2 v3 v4 = some z) : G p l e rm_X9_joinWays s m args below meth c D A 6 0 0 Q 64 [(0, .ref a_me), (1, .int v1), (2, .int v2), (3, .int v3), (4, .int v4)] [] (w_X9_joinWays cA a_me a_lengths a_lengths_cells c_lengths) := by
  have h : (nam (v4 + 1) fun v4_1 => k26 c_lengths v4_1 : Option (A32)) = some z := h
  obtain ⟨v4_1, ev4_1, h⟩ := nam_s h
  refine g_iinc (v := v4_1) (lv' := [(4, .int v4_1), (0, .ref a_me), (1, .int v1), (2, .int v2), (3, .int v3)]) X 4 rfl (by rw [ev4_1]; rfl) (by decide) rfl dX9_joinWays_64 rfl ?_
  refine g_goto (tgt := 26) X dX9_joinWays_67 (by decide) ?_
  refine g_lvs [1, 2, 3, 4, 0] rfl ?_
  exact hk26 _ _ h
set_option maxHeartbeats 4000000 in
set_option maxRecDepth 100000 in
theorem t_X9_joinWays_b70 {l : Launch} {D : va_G} {cA : ClassId} {p : Program} {e : Env} {s : State} {m : MethodId} {args : Array Value} {below : List Frame} {meth : Method} {c : Code} {A : Nat → Prop} {Q : State → Prop} {z : A32} {a_me a_lengths a_lengths_cells : Nat}   {c_lengths : A32} {v1 : Int32} {v2 : Int32} {k2 : A32 → Int32 → Option (A32)} {k10 : A32 → Int32 → Option (A32)} (X : GX p s m args c cX9_joinWays RX9 wsX9_joinWays D cA A 6) (hret : RtV p l e rm_X9_joinWays s m args below meth c cX9_joinWays D A 6 0 0 Q (w_X9_joinWays cA a_me a_lengths a_lengths_cells z)) (hk2 : ∀ (c_lengths : A32) (v1 : Int32), k2 c_lengths v1 = some z → G p l e rm_X9_joinWays s m args below meth c D A 6 0 0 Q 2 [(0, .ref a_me), (1, .int v1)] [] (w_X9_joinWays cA a_me a_lengths a_lengths_cells c_lengths)) (hk10 : ∀ (c_lengths : A32) (v2 : Int32), k10 c_lengths v2 = some z → G p l e rm_X9_joinWays s m args below meth c D A 6 0 0 Q 10 [(0, .ref a_me), (1, .int v1), (2, .int v2)] [] (w_X9_joinWays cA a_me a_lengths a_lengths_cells c_lengths)) (h : f_X9_joinWays_b70 k2 k10 c_lengths v1 v2 = some z) : G p l e rm_X9_joinWays s m args below meth c D A 6 0 0 Q 70 [(0, .ref a_me), (1, .int v1), (2, .int v2)] [] (w_X9_joinWays cA a_me a_lengths a_lengths_cells c_lengths) := by
  have h : (nam (v2 + 1) fun v2_1 => k10 c_lengths v2_1 : Option (A32)) = some z := h
  obtain ⟨v2_1, ev2_1, h⟩ := nam_s h
  refine g_iinc (v := v2_1) (lv' := [(2, .int v2_1), (0, .ref a_me), (1, .int v1)]) X 2 rfl (by rw [ev2_1]; rfl) (by decide) rfl dX9_joinWays_70 rfl ?_
  refine g_goto (tgt := 10) X dX9_joinWays_73 (by decide) ?_
  refine g_lvs [1, 2, 0] rfl ?_
  exact hk10 _ _ h
set_option maxHeartbeats 4000000 in
set_option maxRecDepth 100000 in
theorem t_X9_joinWays_b26 {l : Launch} {D : va_G} {cA : ClassId} {p : Program} {e : Env} {s : State} {m : MethodId} {args : Array Value} {below : List Frame} {meth : Method} {c : Code} {A : Nat → Prop} {Q : State → Prop} {z : A32} {a_me a_lengths a_lengths_cells : Nat}   {v1 : Int32} {v2 : Int32} {v3 : Int32} {k2 : A32 → Int32 → Option (A32)} {k10 : A32 → Int32 → Option (A32)} (X : GX p s m args c cX9_joinWays RX9 wsX9_joinWays D cA A 6) (hret : RtV p l e rm_X9_joinWays s m args below meth c cX9_joinWays D A 6 0 0 Q (w_X9_joinWays cA a_me a_lengths a_lengths_cells z)) (hk2 : ∀ (c_lengths : A32) (v1 : Int32), k2 c_lengths v1 = some z → G p l e rm_X9_joinWays s m args below meth c D A 6 0 0 Q 2 [(0, .ref a_me), (1, .int v1)] [] (w_X9_joinWays cA a_me a_lengths a_lengths_cells c_lengths)) (hk10 : ∀ (c_lengths : A32) (v2 : Int32), k10 c_lengths v2 = some z → G p l e rm_X9_joinWays s m args below meth c D A 6 0 0 Q 10 [(0, .ref a_me), (1, .int v1), (2, .int v2)] [] (w_X9_joinWays cA a_me a_lengths a_lengths_cells c_lengths)) : ∀ (fu : Nat) (c_lengths : A32) (v4 : Int32), f_X9_joinWays_b26 k2 k10 v1 v2 v3 fu c_lengths v4 = some z → G p l e rm_X9_joinWays s m args below meth c D A 6 0 0 Q 26 [(0, .ref a_me), (1, .int v1), (2, .int v2), (3, .int v3), (4, .int v4)] [] (w_X9_joinWays cA a_me a_lengths a_lengths_cells c_lengths) := by
  intro fu
  induction fu with
  | zero => intro c_lengths v4 h; exact absurd (show (none : Option (A32)) = some z from h) (by simp)
  | succ fu ih =>
    intro c_lengths v4 h
    have h : (if 7 ≤ v4 then f_X9_joinWays_b70 k2 k10 c_lengths v1 v2 else if v3 = (-1) then f_X9_joinWays_b70 k2 k10 c_lengths v1 v2 else Option.bind (f_X9_between c_lengths v1 v4) fun z_3 => if z_3 = (-1) then f_X9_joinWays_b64 k2 k10 (f_X9_joinWays_b26 k2 k10 v1 v2 v3 fu) c_lengths v1 v2 v3 v4 else Option.bind (f_X9_link c_lengths v2 v4 (v3 + z_3)) fun z_5 => f_X9_joinWays_b64 k2 k10 (f_X9_joinWays_b26 k2 k10 v1 v2 v3 fu) z_5 v1 v2 v3 v4 : Option (A32)) = some z := h
    refine g_iload X 4 rfl dX9_joinWays_26 rfl ?_
    refine g_bipush (v := 7) X dX9_joinWays_28 (by decide) rfl ?_
    refine g_icmp_ge (tgt := 70) X dX9_joinWays_30 (by decide) rfl h (fun c_1 h => ?_) (fun c_1 h => ?_)
    · refine g_lvs [0, 1, 2] rfl ?_
      exact t_X9_joinWays_b70 X hret hk2 hk10 h
    · refine g_iload_n X 3 rfl rfl dX9_joinWays_33 rfl ?_
      refine g_iconst (v := (-1)) X dX9_joinWays_34 (by decide) rfl ?_
      refine g_icmp_eq (tgt := 70) X dX9_joinWays_35 (by decide) rfl h (fun c_2 h => ?_) (fun c_2 h => ?_)
      · refine g_lvs [0, 1, 2] rfl ?_
        exact t_X9_joinWays_b70 X hret hk2 hk10 h
      · refine g_aload_n X 0 rfl rfl dX9_joinWays_38 rfl ?_
        refine g_iload_n X 1 rfl rfl dX9_joinWays_39 rfl ?_
        refine g_iload X 4 rfl dX9_joinWays_40 rfl ?_
        obtain ⟨z_3, hz_3, h⟩ := bnd_s h
        refine g_callVI (rm := rm_X9_between) (As := [.int v1, .int v4]) (r := z_3) (W0 := (w_X9_between cA a_me a_lengths a_lengths_cells c_lengths)) (W1 := (w_X9_between cA a_me a_lengths a_lengths_cells c_lengths)) (isC := [0, 1, 2]) (isR := []) (perm := [0, 1, 2]) (ws' := (w_X9_joinWays cA a_me a_lengths a_lengths_cells c_lengths)) X (c_X9_between l D cA a_me a_lengths a_lengths_cells c_lengths v1 v4 _ hz_3) 0 rfl rfl rfl gX9_joinWays_X9_between rfl rfl rfl ⟨rfl, hd_X9_between⟩ ⟨Nat.le_of_ble_eq_true rfl, Nat.le_of_ble_eq_true rfl⟩ rfl rfl (Nat.le_of_ble_eq_true rfl) rfl (by decide +kernel) rfl (by decide +kernel) (by decide +kernel) ⟨Nat.zero_le _, Nat.zero_le _⟩ rfl (by decide +kernel) dX9_joinWays_42 rfl ?_
        refine g_istore (lv' := [(5, .int z_3), (0, .ref a_me), (1, .int v1), (2, .int v2), (3, .int v3), (4, .int v4)]) X (by decide) rfl dX9_joinWays_45 rfl ?_
        refine g_iload X 0 rfl dX9_joinWays_47 rfl ?_
        refine g_iconst (v := (-1)) X dX9_joinWays_49 (by decide) rfl ?_
        refine g_icmp_eq (tgt := 64) X dX9_joinWays_50 (by decide) rfl h (fun c_4 h => ?_) (fun c_4 h => ?_)
        · refine g_lvs [1, 2, 3, 4, 5] rfl ?_
          exact t_X9_joinWays_b64 X hret hk2 hk10 ih h
        · refine g_aload_n X 1 rfl rfl dX9_joinWays_53 rfl ?_
          refine g_iload_n X 3 rfl rfl dX9_joinWays_54 rfl ?_
          refine g_iload X 5 rfl dX9_joinWays_55 rfl ?_
          refine g_iload_n X 4 rfl rfl dX9_joinWays_57 rfl ?_
          refine g_iload X 0 rfl dX9_joinWays_58 rfl ?_
          refine g_iadd X dX9_joinWays_60 rfl ?_
          obtain ⟨z_5, hz_5, h⟩ := bnd_s h
          refine g_callVV (rm := rm_X9_link) (As := [.int v2, .int v4, .int (v3 + z_3)]) (W0 := (w_X9_link cA a_me a_lengths a_lengths_cells c_lengths)) (W1 := (w_X9_link cA a_me a_lengths a_lengths_cells z_5)) (isC := [0, 1, 2]) (isR := []) (perm := [0, 1, 2]) (ws' := (w_X9_joinWays cA a_me a_lengths a_lengths_cells z_5)) X (c_X9_link l D cA a_me a_lengths a_lengths_cells c_lengths v2 v4 (v3 + z_3) _ hz_5) 0 rfl rfl rfl gX9_joinWays_X9_link rfl rfl rfl ⟨rfl, hd_X9_link⟩ ⟨Nat.le_of_ble_eq_true rfl, Nat.le_of_ble_eq_true rfl⟩ rfl rfl (Nat.le_of_ble_eq_true rfl) rfl (by decide +kernel) rfl (by decide +kernel) (by decide +kernel) ⟨Nat.zero_le _, Nat.zero_le _⟩ rfl (by decide +kernel) dX9_joinWays_61 rfl ?_
          refine g_lvs [1, 2, 3, 4, 5] rfl ?_
          exact t_X9_joinWays_b64 X hret hk2 hk10 ih h
set_option maxHeartbeats 4000000 in
set_option maxRecDepth 100000 in
theorem t_X9_joinWays_b10 {l : Launch} {D : va_G} {cA : ClassId} {p : Program} {e : Env} {s : State} {m : MethodId} {args : Array Value} {below : List Frame} {meth : Method} {c : Code} {A : Nat → Prop} {Q : State → Prop} {z : A32} {a_me a_lengths a_lengths_cells : Nat}   {v1 : Int32} {k2 : A32 → Int32 → Option (A32)} (X : GX p s m args c cX9_joinWays RX9 wsX9_joinWays D cA A 6) (hret : RtV p l e rm_X9_joinWays s m args below meth c cX9_joinWays D A 6 0 0 Q (w_X9_joinWays cA a_me a_lengths a_lengths_cells z)) (hk2 : ∀ (c_lengths : A32) (v1 : Int32), k2 c_lengths v1 = some z → G p l e rm_X9_joinWays s m args below meth c D A 6 0 0 Q 2 [(0, .ref a_me), (1, .int v1)] [] (w_X9_joinWays cA a_me a_lengths a_lengths_cells c_lengths)) : ∀ (fu : Nat) (c_lengths : A32) (v2 : Int32), f_X9_joinWays_b10 k2 v1 fu c_lengths v2 = some z → G p l e rm_X9_joinWays s m args below meth c D A 6 0 0 Q 10 [(0, .ref a_me), (1, .int v1), (2, .int v2)] [] (w_X9_joinWays cA a_me a_lengths a_lengths_cells c_lengths) := by
  intro fu
  induction fu with
  | zero => intro c_lengths v2 h; exact absurd (show (none : Option (A32)) = some z from h) (by simp)
  | succ fu ih =>
    intro c_lengths v2 h
    have h : (if 7 ≤ v2 then nam (v1 + 1) fun v1_2 => k2 c_lengths v1_2 else Option.bind (f_X9_between c_lengths v2 v1) fun z_3 => f_X9_joinWays_b26 k2 (f_X9_joinWays_b10 k2 v1 fu) v1 v2 z_3 FU c_lengths 0 : Option (A32)) = some z := h
    refine g_iload_n X 2 rfl rfl dX9_joinWays_10 rfl ?_
    refine g_bipush (v := 7) X dX9_joinWays_11 (by decide) rfl ?_
    refine g_icmp_ge (tgt := 76) X dX9_joinWays_13 (by decide) rfl h (fun c_1 h => ?_) (fun c_1 h => ?_)
    · obtain ⟨v1_2, ev1_2, h⟩ := nam_s h
      refine g_iinc (v := v1_2) (lv' := [(1, .int v1_2), (0, .ref a_me), (2, .int v2)]) X 1 rfl (by rw [ev1_2]; rfl) (by decide) rfl dX9_joinWays_76 rfl ?_
      refine g_goto (tgt := 2) X dX9_joinWays_79 (by decide) ?_
      refine g_lvs [1, 0] rfl ?_
      exact hk2 _ _ h
    · refine g_aload_n X 0 rfl rfl dX9_joinWays_16 rfl ?_
      refine g_iload_n X 2 rfl rfl dX9_joinWays_17 rfl ?_
      refine g_iload_n X 1 rfl rfl dX9_joinWays_18 rfl ?_
      obtain ⟨z_3, hz_3, h⟩ := bnd_s h
      refine g_callVI (rm := rm_X9_between) (As := [.int v2, .int v1]) (r := z_3) (W0 := (w_X9_between cA a_me a_lengths a_lengths_cells c_lengths)) (W1 := (w_X9_between cA a_me a_lengths a_lengths_cells c_lengths)) (isC := [0, 1, 2]) (isR := []) (perm := [0, 1, 2]) (ws' := (w_X9_joinWays cA a_me a_lengths a_lengths_cells c_lengths)) X (c_X9_between l D cA a_me a_lengths a_lengths_cells c_lengths v2 v1 _ hz_3) 0 rfl rfl rfl gX9_joinWays_X9_between rfl rfl rfl ⟨rfl, hd_X9_between⟩ ⟨Nat.le_of_ble_eq_true rfl, Nat.le_of_ble_eq_true rfl⟩ rfl rfl (Nat.le_of_ble_eq_true rfl) rfl (by decide +kernel) rfl (by decide +kernel) (by decide +kernel) ⟨Nat.zero_le _, Nat.zero_le _⟩ rfl (by decide +kernel) dX9_joinWays_19 rfl ?_
      refine g_istore_n (lv' := [(3, .int z_3), (0, .ref a_me), (1, .int v1), (2, .int v2)]) X rfl (by decide) rfl dX9_joinWays_22 rfl ?_
      refine g_iconst (v := 0) X dX9_joinWays_23 (by decide) rfl ?_
      refine g_istore (lv' := [(4, .int 0), (3, .int z_3), (0, .ref a_me), (1, .int v1), (2, .int v2)]) X (by decide) rfl dX9_joinWays_24 rfl ?_
      refine g_lvs [2, 3, 4, 1, 0] rfl ?_
      exact t_X9_joinWays_b26 X hret hk2 ih _ _ _ h
set_option maxHeartbeats 4000000 in
set_option maxRecDepth 100000 in
theorem t_X9_joinWays_b2 {l : Launch} {D : va_G} {cA : ClassId} {p : Program} {e : Env} {s : State} {m : MethodId} {args : Array Value} {below : List Frame} {meth : Method} {c : Code} {A : Nat → Prop} {Q : State → Prop} {z : A32} {a_me a_lengths a_lengths_cells : Nat}     (X : GX p s m args c cX9_joinWays RX9 wsX9_joinWays D cA A 6) (hret : RtV p l e rm_X9_joinWays s m args below meth c cX9_joinWays D A 6 0 0 Q (w_X9_joinWays cA a_me a_lengths a_lengths_cells z))  : ∀ (fu : Nat) (c_lengths : A32) (v1 : Int32), f_X9_joinWays_b2  fu c_lengths v1 = some z → G p l e rm_X9_joinWays s m args below meth c D A 6 0 0 Q 2 [(0, .ref a_me), (1, .int v1)] [] (w_X9_joinWays cA a_me a_lengths a_lengths_cells c_lengths) := by
  intro fu
  induction fu with
  | zero => intro c_lengths v1 h; exact absurd (show (none : Option (A32)) = some z from h) (by simp)
  | succ fu ih =>
    intro c_lengths v1 h
    have h : (if 7 ≤ v1 then some c_lengths else f_X9_joinWays_b10 (f_X9_joinWays_b2  fu) v1 FU c_lengths 0 : Option (A32)) = some z := h
    refine g_iload_n X 1 rfl rfl dX9_joinWays_2 rfl ?_
    refine g_bipush (v := 7) X dX9_joinWays_3 (by decide) rfl ?_
    refine g_icmp_ge (tgt := 82) X dX9_joinWays_5 (by decide) rfl h (fun c_1 h => ?_) (fun c_1 h => ?_)
    · cases Option.some.inj h
      exact hret _ _ dX9_joinWays_82
    · refine g_iconst (v := 0) X dX9_joinWays_8 (by decide) rfl ?_
      refine g_istore_n (lv' := [(2, .int 0), (0, .ref a_me), (1, .int v1)]) X rfl (by decide) rfl dX9_joinWays_9 rfl ?_
      refine g_lvs [1, 2, 0] rfl ?_
      exact t_X9_joinWays_b10 X hret ih _ _ _ h
set_option maxHeartbeats 4000000 in
set_option maxRecDepth 100000 in
theorem c_X9_joinWays (l : Launch) (D : va_G) (cA : ClassId) (a_me a_lengths a_lengths_cells : Nat)  (c_lengths : A32) (z : A32) (h : f_X9_joinWays c_lengths = some z) : CtV l yX9_joinWays wsX9_joinWays rm_X9_joinWays D cA [.ref a_me] (w_X9_joinWays cA a_me a_lengths a_lengths_cells c_lengths) Unit (fun _ => (w_X9_joinWays cA a_me a_lengths a_lengths_cells z)) 0 0 := by
  refine ct_V (maxL := 6) (cc := cX9_joinWays) (by decide) rfl (Nat.le_of_ble_eq_true rfl) rfl (fun p e s m args below meth c A Q X _ hret => ?_)
  have hret := hret ()
  have h : (f_X9_joinWays_b2 FU c_lengths 0 : Option (A32)) = some z := h
  refine g_iconst (v := 0) X dX9_joinWays_0 (by decide) rfl ?_
  refine g_istore_n (lv' := [(1, .int 0), (0, .ref a_me)]) X rfl (by decide) rfl dX9_joinWays_1 rfl ?_
  refine g_lvs [1, 0] rfl ?_
  exact t_X9_joinWays_b2 X hret _ _ _ h
abbrev rm_X1_isKind : Room := { frames := 0, cells := 0, slots := 0, locals := 0 }
theorem hd_X1_isKind : yX1_isKind.cls ≠ "java/lang/invoke/MethodHandle" ∧ yX1_isKind.cls ≠ "java/lang/invoke/VarHandle" ∧ (parseMethodDescriptor yX1_isKind.desc).map (fun d => d.parameters.length) = some 1 := by decide +kernel
set_option maxHeartbeats 4000000 in
set_option maxRecDepth 100000 in
theorem c_X1_isKind (l : Launch) (D : va_G) (cA : ClassId)  (v0 : Int32) (z : Int32) (h : f_X1_isKind v0 = some z) : CtI l yX1_isKind wsX1_isKind rm_X1_isKind D cA [.int v0] [] z [] := by
  refine ct_I (maxL := 1) (ty := .boolean) (cc := cX1_isKind) (by decide) rfl (Nat.le_of_ble_eq_true rfl) rfl (fun p e s m args below meth c A Q X hret => ?_)
  have h : (if v0 < 0 then some 0 else if 4 < v0 then some 0 else some 1 : Option (Int32)) = some z := h
  refine g_iload_n X 0 rfl rfl dX1_isKind_0 rfl ?_
  refine g_if_lt (tgt := 13) X dX1_isKind_1 (by decide) rfl h (fun c_1 h => ?_) (fun c_1 h => ?_)
  · refine g_iconst (v := 0) X dX1_isKind_13 (by decide) rfl ?_
    cases Option.some.inj h
    exact hret _ _ dX1_isKind_14 (nar_z (Or.inl rfl))
  · refine g_iload_n X 0 rfl rfl dX1_isKind_4 rfl ?_
    refine g_iconst (v := 4) X dX1_isKind_5 (by decide) rfl ?_
    refine g_icmp_gt (tgt := 13) X dX1_isKind_6 (by decide) rfl h (fun c_2 h => ?_) (fun c_2 h => ?_)
    · refine g_iconst (v := 0) X dX1_isKind_13 (by decide) rfl ?_
      cases Option.some.inj h
      exact hret _ _ dX1_isKind_14 (nar_z (Or.inl rfl))
    · refine g_iconst (v := 1) X dX1_isKind_9 (by decide) rfl ?_
      refine g_goto (tgt := 14) X dX1_isKind_10 (by decide) ?_
      cases Option.some.inj h
      exact hret _ _ dX1_isKind_14 (nar_z (Or.inr rfl))
abbrev rm_X1_has : Room := { frames := 0, cells := 0, slots := 0, locals := 0 }
theorem hd_X1_has : yX1_has.cls ≠ "java/lang/invoke/MethodHandle" ∧ yX1_has.cls ≠ "java/lang/invoke/VarHandle" ∧ (parseMethodDescriptor yX1_has.desc).map (fun d => d.parameters.length) = some 1 := by decide +kernel
theorem iw_X1_has_X1 : ∀ w ∈ wsX10, w ∈ wsX1_has := fun w h => List.mem_cons_of_mem _ (List.mem_append_right _ h)
theorem fl_X1_has_X1_1 : Cond.fieldLink RX1 20 RX1 (TX1 1).2.1 (TX1 1).2.2.1 ∈ wsX1_has := List.mem_of_getElem? (i := 1) rfl
abbrev w_X1_has (cA : ClassId) (a_me a_kinds : Nat) (c_size : Int32) : va_W := [(a_me, .inr (1, [.ref a_kinds, .int c_size]))]
set_option maxHeartbeats 4000000 in
set_option maxRecDepth 100000 in
theorem c_X1_has (l : Launch) (D : va_G) (cA : ClassId) (a_me a_kinds : Nat)  (c_size : Int32) (v1 : Int32) (z : Int32) (h : f_X1_has c_size v1 = some z) : CtI l yX1_has wsX1_has rm_X1_has D cA [.ref a_me, .int v1] (w_X1_has cA a_me a_kinds c_size) z (w_X1_has cA a_me a_kinds c_size) := by
  refine ct_I (maxL := 2) (ty := .boolean) (cc := cX1_has) (by decide) rfl (Nat.le_of_ble_eq_true rfl) rfl (fun p e s m args below meth c A Q X hret => ?_)
  have h : (if v1 < 0 then some 0 else if c_size ≤ v1 then some 0 else some 1 : Option (Int32)) = some z := h
  refine g_iload_n X 1 rfl rfl dX1_has_0 rfl ?_
  refine g_if_lt (tgt := 16) X dX1_has_1 (by decide) rfl h (fun c_1 h => ?_) (fun c_1 h => ?_)
  · refine g_iconst (v := 0) X dX1_has_16 (by decide) rfl ?_
    cases Option.some.inj h
    exact hret _ _ dX1_has_17 (nar_z (Or.inl rfl))
  · refine g_iload_n X 1 rfl rfl dX1_has_4 rfl ?_
    refine g_aload_n X 0 rfl rfl dX1_has_5 rfl ?_
    refine g_getf (C := RX1) (T := TX1) (N := 2) (v := .int c_size) X 0 rfl vc_X1 1 (by decide) iw_X1_has_X1 fl_X1_has_X1_1 rfl rfl dX1_has_6 rfl ?_
    refine g_icmp_ge (tgt := 16) X dX1_has_9 (by decide) rfl h (fun c_2 h => ?_) (fun c_2 h => ?_)
    · refine g_iconst (v := 0) X dX1_has_16 (by decide) rfl ?_
      cases Option.some.inj h
      exact hret _ _ dX1_has_17 (nar_z (Or.inl rfl))
    · refine g_iconst (v := 1) X dX1_has_12 (by decide) rfl ?_
      refine g_goto (tgt := 17) X dX1_has_13 (by decide) ?_
      cases Option.some.inj h
      exact hret _ _ dX1_has_17 (nar_z (Or.inr rfl))
abbrev rm_X1_isOf : Room := { frames := 1, cells := 0, slots := 0, locals := 21 }
theorem hd_X1_isOf : yX1_isOf.cls ≠ "java/lang/invoke/MethodHandle" ∧ yX1_isOf.cls ≠ "java/lang/invoke/VarHandle" ∧ (parseMethodDescriptor yX1_isOf.desc).map (fun d => d.parameters.length) = some 2 := by decide +kernel
theorem iw_X1_isOf_X1 : ∀ w ∈ wsX10, w ∈ wsX1_isOf := fun w h => List.mem_cons_of_mem _ (List.mem_append_left _ (List.mem_append_right _ h))
theorem fl_X1_isOf_X1_0 : Cond.fieldLink RX1 14 RX1 (TX1 0).2.1 (TX1 0).2.2.1 ∈ wsX1_isOf := List.mem_of_getElem? (i := 1) rfl
abbrev w_X1_isOf (cA : ClassId) (a_me a_kinds a_kinds_cells : Nat) (u_size : Int32) (c_kinds : A32) : va_W := [(a_me, .inr (1, [.ref a_kinds, .int u_size])), (a_kinds, .inr (8, [.ref a_kinds_cells])), (a_kinds_cells, .inl (cA, 6, .inl c_kinds))]
set_option maxHeartbeats 4000000 in
set_option maxRecDepth 100000 in
theorem t_X1_isOf_b28 {l : Launch} {D : va_G} {cA : ClassId} {p : Program} {e : Env} {s : State} {m : MethodId} {args : Array Value} {below : List Frame} {meth : Method} {c : Code} {A : Nat → Prop} {Q : State → Prop} {z : Int32} {a_me a_kinds a_kinds_cells : Nat} {u_size : Int32} {c_kinds : A32}   (X : GX p s m args c cX1_isOf RX1 wsX1_isOf D cA A 4) (hret : RtI p l e rm_X1_isOf s m args below meth c cX1_isOf D A 4 0 0 Q .boolean z (w_X1_isOf cA a_me a_kinds a_kinds_cells u_size c_kinds))  (h : f_X1_isOf_b28  = some z) : G p l e rm_X1_isOf s m args below meth c D A 4 0 0 Q 28 [] [] (w_X1_isOf cA a_me a_kinds a_kinds_cells u_size c_kinds) := by
  have h : (some 1 : Option (Int32)) = some z := h
  refine g_iconst (v := 1) X dX1_isOf_28 (by decide) rfl ?_
  refine g_goto (tgt := 33) X dX1_isOf_29 (by decide) ?_
  cases Option.some.inj h
  exact hret _ _ dX1_isOf_33 (nar_z (Or.inr rfl))
set_option maxHeartbeats 4000000 in
set_option maxRecDepth 100000 in
theorem c_X1_isOf (l : Launch) (D : va_G) (cA : ClassId) (a_me a_kinds a_kinds_cells : Nat) (u_size : Int32) (c_kinds : A32) (v1 : Int32) (v2 : Int32) (z : Int32) (h : f_X1_isOf c_kinds v1 v2 = some z) : CtI l yX1_isOf wsX1_isOf rm_X1_isOf D cA [.ref a_me, .int v1, .int v2] (w_X1_isOf cA a_me a_kinds a_kinds_cells u_size c_kinds) z (w_X1_isOf cA a_me a_kinds a_kinds_cells u_size c_kinds) := by
  refine ct_I (maxL := 4) (ty := .boolean) (cc := cX1_isOf) (by decide) rfl (Nat.le_of_ble_eq_true rfl) rfl (fun p e s m args below meth c A Q X hret => ?_)
  have h : (Option.bind (f_X8_get 6 c_kinds v1) fun z_1 => if v2 = 0 then f_X1_isOf_b28  else if v2 = z_1 then f_X1_isOf_b28  else if v2 = 1 then if z_1 = 4 then f_X1_isOf_b28  else some 0 else some 0 : Option (Int32)) = some z := h
  refine g_aload_n X 0 rfl rfl dX1_isOf_0 rfl ?_
  refine g_getf (C := RX1) (T := TX1) (N := 2) (v := .ref a_kinds) X 0 rfl vc_X1 0 (by decide) iw_X1_isOf_X1 fl_X1_isOf_X1_0 rfl rfl dX1_isOf_1 rfl ?_
  refine g_iload_n X 1 rfl rfl dX1_isOf_4 rfl ?_
  obtain ⟨z_1, hz_1, h⟩ := bnd_s h
  refine g_callVI (rm := rm_X8_get) (As := [.int v1]) (r := z_1) (W0 := (w_X8_get cA a_kinds a_kinds_cells 6 c_kinds)) (W1 := (w_X8_get cA a_kinds a_kinds_cells 6 c_kinds)) (isC := [1, 2]) (isR := [0]) (perm := [0, 1, 2]) (ws' := (w_X1_isOf cA a_me a_kinds a_kinds_cells u_size c_kinds)) X (c_X8_get l D cA a_kinds a_kinds_cells 6 c_kinds v1 _ hz_1) 1 rfl rfl rfl gX1_isOf_X8_get rfl rfl rfl ⟨rfl, hd_X8_get⟩ ⟨Nat.le_of_ble_eq_true rfl, Nat.le_of_ble_eq_true rfl⟩ rfl rfl (Nat.le_of_ble_eq_true rfl) rfl (by decide +kernel) rfl (by decide +kernel) (by decide +kernel) ⟨Nat.zero_le _, Nat.zero_le _⟩ rfl (by decide +kernel) dX1_isOf_5 rfl ?_
  refine g_istore_n (lv' := [(3, .int z_1), (0, .ref a_me), (1, .int v1), (2, .int v2)]) X rfl (by decide) rfl dX1_isOf_8 rfl ?_
  refine g_iload_n X 3 rfl rfl dX1_isOf_9 rfl ?_
  refine g_if_eq (tgt := 28) X dX1_isOf_10 (by decide) rfl h (fun c_2 h => ?_) (fun c_2 h => ?_)
  · refine g_lvs [] rfl ?_
    exact t_X1_isOf_b28 X hret h
  · refine g_iload_n X 3 rfl rfl dX1_isOf_13 rfl ?_
    refine g_iload_n X 0 rfl rfl dX1_isOf_14 rfl ?_
    refine g_icmp_eq (tgt := 28) X dX1_isOf_15 (by decide) rfl h (fun c_3 h => ?_) (fun c_3 h => ?_)
    · refine g_lvs [] rfl ?_
      exact t_X1_isOf_b28 X hret h
    · refine g_iload_n X 3 rfl rfl dX1_isOf_18 rfl ?_
      refine g_iconst (v := 1) X dX1_isOf_19 (by decide) rfl ?_
      refine g_icmp_ne (tgt := 32) X dX1_isOf_20 (by decide) rfl h (fun c_4 h => ?_) (fun c_4 h => ?_)
      · refine g_iconst (v := 0) X dX1_isOf_32 (by decide) rfl ?_
        cases Option.some.inj h
        exact hret _ _ dX1_isOf_33 (nar_z (Or.inl rfl))
      · refine g_iload_n X 0 rfl rfl dX1_isOf_23 rfl ?_
        refine g_iconst (v := 4) X dX1_isOf_24 (by decide) rfl ?_
        refine g_icmp_ne (tgt := 32) X dX1_isOf_25 (by decide) rfl h (fun c_5 h => ?_) (fun c_5 h => ?_)
        · refine g_iconst (v := 0) X dX1_isOf_32 (by decide) rfl ?_
          cases Option.some.inj h
          exact hret _ _ dX1_isOf_33 (nar_z (Or.inl rfl))
        · refine g_lvs [] rfl ?_
          exact t_X1_isOf_b28 X hret h
abbrev rm_X1_bears : Room := { frames := 1, cells := 0, slots := 0, locals := 21 }
theorem hd_X1_bears : yX1_bears.cls ≠ "java/lang/invoke/MethodHandle" ∧ yX1_bears.cls ≠ "java/lang/invoke/VarHandle" ∧ (parseMethodDescriptor yX1_bears.desc).map (fun d => d.parameters.length) = some 1 := by decide +kernel
theorem iw_X1_bears_X1 : ∀ w ∈ wsX10, w ∈ wsX1_bears := fun w h => List.mem_cons_of_mem _ (List.mem_append_left _ (List.mem_append_right _ h))
theorem fl_X1_bears_X1_0 : Cond.fieldLink RX1 14 RX1 (TX1 0).2.1 (TX1 0).2.2.1 ∈ wsX1_bears := List.mem_of_getElem? (i := 1) rfl
abbrev w_X1_bears (cA : ClassId) (a_me a_kinds a_kinds_cells : Nat) (u_size : Int32) (c_kinds : A32) : va_W := [(a_me, .inr (1, [.ref a_kinds, .int u_size])), (a_kinds, .inr (8, [.ref a_kinds_cells])), (a_kinds_cells, .inl (cA, 6, .inl c_kinds))]
set_option maxHeartbeats 4000000 in
set_option maxRecDepth 100000 in
theorem c_X1_bears (l : Launch) (D : va_G) (cA : ClassId) (a_me a_kinds a_kinds_cells : Nat) (u_size : Int32) (c_kinds : A32) (v1 : Int32) (z : Int32) (h : f_X1_bears c_kinds v1 = some z) : CtI l yX1_bears wsX1_bears rm_X1_bears D cA [.ref a_me, .int v1] (w_X1_bears cA a_me a_kinds a_kinds_cells u_size c_kinds) z (w_X1_bears cA a_me a_kinds a_kinds_cells u_size c_kinds) := by
  refine ct_I (maxL := 2) (ty := .int) (cc := cX1_bears) (by decide) rfl (Nat.le_of_ble_eq_true rfl) rfl (fun p e s m args below meth c A Q X hret => ?_)
  have h : (Option.bind (f_X8_get 6 c_kinds v1) fun z_1 => if z_1 = 2 then some 1 else if z_1 = 3 then some 2 else if z_1 = 4 then some 6 else some 4 : Option (Int32)) = some z := h
  refine g_aload_n X 0 rfl rfl dX1_bears_0 rfl ?_
  refine g_getf (C := RX1) (T := TX1) (N := 2) (v := .ref a_kinds) X 0 rfl vc_X1 0 (by decide) iw_X1_bears_X1 fl_X1_bears_X1_0 rfl rfl dX1_bears_1 rfl ?_
  refine g_iload_n X 1 rfl rfl dX1_bears_4 rfl ?_
  obtain ⟨z_1, hz_1, h⟩ := bnd_s h
  refine g_callVI (rm := rm_X8_get) (As := [.int v1]) (r := z_1) (W0 := (w_X8_get cA a_kinds a_kinds_cells 6 c_kinds)) (W1 := (w_X8_get cA a_kinds a_kinds_cells 6 c_kinds)) (isC := [1, 2]) (isR := [0]) (perm := [0, 1, 2]) (ws' := (w_X1_bears cA a_me a_kinds a_kinds_cells u_size c_kinds)) X (c_X8_get l D cA a_kinds a_kinds_cells 6 c_kinds v1 _ hz_1) 1 rfl rfl rfl gX1_bears_X8_get rfl rfl rfl ⟨rfl, hd_X8_get⟩ ⟨Nat.le_of_ble_eq_true rfl, Nat.le_of_ble_eq_true rfl⟩ rfl rfl (Nat.le_of_ble_eq_true rfl) rfl (by decide +kernel) rfl (by decide +kernel) (by decide +kernel) ⟨Nat.zero_le _, Nat.zero_le _⟩ rfl (by decide +kernel) dX1_bears_5 rfl ?_
  rcases Decidable.em (z_1 = 2) with c_2 | c_2
  · have h := ite_t h c_2
    refine g_tin (v := 2) (tgt := 36) X dX1_bears_8 (by rw [c_2]; rfl) (by decide) (by decide) rfl (by decide) ?_
    refine g_iconst (v := 1) X dX1_bears_36 (by decide) rfl ?_
    cases Option.some.inj h
    exact hret _ _ dX1_bears_37 rfl
  · have h := ite_f h c_2
    rcases Decidable.em (z_1 = 3) with c_3 | c_3
    · have h := ite_t h c_3
      refine g_tin (v := 3) (tgt := 38) X dX1_bears_8 (by rw [c_3]; rfl) (by decide) (by decide) rfl (by decide) ?_
      refine g_iconst (v := 2) X dX1_bears_38 (by decide) rfl ?_
      cases Option.some.inj h
      exact hret _ _ dX1_bears_39 rfl
    · have h := ite_f h c_3
      rcases Decidable.em (z_1 = 4) with c_4 | c_4
      · have h := ite_t h c_4
        refine g_tin (v := 4) (tgt := 40) X dX1_bears_8 (by rw [c_4]; rfl) (by decide) (by decide) rfl (by decide) ?_
        refine g_bipush (v := 6) X dX1_bears_40 (by decide) rfl ?_
        cases Option.some.inj h
        exact hret _ _ dX1_bears_42 rfl
      · have h := ite_f h c_4
        have nc_2 := lv_neT c_2 (a := 2) rfl
        have nc_3 := lv_neT c_3 (a := 3) rfl
        have nc_4 := lv_neT c_4 (a := 4) rfl
        refine g_tout (tgt := 43) X dX1_bears_8 (by omega) (by decide) ?_
        refine g_iconst (v := 4) X dX1_bears_43 (by decide) rfl ?_
        cases Option.some.inj h
        exact hret _ _ dX1_bears_44 rfl
abbrev rm_X2_draw : Room := { frames := 0, cells := 0, slots := 0, locals := 0 }
theorem hd_X2_draw : yX2_draw.cls ≠ "java/lang/invoke/MethodHandle" ∧ yX2_draw.cls ≠ "java/lang/invoke/VarHandle" ∧ (parseMethodDescriptor yX2_draw.desc).map (fun d => d.parameters.length) = some 1 := by decide +kernel
theorem iw_X2_draw_X2 : ∀ w ∈ wsX20, w ∈ wsX2_draw := fun w h => List.mem_cons_of_mem _ (List.mem_append_right _ h)
theorem fl_X2_draw_X2_0 : Cond.fieldLink RX2 11 RX2 (TX2 0).2.1 (TX2 0).2.2.1 ∈ wsX2_draw := List.mem_of_getElem? (i := 2) rfl
abbrev w_X2_draw (cA : ClassId) (a_me : Nat) (c_seed : Int32) : va_W := [(a_me, .inr (2, [.int c_seed]))]
set_option maxHeartbeats 4000000 in
set_option maxRecDepth 100000 in
theorem c_X2_draw (l : Launch) (D : va_G) (cA : ClassId) (a_me : Nat)  (c_seed : Int32) (v1 : Int32) (z : Int32 × Int32) (h : f_X2_draw c_seed v1 = some z) : CtI l yX2_draw wsX2_draw rm_X2_draw D cA [.ref a_me, .int v1] (w_X2_draw cA a_me c_seed) z.1 (w_X2_draw cA a_me z.2) := by
  refine ct_I (maxL := 2) (ty := .int) (cc := cX2_draw) (by decide) rfl (Nat.le_of_ble_eq_true rfl) rfl (fun p e s m args below meth c A Q X hret => ?_)
  have h : (nam (Int64.toInt32 (((1103515245 * (Int32.toInt64 c_seed)) + 12345) - ((1103515245 * (Int32.toInt64 c_seed)) + 12345) / 2147483648 * 2147483648)) fun w_1 => if v1 ≤ 0 then some (0, w_1) else if v1 = 0 then none else some ((w_1 / 65536) - (w_1 / 65536) / v1 * v1, w_1) : Option (Int32 × Int32)) = some z := h
  refine g_aload_n X 0 rfl rfl dX2_draw_0 rfl ?_
  refine g_ldc2 (v := 1103515245) X (by decide +kernel) dX2_draw_1 rfl ?_
  refine g_aload_n X 0 rfl rfl dX2_draw_4 rfl ?_
  refine g_getf (C := RX2) (T := TX2) (N := 1) (v := .int c_seed) X 0 rfl vc_X2 0 (by decide) iw_X2_draw_X2 fl_X2_draw_X2_0 rfl rfl dX2_draw_5 rfl ?_
  refine g_i2l X dX2_draw_8 rfl ?_
  refine g_lmul X dX2_draw_9 rfl ?_
  refine g_ldc2 (v := 12345) X (by decide +kernel) dX2_draw_10 rfl ?_
  refine g_ladd X dX2_draw_13 rfl ?_
  refine g_ldc2 (v := 2147483648) X (by decide +kernel) dX2_draw_14 rfl ?_
  refine g_lrem X dX2_draw_17 (by decide) rfl ?_
  refine g_l2i X dX2_draw_18 rfl ?_
  refine g_nami h (fun w_1 h => ?_)
  refine g_putf (C := RX2) (T := TX2) (N := 1) (ty := .int) (ws' := (w_X2_draw cA a_me w_1)) X 0 tyX2 tyX2_ok nmX2 rfl vc_X2 0 (by decide) iw_X2_draw_X2 fl_X2_draw_X2_0 rfl rfl pd_X2_0 rfl rfl (Nat.le_of_ble_eq_true rfl) rfl dX2_draw_19 rfl ?_
  refine g_iload_n X 1 rfl rfl dX2_draw_22 rfl ?_
  refine g_if_le (tgt := 38) X dX2_draw_23 (by decide) rfl h (fun c_2 h => ?_) (fun c_2 h => ?_)
  · refine g_iconst (v := 0) X dX2_draw_38 (by decide) rfl ?_
    cases Option.some.inj h
    exact hret _ _ dX2_draw_39 rfl
  · refine g_aload_n X 0 rfl rfl dX2_draw_26 rfl ?_
    refine g_getf (C := RX2) (T := TX2) (N := 1) (v := .int w_1) X 0 rfl vc_X2 0 (by decide) iw_X2_draw_X2 fl_X2_draw_X2_0 rfl rfl dX2_draw_27 rfl ?_
    refine g_ldc (v := 65536) X (by decide +kernel) dX2_draw_30 rfl ?_
    refine g_idiv X dX2_draw_32 (by decide) rfl ?_
    refine g_iload_n X 1 rfl rfl dX2_draw_33 rfl ?_
    obtain ⟨c_3, h⟩ := ite_n h
    refine g_irem X dX2_draw_34 c_3 rfl ?_
    refine g_goto (tgt := 39) X dX2_draw_35 (by decide) ?_
    cases Option.some.inj h
    exact hret _ _ dX2_draw_39 rfl
abbrev rm_X8_copyFrom : Room := { frames := 1, cells := 0, slots := 0, locals := 21 }
theorem hd_X8_copyFrom : yX8_copyFrom.cls ≠ "java/lang/invoke/MethodHandle" ∧ yX8_copyFrom.cls ≠ "java/lang/invoke/VarHandle" ∧ (parseMethodDescriptor yX8_copyFrom.desc).map (fun d => d.parameters.length) = some 1 := by decide +kernel
theorem iw_X8_copyFrom_X8 : ∀ w ∈ wsX80, w ∈ wsX8_copyFrom := fun w h => List.mem_cons_of_mem _ (List.mem_append_right _ h)
theorem fl_X8_copyFrom_X8_0 : Cond.fieldLink RX8 7 RX8 (TX8 0).2.1 (TX8 0).2.2.1 ∈ wsX8_copyFrom := List.mem_of_getElem? (i := 1) rfl
abbrev w_X8_copyFrom (cA : ClassId) (a_me a_q1 a_cells a_q1_cells : Nat) (n_me : Nat) (n_q1 : Nat) (c_cells : A32) (c_q1 : A32) : va_W := [(a_me, .inr (8, [.ref a_cells])), (a_cells, .inl (cA, n_me, .inl c_cells)), (a_q1, .inr (8, [.ref a_q1_cells])), (a_q1_cells, .inl (cA, n_q1, .inl c_q1))]
set_option maxHeartbeats 4000000 in
set_option maxRecDepth 100000 in
theorem t_X8_copyFrom_b2 {l : Launch} {D : va_G} {cA : ClassId} {p : Program} {e : Env} {s : State} {m : MethodId} {args : Array Value} {below : List Frame} {meth : Method} {c : Code} {A : Nat → Prop} {Q : State → Prop} {z : A32} {a_me a_q1 a_cells a_q1_cells : Nat}   {n_me : Nat} {n_q1 : Nat} {c_q1 : A32}  (X : GX p s m args c cX8_copyFrom RX8 wsX8_copyFrom D cA A 3) (hret : RtV p l e rm_X8_copyFrom s m args below meth c cX8_copyFrom D A 3 0 0 Q (w_X8_copyFrom cA a_me a_q1 a_cells a_q1_cells n_me n_q1 z c_q1))  : ∀ (fu : Nat) (c_cells : A32) (v2 : Int32), f_X8_copyFrom_b2 n_me n_q1 c_q1 fu c_cells v2 = some z → G p l e rm_X8_copyFrom s m args below meth c D A 3 0 0 Q 2 [(0, .ref a_me), (1, .ref a_q1), (2, .int v2)] [] (w_X8_copyFrom cA a_me a_q1 a_cells a_q1_cells n_me n_q1 c_cells c_q1) := by
  intro fu
  induction fu with
  | zero => intro c_cells v2 h; exact absurd (show (none : Option (A32)) = some z from h) (by simp)
  | succ fu ih =>
    intro c_cells v2 h
    have h : (if (nI n_me) ≤ v2 then some c_cells else Option.bind (f_X8_get n_q1 c_q1 v2) fun z_2 => if inB v2 n_me then nam (v2 + 1) fun v2_3 => (f_X8_copyFrom_b2 n_me n_q1 c_q1 fu) (upd c_cells (Int32.toNatClampNeg v2) z_2) v2_3 else none : Option (A32)) = some z := h
    refine g_iload_n X 2 rfl rfl dX8_copyFrom_2 rfl ?_
    refine g_aload_n X 0 rfl rfl dX8_copyFrom_3 rfl ?_
    refine g_getf (C := RX8) (T := TX8) (N := 1) (v := .ref a_cells) X 0 rfl vc_X8 0 (by decide) iw_X8_copyFrom_X8 fl_X8_copyFrom_X8_0 rfl rfl dX8_copyFrom_4 rfl ?_
    refine g_alen X 1 rfl dX8_copyFrom_7 rfl ?_
    refine g_icmp_ge (tgt := 28) X dX8_copyFrom_8 (by decide) rfl h (fun c_1 h => ?_) (fun c_1 h => ?_)
    · cases Option.some.inj h
      exact hret _ _ dX8_copyFrom_28
    · refine g_aload_n X 0 rfl rfl dX8_copyFrom_11 rfl ?_
      refine g_getf (C := RX8) (T := TX8) (N := 1) (v := .ref a_cells) X 0 rfl vc_X8 0 (by decide) iw_X8_copyFrom_X8 fl_X8_copyFrom_X8_0 rfl rfl dX8_copyFrom_12 rfl ?_
      refine g_iload_n X 2 rfl rfl dX8_copyFrom_15 rfl ?_
      refine g_aload_n X 1 rfl rfl dX8_copyFrom_16 rfl ?_
      refine g_iload_n X 2 rfl rfl dX8_copyFrom_17 rfl ?_
      obtain ⟨z_2, hz_2, h⟩ := bnd_s h
      refine g_callVI (rm := rm_X8_get) (As := [.int v2]) (r := z_2) (W0 := (w_X8_get cA a_q1 a_q1_cells n_q1 c_q1)) (W1 := (w_X8_get cA a_q1 a_q1_cells n_q1 c_q1)) (isC := [2, 3]) (isR := [0, 1]) (perm := [0, 1, 2, 3]) (ws' := (w_X8_copyFrom cA a_me a_q1 a_cells a_q1_cells n_me n_q1 c_cells c_q1)) X (c_X8_get l D cA a_q1 a_q1_cells n_q1 c_q1 v2 _ hz_2) 2 rfl rfl rfl gX8_copyFrom_X8_get rfl rfl rfl ⟨rfl, hd_X8_get⟩ ⟨Nat.le_of_ble_eq_true rfl, Nat.le_of_ble_eq_true rfl⟩ rfl rfl (Nat.le_of_ble_eq_true rfl) rfl (by decide +kernel) rfl (by decide +kernel) (by decide +kernel) ⟨Nat.zero_le _, Nat.zero_le _⟩ rfl (by decide +kernel) dX8_copyFrom_18 rfl ?_
      refine g_iast (ws' := (w_X8_copyFrom cA a_me a_q1 a_cells a_q1_cells n_me n_q1 (upd c_cells (Int32.toNatClampNeg v2) z_2) c_q1)) X 1 rfl rfl dX8_copyFrom_21 rfl h (fun h => ?_)
      obtain ⟨v2_3, ev2_3, h⟩ := nam_s h
      refine g_iinc (v := v2_3) (lv' := [(2, .int v2_3), (0, .ref a_me), (1, .ref a_q1)]) X 2 rfl (by rw [ev2_3]; rfl) (by decide) rfl dX8_copyFrom_22 rfl ?_
      refine g_goto (tgt := 2) X dX8_copyFrom_25 (by decide) ?_
      refine g_lvs [1, 2, 0] rfl ?_
      exact ih _ _ h
set_option maxHeartbeats 4000000 in
set_option maxRecDepth 100000 in
theorem c_X8_copyFrom (l : Launch) (D : va_G) (cA : ClassId) (a_me a_q1 a_cells a_q1_cells : Nat)  (n_me : Nat) (n_q1 : Nat) (c_cells : A32) (c_q1 : A32) (z : A32) (h : f_X8_copyFrom n_me n_q1 c_cells c_q1 = some z) : CtV l yX8_copyFrom wsX8_copyFrom rm_X8_copyFrom D cA [.ref a_me, .ref a_q1] (w_X8_copyFrom cA a_me a_q1 a_cells a_q1_cells n_me n_q1 c_cells c_q1) Unit (fun _ => (w_X8_copyFrom cA a_me a_q1 a_cells a_q1_cells n_me n_q1 z c_q1)) 0 0 := by
  refine ct_V (maxL := 3) (cc := cX8_copyFrom) (by decide) rfl (Nat.le_of_ble_eq_true rfl) rfl (fun p e s m args below meth c A Q X _ hret => ?_)
  have hret := hret ()
  have h : (f_X8_copyFrom_b2 n_me n_q1 c_q1 FU c_cells 0 : Option (A32)) = some z := h
  refine g_iconst (v := 0) X dX8_copyFrom_0 (by decide) rfl ?_
  refine g_istore_n (lv' := [(2, .int 0), (0, .ref a_me), (1, .ref a_q1)]) X rfl (by decide) rfl dX8_copyFrom_1 rfl ?_
  refine g_lvs [1, 2, 0] rfl ?_
  exact t_X8_copyFrom_b2 X hret _ _ _ h
abbrev rm_X4_byteOf : Room := { frames := 0, cells := 0, slots := 0, locals := 0 }
theorem hd_X4_byteOf : yX4_byteOf.cls ≠ "java/lang/invoke/MethodHandle" ∧ yX4_byteOf.cls ≠ "java/lang/invoke/VarHandle" ∧ (parseMethodDescriptor yX4_byteOf.desc).map (fun d => d.parameters.length) = some 2 := by decide +kernel
set_option maxHeartbeats 4000000 in
set_option maxRecDepth 100000 in
theorem c_X4_byteOf (l : Launch) (D : va_G) (cA : ClassId)  (v0 : Int64) (v2 : Int32) (z : Int32) (h : f_X4_byteOf v0 v2 = some z) : CtI l yX4_byteOf wsX4_byteOf rm_X4_byteOf D cA [.long v0, .int v2] [] z [] := by
  refine ct_I (maxL := 3) (ty := .int) (cc := cX4_byteOf) (by decide) rfl (Nat.le_of_ble_eq_true rfl) rfl (fun p e s m args below meth c A Q X hret => ?_)
  have h : (some (Int64.toInt32 ((UInt64.toInt64 (Int64.toUInt64 v0 >>> (Int64.toUInt64 (Int32.toInt64 (8 * v2)) &&& Int64.toUInt64 63))) &&& 255)) : Option (Int32)) = some z := h
  refine g_lload_n X 0 rfl rfl dX4_byteOf_0 rfl ?_
  refine g_bipush (v := 8) X dX4_byteOf_1 (by decide) rfl ?_
  refine g_iload_n X 1 rfl rfl dX4_byteOf_3 rfl ?_
  refine g_imul X dX4_byteOf_4 rfl ?_
  refine g_lushr X dX4_byteOf_5 rfl ?_
  refine g_ldc2 (v := 255) X (by decide +kernel) dX4_byteOf_6 rfl ?_
  refine g_land X dX4_byteOf_9 rfl ?_
  refine g_l2i X dX4_byteOf_10 rfl ?_
  cases Option.some.inj h
  exact hret _ _ dX4_byteOf_11 rfl
abbrev rm_X4_lettersIn : Room := { frames := 1, cells := 0, slots := 0, locals := 22 }
theorem hd_X4_lettersIn : yX4_lettersIn.cls ≠ "java/lang/invoke/MethodHandle" ∧ yX4_lettersIn.cls ≠ "java/lang/invoke/VarHandle" ∧ (parseMethodDescriptor yX4_lettersIn.desc).map (fun d => d.parameters.length) = some 1 := by decide +kernel
set_option maxHeartbeats 4000000 in
set_option maxRecDepth 100000 in
theorem t_X4_lettersIn_b44 {l : Launch} {D : va_G} {cA : ClassId} {p : Program} {e : Env} {s : State} {m : MethodId} {args : Array Value} {below : List Frame} {meth : Method} {c : Code} {A : Nat → Prop} {Q : State → Prop} {z : Int32}   {v0 : Int64} {v2 : Int32} {v3 : Int32} {k4 : Int32 → Int32 → Option (Int32)} (X : GX p s m args c cX4_lettersIn RX4 wsX4_lettersIn D cA A 5) (hret : RtI p l e rm_X4_lettersIn s m args below meth c cX4_lettersIn D A 5 0 0 Q .int z []) (hk4 : ∀ (v2 : Int32) (v3 : Int32), k4 v2 v3 = some z → G p l e rm_X4_lettersIn s m args below meth c D A 5 0 0 Q 4 [(0, .long v0), (2, .int v2), (3, .int v3)] [] []) (h : f_X4_lettersIn_b44 k4 v0 v2 v3 = some z) : G p l e rm_X4_lettersIn s m args below meth c D A 5 0 0 Q 44 [(0, .long v0), (2, .int v2), (3, .int v3)] [] [] := by
  have h : (nam (v3 + 1) fun v3_1 => k4 v2 v3_1 : Option (Int32)) = some z := h
  obtain ⟨v3_1, ev3_1, h⟩ := nam_s h
  refine g_iinc (v := v3_1) (lv' := [(3, .int v3_1), (0, .long v0), (2, .int v2)]) X 2 rfl (by rw [ev3_1]; rfl) (by decide) rfl dX4_lettersIn_44 rfl ?_
  refine g_goto (tgt := 4) X dX4_lettersIn_47 (by decide) ?_
  refine g_lvs [1, 2, 0] rfl ?_
  exact hk4 _ _ h
set_option maxHeartbeats 4000000 in
set_option maxRecDepth 100000 in
theorem t_X4_lettersIn_b36 {l : Launch} {D : va_G} {cA : ClassId} {p : Program} {e : Env} {s : State} {m : MethodId} {args : Array Value} {below : List Frame} {meth : Method} {c : Code} {A : Nat → Prop} {Q : State → Prop} {z : Int32}   {v0 : Int64} {v2 : Int32} {v3 : Int32} {v4 : Int32} {k4 : Int32 → Int32 → Option (Int32)} (X : GX p s m args c cX4_lettersIn RX4 wsX4_lettersIn D cA A 5) (hret : RtI p l e rm_X4_lettersIn s m args below meth c cX4_lettersIn D A 5 0 0 Q .int z []) (hk4 : ∀ (v2 : Int32) (v3 : Int32), k4 v2 v3 = some z → G p l e rm_X4_lettersIn s m args below meth c D A 5 0 0 Q 4 [(0, .long v0), (2, .int v2), (3, .int v3)] [] []) (h : f_X4_lettersIn_b36 k4 v0 v2 v3 v4 = some z) : G p l e rm_X4_lettersIn s m args below meth c D A 5 0 0 Q 36 [(0, .long v0), (2, .int v2), (3, .int v3), (4, .int v4)] [] [] := by
  have h : (if v4 = 0 then f_X4_lettersIn_b44 k4 v0 v2 v3 else nam (v2 + 1) fun v2_2 => f_X4_lettersIn_b44 k4 v0 v2_2 v3 : Option (Int32)) = some z := h
  refine g_iload X 3 rfl dX4_lettersIn_36 rfl ?_
  refine g_if_eq (tgt := 44) X dX4_lettersIn_38 (by decide) rfl h (fun c_1 h => ?_) (fun c_1 h => ?_)
  · refine g_lvs [0, 1, 2] rfl ?_
    exact t_X4_lettersIn_b44 X hret hk4 h
  · obtain ⟨v2_2, ev2_2, h⟩ := nam_s h
    refine g_iinc (v := v2_2) (lv' := [(2, .int v2_2), (0, .long v0), (3, .int v3), (4, .int v4)]) X 1 rfl (by rw [ev2_2]; rfl) (by decide) rfl dX4_lettersIn_41 rfl ?_
    refine g_lvs [1, 0, 2] rfl ?_
    exact t_X4_lettersIn_b44 X hret hk4 h
set_option maxHeartbeats 4000000 in
set_option maxRecDepth 100000 in
theorem t_X4_lettersIn_b4 {l : Launch} {D : va_G} {cA : ClassId} {p : Program} {e : Env} {s : State} {m : MethodId} {args : Array Value} {below : List Frame} {meth : Method} {c : Code} {A : Nat → Prop} {Q : State → Prop} {z : Int32}   {v0 : Int64}  (X : GX p s m args c cX4_lettersIn RX4 wsX4_lettersIn D cA A 5) (hret : RtI p l e rm_X4_lettersIn s m args below meth c cX4_lettersIn D A 5 0 0 Q .int z [])  : ∀ (fu : Nat) (v2 : Int32) (v3 : Int32), f_X4_lettersIn_b4 v0 fu v2 v3 = some z → G p l e rm_X4_lettersIn s m args below meth c D A 5 0 0 Q 4 [(0, .long v0), (2, .int v2), (3, .int v3)] [] [] := by
  intro fu
  induction fu with
  | zero => intro v2 v3 h; exact absurd (show (none : Option (Int32)) = some z from h) (by simp)
  | succ fu ih =>
    intro v2 v3 h
    have h : (if 8 ≤ v3 then some v2 else Option.bind (f_X4_byteOf v0 v3) fun z_2 => if 126 < z_2 then some (-1) else if z_2 = 0 then f_X4_lettersIn_b36 (f_X4_lettersIn_b4 v0 fu) v0 v2 v3 z_2 else if v3 ≤ v2 then f_X4_lettersIn_b36 (f_X4_lettersIn_b4 v0 fu) v0 v2 v3 z_2 else some (-1) : Option (Int32)) = some z := h
    refine g_iload_n X 2 rfl rfl dX4_lettersIn_4 rfl ?_
    refine g_bipush (v := 8) X dX4_lettersIn_5 (by decide) rfl ?_
    refine g_icmp_ge (tgt := 50) X dX4_lettersIn_7 (by decide) rfl h (fun c_1 h => ?_) (fun c_1 h => ?_)
    · refine g_iload_n X 1 rfl rfl dX4_lettersIn_50 rfl ?_
      cases Option.some.inj h
      exact hret _ _ dX4_lettersIn_51 rfl
    · refine g_lload_n X 0 rfl rfl dX4_lettersIn_10 rfl ?_
      refine g_iload_n X 2 rfl rfl dX4_lettersIn_11 rfl ?_
      obtain ⟨z_2, hz_2, h⟩ := bnd_s h
      refine g_callSI (rm := rm_X4_byteOf) (As := [.long v0, .int v3]) (r := z_2) (W0 := []) (W1 := []) (isC := []) (isR := []) (perm := []) (ws' := []) X (c_X4_byteOf l D cA v0 v3 _ hz_2) gX4_lettersIn_X4_byteOf rfl rfl rfl hd_X4_byteOf ⟨Nat.le_of_ble_eq_true rfl, Nat.le_of_ble_eq_true rfl⟩ rfl rfl (Nat.le_of_ble_eq_true rfl) rfl (by decide +kernel) rfl (by decide +kernel) (by decide +kernel) ⟨Nat.zero_le _, Nat.zero_le _⟩ rfl (by decide +kernel) dX4_lettersIn_12 rfl ?_
      refine g_istore (lv' := [(4, .int z_2), (0, .long v0), (2, .int v2), (3, .int v3)]) X (by decide) rfl dX4_lettersIn_15 rfl ?_
      refine g_iload X 0 rfl dX4_lettersIn_17 rfl ?_
      refine g_bipush (v := 126) X dX4_lettersIn_19 (by decide) rfl ?_
      refine g_icmp_gt (tgt := 34) X dX4_lettersIn_21 (by decide) rfl h (fun c_3 h => ?_) (fun c_3 h => ?_)
      · refine g_iconst (v := (-1)) X dX4_lettersIn_34 (by decide) rfl ?_
        cases Option.some.inj h
        exact hret _ _ dX4_lettersIn_35 rfl
      · refine g_iload X 0 rfl dX4_lettersIn_24 rfl ?_
        refine g_if_eq (tgt := 36) X dX4_lettersIn_26 (by decide) rfl h (fun c_4 h => ?_) (fun c_4 h => ?_)
        · refine g_lvs [1, 2, 3, 0] rfl ?_
          exact t_X4_lettersIn_b36 X hret ih h
        · refine g_iload_n X 2 rfl rfl dX4_lettersIn_29 rfl ?_
          refine g_iload_n X 3 rfl rfl dX4_lettersIn_30 rfl ?_
          refine g_icmp_ge (tgt := 36) X dX4_lettersIn_31 (by decide) rfl h (fun c_5 h => ?_) (fun c_5 h => ?_)
          · refine g_lvs [1, 2, 3, 0] rfl ?_
            exact t_X4_lettersIn_b36 X hret ih h
          · refine g_iconst (v := (-1)) X dX4_lettersIn_34 (by decide) rfl ?_
            cases Option.some.inj h
            exact hret _ _ dX4_lettersIn_35 rfl
set_option maxHeartbeats 4000000 in
set_option maxRecDepth 100000 in
theorem c_X4_lettersIn (l : Launch) (D : va_G) (cA : ClassId)  (v0 : Int64) (z : Int32) (h : f_X4_lettersIn v0 = some z) : CtI l yX4_lettersIn wsX4_lettersIn rm_X4_lettersIn D cA [.long v0] [] z [] := by
  refine ct_I (maxL := 5) (ty := .int) (cc := cX4_lettersIn) (by decide) rfl (Nat.le_of_ble_eq_true rfl) rfl (fun p e s m args below meth c A Q X hret => ?_)
  have h : (f_X4_lettersIn_b4 v0 FU 0 0 : Option (Int32)) = some z := h
  refine g_iconst (v := 0) X dX4_lettersIn_0 (by decide) rfl ?_
  refine g_istore_n (lv' := [(2, .int 0), (0, .long v0)]) X rfl (by decide) rfl dX4_lettersIn_1 rfl ?_
  refine g_iconst (v := 0) X dX4_lettersIn_2 (by decide) rfl ?_
  refine g_istore_n (lv' := [(3, .int 0), (2, .int 0), (0, .long v0)]) X rfl (by decide) rfl dX4_lettersIn_3 rfl ?_
  refine g_lvs [2, 1, 0] rfl ?_
  exact t_X4_lettersIn_b4 X hret _ _ _ h
abbrev rm_X4_append : Room := { frames := 1, cells := 0, slots := 0, locals := 22 }
theorem hd_X4_append : yX4_append.cls ≠ "java/lang/invoke/MethodHandle" ∧ yX4_append.cls ≠ "java/lang/invoke/VarHandle" ∧ (parseMethodDescriptor yX4_append.desc).map (fun d => d.parameters.length) = some 2 := by decide +kernel
theorem iw_X4_append_X4 : ∀ w ∈ wsX40, w ∈ wsX4_append := fun w h => List.mem_cons_of_mem _ (List.mem_append_left _ (List.mem_append_right _ h))
theorem fl_X4_append_X4_0 : Cond.fieldLink RX4 14 RX4 (TX4 0).2.1 (TX4 0).2.2.1 ∈ wsX4_append := List.mem_of_getElem? (i := 1) rfl
theorem fl_X4_append_X4_1 : Cond.fieldLink RX4 33 RX4 (TX4 1).2.1 (TX4 1).2.2.1 ∈ wsX4_append := List.mem_of_getElem? (i := 2) rfl
abbrev w_X4_append (cA : ClassId) (a_me a_letters a_reader a_letters_cells : Nat) (c_length : Int32) (c_letters : A32) : va_W := [(a_me, .inr (4, [.ref a_letters, .int c_length, .ref a_reader])), (a_letters, .inr (8, [.ref a_letters_cells])), (a_letters_cells, .inl (cA, 66, .inl c_letters))]
set_option maxHeartbeats 4000000 in
set_option maxRecDepth 100000 in
theorem t_X4_append_b3 {l : Launch} {D : va_G} {cA : ClassId} {p : Program} {e : Env} {s : State} {m : MethodId} {args : Array Value} {below : List Frame} {meth : Method} {c : Code} {A : Nat → Prop} {Q : State → Prop} {z : Int32 × A32} {a_me a_letters a_reader a_letters_cells : Nat}   {v1 : Int64} {v3 : Int32}  (X : GX p s m args c cX4_append RX4 wsX4_append D cA A 5) (hret : RtV p l e rm_X4_append s m args below meth c cX4_append D A 5 0 0 Q (w_X4_append cA a_me a_letters a_reader a_letters_cells z.1 z.2))  : ∀ (fu : Nat) (c_length : Int32) (c_letters : A32) (v4 : Int32), f_X4_append_b3 v1 v3 fu c_length c_letters v4 = some z → G p l e rm_X4_append s m args below meth c D A 5 0 0 Q 3 [(0, .ref a_me), (1, .long v1), (3, .int v3), (4, .int v4)] [] (w_X4_append cA a_me a_letters a_reader a_letters_cells c_length c_letters) := by
  intro fu
  induction fu with
  | zero => intro c_length c_letters v4 h; exact absurd (show (none : Option (Int32 × A32)) = some z from h) (by simp)
  | succ fu ih =>
    intro c_length c_letters v4 h
    have h : (if v3 ≤ v4 then some (c_length, c_letters) else Option.bind (f_X4_byteOf v1 v4) fun z_2 => Option.bind (f_X8_set 66 c_letters c_length z_2) fun z_3 => nam (c_length + 1) fun w_4 => nam (v4 + 1) fun v4_5 => (f_X4_append_b3 v1 v3 fu) w_4 z_3 v4_5 : Option (Int32 × A32)) = some z := h
    refine g_iload X 3 rfl dX4_append_3 rfl ?_
    refine g_iload_n X 2 rfl rfl dX4_append_5 rfl ?_
    refine g_icmp_ge (tgt := 42) X dX4_append_6 (by decide) rfl h (fun c_1 h => ?_) (fun c_1 h => ?_)
    · cases Option.some.inj h
      exact hret _ _ dX4_append_42
    · refine g_aload_n X 0 rfl rfl dX4_append_9 rfl ?_
      refine g_getf (C := RX4) (T := TX4) (N := 3) (v := .ref a_letters) X 0 rfl vc_X4 0 (by decide) iw_X4_append_X4 fl_X4_append_X4_0 rfl rfl dX4_append_10 rfl ?_
      refine g_aload_n X 0 rfl rfl dX4_append_13 rfl ?_
      refine g_getf (C := RX4) (T := TX4) (N := 3) (v := .int c_length) X 0 rfl vc_X4 1 (by decide) iw_X4_append_X4 fl_X4_append_X4_1 rfl rfl dX4_append_14 rfl ?_
      refine g_lload_n X 1 rfl rfl dX4_append_17 rfl ?_
      refine g_iload X 3 rfl dX4_append_18 rfl ?_
      obtain ⟨z_2, hz_2, h⟩ := bnd_s h
      refine g_callSI (rm := rm_X4_byteOf) (As := [.long v1, .int v4]) (r := z_2) (W0 := []) (W1 := []) (isC := []) (isR := [0, 1, 2]) (perm := [0, 1, 2]) (ws' := (w_X4_append cA a_me a_letters a_reader a_letters_cells c_length c_letters)) X (c_X4_byteOf l D cA v1 v4 _ hz_2) gX4_append_X4_byteOf rfl rfl rfl hd_X4_byteOf ⟨Nat.le_of_ble_eq_true rfl, Nat.le_of_ble_eq_true rfl⟩ rfl rfl (Nat.le_of_ble_eq_true rfl) rfl (by decide +kernel) rfl (by decide +kernel) (by decide +kernel) ⟨Nat.zero_le _, Nat.zero_le _⟩ rfl (by decide +kernel) dX4_append_20 rfl ?_
      obtain ⟨z_3, hz_3, h⟩ := bnd_s h
      refine g_callVV (rm := rm_X8_set) (As := [.int c_length, .int z_2]) (W0 := (w_X8_set cA a_letters a_letters_cells 66 c_letters)) (W1 := (w_X8_set cA a_letters a_letters_cells 66 z_3)) (isC := [1, 2]) (isR := [0]) (perm := [0, 1, 2]) (ws' := (w_X4_append cA a_me a_letters a_reader a_letters_cells c_length z_3)) X (c_X8_set l D cA a_letters a_letters_cells 66 c_letters c_length z_2 _ hz_3) 1 rfl rfl rfl gX4_append_X8_set rfl rfl rfl ⟨rfl, hd_X8_set⟩ ⟨Nat.le_of_ble_eq_true rfl, Nat.le_of_ble_eq_true rfl⟩ rfl rfl (Nat.le_of_ble_eq_true rfl) rfl (by decide +kernel) rfl (by decide +kernel) (by decide +kernel) ⟨Nat.zero_le _, Nat.zero_le _⟩ rfl (by decide +kernel) dX4_append_23 rfl ?_
      refine g_aload_n X 0 rfl rfl dX4_append_26 rfl ?_
      refine g_dup X dX4_append_27 rfl rfl ?_
      refine g_getf (C := RX4) (T := TX4) (N := 3) (v := .int c_length) X 0 rfl vc_X4 1 (by decide) iw_X4_append_X4 fl_X4_append_X4_1 rfl rfl dX4_append_28 rfl ?_
      refine g_iconst (v := 1) X dX4_append_31 (by decide) rfl ?_
      refine g_iadd X dX4_append_32 rfl ?_
      refine g_nami h (fun w_4 h => ?_)
      refine g_putf (C := RX4) (T := TX4) (N := 3) (ty := .int) (ws' := (w_X4_append cA a_me a_letters a_reader a_letters_cells w_4 z_3)) X 0 tyX4 tyX4_ok nmX4 rfl vc_X4 1 (by decide) iw_X4_append_X4 fl_X4_append_X4_1 rfl rfl pd_X4_1 rfl rfl (Nat.le_of_ble_eq_true rfl) rfl dX4_append_33 rfl ?_
      obtain ⟨v4_5, ev4_5, h⟩ := nam_s h
      refine g_iinc (v := v4_5) (lv' := [(4, .int v4_5), (0, .ref a_me), (1, .long v1), (3, .int v3)]) X 3 rfl (by rw [ev4_5]; rfl) (by decide) rfl dX4_append_36 rfl ?_
      refine g_goto (tgt := 3) X dX4_append_39 (by decide) ?_
      refine g_lvs [1, 2, 3, 0] rfl ?_
      exact ih _ _ _ h
set_option maxHeartbeats 4000000 in
set_option maxRecDepth 100000 in
theorem c_X4_append (l : Launch) (D : va_G) (cA : ClassId) (a_me a_letters a_reader a_letters_cells : Nat)  (c_length : Int32) (c_letters : A32) (v1 : Int64) (v3 : Int32) (z : Int32 × A32) (h : f_X4_append c_length c_letters v1 v3 = some z) : CtV l yX4_append wsX4_append rm_X4_append D cA [.ref a_me, .long v1, .int v3] (w_X4_append cA a_me a_letters a_reader a_letters_cells c_length c_letters) Unit (fun _ => (w_X4_append cA a_me a_letters a_reader a_letters_cells z.1 z.2)) 0 0 := by
  refine ct_V (maxL := 5) (cc := cX4_append) (by decide) rfl (Nat.le_of_ble_eq_true rfl) rfl (fun p e s m args below meth c A Q X _ hret => ?_)
  have hret := hret ()
  have h : (f_X4_append_b3 v1 v3 FU c_length c_letters 0 : Option (Int32 × A32)) = some z := h
  refine g_iconst (v := 0) X dX4_append_0 (by decide) rfl ?_
  refine g_istore (lv' := [(4, .int 0), (0, .ref a_me), (1, .long v1), (3, .int v3)]) X (by decide) rfl dX4_append_1 rfl ?_
  refine g_lvs [1, 2, 3, 0] rfl ?_
  exact t_X4_append_b3 X hret _ _ _ _ h
abbrev rm_X6_start : Room := { frames := 0, cells := 0, slots := 0, locals := 0 }
theorem hd_X6_start : yX6_start.cls ≠ "java/lang/invoke/MethodHandle" ∧ yX6_start.cls ≠ "java/lang/invoke/VarHandle" ∧ (parseMethodDescriptor yX6_start.desc).map (fun d => d.parameters.length) = some 0 := by decide +kernel
theorem iw_X6_start_X6 : ∀ w ∈ wsX60, w ∈ wsX6_start := fun w h => List.mem_cons_of_mem _ (List.mem_append_right _ h)
theorem fl_X6_start_X6_0 : Cond.fieldLink RX6 11 RX6 (TX6 0).2.1 (TX6 0).2.2.1 ∈ wsX6_start := List.mem_of_getElem? (i := 1) rfl
theorem fl_X6_start_X6_2 : Cond.fieldLink RX6 15 RX6 (TX6 2).2.1 (TX6 2).2.2.1 ∈ wsX6_start := List.mem_of_getElem? (i := 2) rfl
theorem fl_X6_start_X6_3 : Cond.fieldLink RX6 18 RX6 (TX6 3).2.1 (TX6 3).2.2.1 ∈ wsX6_start := List.mem_of_getElem? (i := 3) rfl
abbrev w_X6_start (cA : ClassId) (a_me : Nat) (u_first : Int32) (c_due : Int32) (c_galleries : Int32) (c_shafts : Int32) : va_W := [(a_me, .inr (6, [.int c_due, .int u_first, .int c_galleries, .int c_shafts]))]
set_option maxHeartbeats 4000000 in
set_option maxRecDepth 100000 in
theorem c_X6_start (l : Launch) (D : va_G) (cA : ClassId) (a_me : Nat) (u_first : Int32) (c_due : Int32) (c_galleries : Int32) (c_shafts : Int32) (z : Int32 × Int32 × Int32) (h : f_X6_start c_due c_galleries c_shafts = some z) : CtV l yX6_start wsX6_start rm_X6_start D cA [.ref a_me] (w_X6_start cA a_me u_first c_due c_galleries c_shafts) Unit (fun _ => (w_X6_start cA a_me u_first z.1 z.2.1 z.2.2)) 0 0 := by
  refine ct_V (maxL := 1) (cc := cX6_start) (by decide) rfl (Nat.le_of_ble_eq_true rfl) rfl (fun p e s m args below meth c A Q X _ hret => ?_)
  have hret := hret ()
  have h : (some (0, 0, 0) : Option (Int32 × Int32 × Int32)) = some z := h
  refine g_aload_n X 0 rfl rfl dX6_start_0 rfl ?_
  refine g_iconst (v := 0) X dX6_start_1 (by decide) rfl ?_
  refine g_putf (C := RX6) (T := TX6) (N := 4) (ty := .int) (ws' := (w_X6_start cA a_me u_first 0 c_galleries c_shafts)) X 0 tyX6 tyX6_ok nmX6 rfl vc_X6 0 (by decide) iw_X6_start_X6 fl_X6_start_X6_0 rfl rfl pd_X6_0 rfl rfl (Nat.le_of_ble_eq_true rfl) rfl dX6_start_2 rfl ?_
  refine g_aload_n X 0 rfl rfl dX6_start_5 rfl ?_
  refine g_iconst (v := 0) X dX6_start_6 (by decide) rfl ?_
  refine g_putf (C := RX6) (T := TX6) (N := 4) (ty := .int) (ws' := (w_X6_start cA a_me u_first 0 0 c_shafts)) X 0 tyX6 tyX6_ok nmX6 rfl vc_X6 2 (by decide) iw_X6_start_X6 fl_X6_start_X6_2 rfl rfl pd_X6_2 rfl rfl (Nat.le_of_ble_eq_true rfl) rfl dX6_start_7 rfl ?_
  refine g_aload_n X 0 rfl rfl dX6_start_10 rfl ?_
  refine g_iconst (v := 0) X dX6_start_11 (by decide) rfl ?_
  refine g_putf (C := RX6) (T := TX6) (N := 4) (ty := .int) (ws' := (w_X6_start cA a_me u_first 0 0 0)) X 0 tyX6 tyX6_ok nmX6 rfl vc_X6 3 (by decide) iw_X6_start_X6 fl_X6_start_X6_3 rfl rfl pd_X6_3 rfl rfl (Nat.le_of_ble_eq_true rfl) rfl dX6_start_12 rfl ?_
  cases Option.some.inj h
  exact hret _ _ dX6_start_15
abbrev rm_X10_isKnot : Room := { frames := 0, cells := 0, slots := 0, locals := 0 }
theorem hd_X10_isKnot : yX10_isKnot.cls ≠ "java/lang/invoke/MethodHandle" ∧ yX10_isKnot.cls ≠ "java/lang/invoke/VarHandle" ∧ (parseMethodDescriptor yX10_isKnot.desc).map (fun d => d.parameters.length) = some 1 := by decide +kernel
set_option maxHeartbeats 4000000 in
set_option maxRecDepth 100000 in
theorem c_X10_isKnot (l : Launch) (D : va_G) (cA : ClassId)  (v0 : Int32) (z : Int32) (h : f_X10_isKnot v0 = some z) : CtI l yX10_isKnot wsX10_isKnot rm_X10_isKnot D cA [.int v0] [] z [] := by
  refine ct_I (maxL := 1) (ty := .boolean) (cc := cX10_isKnot) (by decide) rfl (Nat.le_of_ble_eq_true rfl) rfl (fun p e s m args below meth c A Q X hret => ?_)
  have h : (if v0 < 0 then some 0 else if 7 ≤ v0 then some 0 else some 1 : Option (Int32)) = some z := h
  refine g_iload_n X 0 rfl rfl dX10_isKnot_0 rfl ?_
  refine g_if_lt (tgt := 14) X dX10_isKnot_1 (by decide) rfl h (fun c_1 h => ?_) (fun c_1 h => ?_)
  · refine g_iconst (v := 0) X dX10_isKnot_14 (by decide) rfl ?_
    cases Option.some.inj h
    exact hret _ _ dX10_isKnot_15 (nar_z (Or.inl rfl))
  · refine g_iload_n X 0 rfl rfl dX10_isKnot_4 rfl ?_
    refine g_bipush (v := 7) X dX10_isKnot_5 (by decide) rfl ?_
    refine g_icmp_ge (tgt := 14) X dX10_isKnot_7 (by decide) rfl h (fun c_2 h => ?_) (fun c_2 h => ?_)
    · refine g_iconst (v := 0) X dX10_isKnot_14 (by decide) rfl ?_
      cases Option.some.inj h
      exact hret _ _ dX10_isKnot_15 (nar_z (Or.inl rfl))
    · refine g_iconst (v := 1) X dX10_isKnot_10 (by decide) rfl ?_
      refine g_goto (tgt := 15) X dX10_isKnot_11 (by decide) ?_
      cases Option.some.inj h
      exact hret _ _ dX10_isKnot_15 (nar_z (Or.inr rfl))
abbrev rm_X6_takesShaft : Room := { frames := 1, cells := 0, slots := 0, locals := 21 }
theorem hd_X6_takesShaft : yX6_takesShaft.cls ≠ "java/lang/invoke/MethodHandle" ∧ yX6_takesShaft.cls ≠ "java/lang/invoke/VarHandle" ∧ (parseMethodDescriptor yX6_takesShaft.desc).map (fun d => d.parameters.length) = some 1 := by decide +kernel
theorem iw_X6_takesShaft_X6 : ∀ w ∈ wsX60, w ∈ wsX6_takesShaft := fun w h => List.mem_cons_of_mem _ (List.mem_append_right _ h)
theorem fl_X6_takesShaft_X6_3 : Cond.fieldLink RX6 18 RX6 (TX6 3).2.1 (TX6 3).2.2.1 ∈ wsX6_takesShaft := List.mem_of_getElem? (i := 1) rfl
theorem fl_X6_takesShaft_X6_0 : Cond.fieldLink RX6 11 RX6 (TX6 0).2.1 (TX6 0).2.2.1 ∈ wsX6_takesShaft := List.mem_of_getElem? (i := 2) rfl
abbrev w_X6_takesShaft (cA : ClassId) (a_me : Nat) (u_first : Int32) (u_galleries : Int32) (c_due : Int32) (c_shafts : Int32) : va_W := [(a_me, .inr (6, [.int c_due, .int u_first, .int u_galleries, .int c_shafts]))]
set_option maxHeartbeats 4000000 in
set_option maxRecDepth 100000 in
theorem c_X6_takesShaft (l : Launch) (D : va_G) (cA : ClassId) (a_me : Nat) (u_first : Int32) (u_galleries : Int32) (c_due : Int32) (c_shafts : Int32) (v1 : Int32) (z : Int32 × Int32 × Int32) (h : f_X6_takesShaft c_due c_shafts v1 = some z) : CtI l yX6_takesShaft wsX6_takesShaft rm_X6_takesShaft D cA [.ref a_me, .int v1] (w_X6_takesShaft cA a_me u_first u_galleries c_due c_shafts) z.1 (w_X6_takesShaft cA a_me u_first u_galleries z.2.1 z.2.2) := by
  refine ct_I (maxL := 2) (ty := .boolean) (cc := cX6_takesShaft) (by decide) rfl (Nat.le_of_ble_eq_true rfl) rfl (fun p e s m args below meth c A Q X hret => ?_)
  have h : (Option.bind (f_X10_isKnot v1) fun z_1 => if z_1 = 0 then some (0, c_due, c_shafts) else Option.bind (f_X10_bit c_shafts v1) fun z_3 => if z_3 = 1 then some (0, c_due, c_shafts) else nam (c_shafts ||| (1 <<< (v1 &&& 31))) fun w_5 => some (1, 6, w_5) : Option (Int32 × Int32 × Int32)) = some z := h
  refine g_iload_n X 1 rfl rfl dX6_takesShaft_0 rfl ?_
  obtain ⟨z_1, hz_1, h⟩ := bnd_s h
  refine g_callSNI (rm := rm_X10_isKnot) (As := [.int v1]) (r := z_1) (W0 := []) (W1 := []) (isC := []) (isR := [0]) (perm := [0]) (ws' := (w_X6_takesShaft cA a_me u_first u_galleries c_due c_shafts)) X (c_X10_isKnot l D cA v1 _ hz_1) gX6_takesShaft_X10_isKnot_n24 (by decide +kernel) (by decide +kernel) (by decide +kernel) rfl rfl rfl hd_X10_isKnot ⟨Nat.le_of_ble_eq_true rfl, Nat.le_of_ble_eq_true rfl⟩ rfl rfl (Nat.le_of_ble_eq_true rfl) rfl (by decide +kernel) rfl (by decide +kernel) (by decide +kernel) ⟨Nat.zero_le _, Nat.zero_le _⟩ rfl (by decide +kernel) dX6_takesShaft_1 rfl ?_
  refine g_if_eq (tgt := 19) X dX6_takesShaft_4 (by decide) rfl h (fun c_2 h => ?_) (fun c_2 h => ?_)
  · refine g_iconst (v := 0) X dX6_takesShaft_19 (by decide) rfl ?_
    cases Option.some.inj h
    exact hret _ _ dX6_takesShaft_20 (nar_z (Or.inl rfl))
  · refine g_aload_n X 0 rfl rfl dX6_takesShaft_7 rfl ?_
    refine g_getf (C := RX6) (T := TX6) (N := 4) (v := .int c_shafts) X 0 rfl vc_X6 3 (by decide) iw_X6_takesShaft_X6 fl_X6_takesShaft_X6_3 rfl rfl dX6_takesShaft_8 rfl ?_
    refine g_iload_n X 1 rfl rfl dX6_takesShaft_11 rfl ?_
    obtain ⟨z_3, hz_3, h⟩ := bnd_s h
    refine g_callSNI (rm := rm_X10_bit) (As := [.int c_shafts, .int v1]) (r := z_3) (W0 := []) (W1 := []) (isC := []) (isR := [0]) (perm := [0]) (ws' := (w_X6_takesShaft cA a_me u_first u_galleries c_due c_shafts)) X (c_X10_bit l D cA c_shafts v1 _ hz_3) gX6_takesShaft_X10_bit_n40 (by decide +kernel) (by decide +kernel) (by decide +kernel) rfl rfl rfl hd_X10_bit ⟨Nat.le_of_ble_eq_true rfl, Nat.le_of_ble_eq_true rfl⟩ rfl rfl (Nat.le_of_ble_eq_true rfl) rfl (by decide +kernel) rfl (by decide +kernel) (by decide +kernel) ⟨Nat.zero_le _, Nat.zero_le _⟩ rfl (by decide +kernel) dX6_takesShaft_12 rfl ?_
    refine g_iconst (v := 1) X dX6_takesShaft_15 (by decide) rfl ?_
    refine g_icmp_ne (tgt := 21) X dX6_takesShaft_16 (by decide) rfl h (fun c_4 h => ?_) (fun c_4 h => ?_)
    · refine g_aload_n X 0 rfl rfl dX6_takesShaft_21 rfl ?_
      refine g_dup X dX6_takesShaft_22 rfl rfl ?_
      refine g_getf (C := RX6) (T := TX6) (N := 4) (v := .int c_shafts) X 0 rfl vc_X6 3 (by decide) iw_X6_takesShaft_X6 fl_X6_takesShaft_X6_3 rfl rfl dX6_takesShaft_23 rfl ?_
      refine g_iconst (v := 1) X dX6_takesShaft_26 (by decide) rfl ?_
      refine g_iload_n X 1 rfl rfl dX6_takesShaft_27 rfl ?_
      refine g_ishl X dX6_takesShaft_28 rfl ?_
      refine g_ior X dX6_takesShaft_29 rfl ?_
      refine g_nami h (fun w_5 h => ?_)
      refine g_putf (C := RX6) (T := TX6) (N := 4) (ty := .int) (ws' := (w_X6_takesShaft cA a_me u_first u_galleries c_due w_5)) X 0 tyX6 tyX6_ok nmX6 rfl vc_X6 3 (by decide) iw_X6_takesShaft_X6 fl_X6_takesShaft_X6_3 rfl rfl pd_X6_3 rfl rfl (Nat.le_of_ble_eq_true rfl) rfl dX6_takesShaft_30 rfl ?_
      refine g_aload_n X 0 rfl rfl dX6_takesShaft_33 rfl ?_
      refine g_bipush (v := 6) X dX6_takesShaft_34 (by decide) rfl ?_
      refine g_putf (C := RX6) (T := TX6) (N := 4) (ty := .int) (ws' := (w_X6_takesShaft cA a_me u_first u_galleries 6 w_5)) X 0 tyX6 tyX6_ok nmX6 rfl vc_X6 0 (by decide) iw_X6_takesShaft_X6 fl_X6_takesShaft_X6_0 rfl rfl pd_X6_0 rfl rfl (Nat.le_of_ble_eq_true rfl) rfl dX6_takesShaft_36 rfl ?_
      refine g_iconst (v := 1) X dX6_takesShaft_39 (by decide) rfl ?_
      cases Option.some.inj h
      exact hret _ _ dX6_takesShaft_40 (nar_z (Or.inr rfl))
    · refine g_iconst (v := 0) X dX6_takesShaft_19 (by decide) rfl ?_
      cases Option.some.inj h
      exact hret _ _ dX6_takesShaft_20 (nar_z (Or.inl rfl))
abbrev rm_X6_takesBreak : Room := { frames := 0, cells := 0, slots := 0, locals := 0 }
theorem hd_X6_takesBreak : yX6_takesBreak.cls ≠ "java/lang/invoke/MethodHandle" ∧ yX6_takesBreak.cls ≠ "java/lang/invoke/VarHandle" ∧ (parseMethodDescriptor yX6_takesBreak.desc).map (fun d => d.parameters.length) = some 1 := by decide +kernel
theorem iw_X6_takesBreak_X6 : ∀ w ∈ wsX60, w ∈ wsX6_takesBreak := fun w h => List.mem_cons_of_mem _ (List.mem_append_right _ h)
theorem fl_X6_takesBreak_X6_0 : Cond.fieldLink RX6 11 RX6 (TX6 0).2.1 (TX6 0).2.2.1 ∈ wsX6_takesBreak := List.mem_of_getElem? (i := 1) rfl
theorem fl_X6_takesBreak_X6_2 : Cond.fieldLink RX6 15 RX6 (TX6 2).2.1 (TX6 2).2.2.1 ∈ wsX6_takesBreak := List.mem_of_getElem? (i := 2) rfl
abbrev w_X6_takesBreak (cA : ClassId) (a_me : Nat) (u_first : Int32) (u_shafts : Int32) (c_due : Int32) (c_galleries : Int32) : va_W := [(a_me, .inr (6, [.int c_due, .int u_first, .int c_galleries, .int u_shafts]))]
set_option maxHeartbeats 4000000 in
set_option maxRecDepth 100000 in
theorem t_X6_takesBreak_b36 {l : Launch} {D : va_G} {cA : ClassId} {p : Program} {e : Env} {s : State} {m : MethodId} {args : Array Value} {below : List Frame} {meth : Method} {c : Code} {A : Nat → Prop} {Q : State → Prop} {z : Int32 × Int32} {a_me : Nat} {u_first : Int32} {u_shafts : Int32} {c_galleries : Int32} {c_due : Int32}  (X : GX p s m args c cX6_takesBreak RX6 wsX6_takesBreak D cA A 2) (hret : RtI p l e rm_X6_takesBreak s m args below meth c cX6_takesBreak D A 2 0 0 Q .boolean z.1 (w_X6_takesBreak cA a_me u_first u_shafts z.2 c_galleries))  (h : f_X6_takesBreak_b36 c_due = some z) : G p l e rm_X6_takesBreak s m args below meth c D A 2 0 0 Q 36 [] [] (w_X6_takesBreak cA a_me u_first u_shafts c_due c_galleries) := by
  have h : (some (1, c_due) : Option (Int32 × Int32)) = some z := h
  refine g_iconst (v := 1) X dX6_takesBreak_36 (by decide) rfl ?_
  refine g_goto (tgt := 41) X dX6_takesBreak_37 (by decide) ?_
  cases Option.some.inj h
  exact hret _ _ dX6_takesBreak_41 (nar_z (Or.inr rfl))
set_option maxHeartbeats 4000000 in
set_option maxRecDepth 100000 in
theorem t_X6_takesBreak_b12 {l : Launch} {D : va_G} {cA : ClassId} {p : Program} {e : Env} {s : State} {m : MethodId} {args : Array Value} {below : List Frame} {meth : Method} {c : Code} {A : Nat → Prop} {Q : State → Prop} {z : Int32 × Int32} {a_me : Nat} {u_first : Int32} {u_shafts : Int32}  {c_due : Int32} {c_galleries : Int32} {t1 : Int32} {v1 : Int32}  (X : GX p s m args c cX6_takesBreak RX6 wsX6_takesBreak D cA A 2) (hret : RtI p l e rm_X6_takesBreak s m args below meth c cX6_takesBreak D A 2 0 0 Q .boolean z.1 (w_X6_takesBreak cA a_me u_first u_shafts z.2 c_galleries))  (h : f_X6_takesBreak_b12 c_due c_galleries t1 v1 = some z) : G p l e rm_X6_takesBreak s m args below meth c D A 2 0 0 Q 12 [(0, .ref a_me), (1, .int v1)] [.int t1, .ref a_me] (w_X6_takesBreak cA a_me u_first u_shafts c_due c_galleries) := by
  have h : (if v1 = 59 then f_X6_takesBreak_b36 t1 else if v1 = 44 then if 10 ≤ c_galleries then some (0, t1) else f_X6_takesBreak_b36 t1 else some (0, t1) : Option (Int32 × Int32)) = some z := h
  refine g_putf (C := RX6) (T := TX6) (N := 4) (ty := .int) (ws' := (w_X6_takesBreak cA a_me u_first u_shafts t1 c_galleries)) X 0 tyX6 tyX6_ok nmX6 rfl vc_X6 0 (by decide) iw_X6_takesBreak_X6 fl_X6_takesBreak_X6_0 rfl rfl pd_X6_0 rfl rfl (Nat.le_of_ble_eq_true rfl) rfl dX6_takesBreak_12 rfl ?_
  refine g_iload_n X 1 rfl rfl dX6_takesBreak_15 rfl ?_
  refine g_bipush (v := 59) X dX6_takesBreak_16 (by decide) rfl ?_
  refine g_icmp_eq (tgt := 36) X dX6_takesBreak_18 (by decide) rfl h (fun c_1 h => ?_) (fun c_1 h => ?_)
  · refine g_lvs [] rfl ?_
    exact t_X6_takesBreak_b36 X hret h
  · refine g_iload_n X 1 rfl rfl dX6_takesBreak_21 rfl ?_
    refine g_bipush (v := 44) X dX6_takesBreak_22 (by decide) rfl ?_
    refine g_icmp_ne (tgt := 40) X dX6_takesBreak_24 (by decide) rfl h (fun c_2 h => ?_) (fun c_2 h => ?_)
    · refine g_iconst (v := 0) X dX6_takesBreak_40 (by decide) rfl ?_
      cases Option.some.inj h
      exact hret _ _ dX6_takesBreak_41 (nar_z (Or.inl rfl))
    · refine g_aload_n X 0 rfl rfl dX6_takesBreak_27 rfl ?_
      refine g_getf (C := RX6) (T := TX6) (N := 4) (v := .int c_galleries) X 0 rfl vc_X6 2 (by decide) iw_X6_takesBreak_X6 fl_X6_takesBreak_X6_2 rfl rfl dX6_takesBreak_28 rfl ?_
      refine g_bipush (v := 10) X dX6_takesBreak_31 (by decide) rfl ?_
      refine g_icmp_ge (tgt := 40) X dX6_takesBreak_33 (by decide) rfl h (fun c_3 h => ?_) (fun c_3 h => ?_)
      · refine g_iconst (v := 0) X dX6_takesBreak_40 (by decide) rfl ?_
        cases Option.some.inj h
        exact hret _ _ dX6_takesBreak_41 (nar_z (Or.inl rfl))
      · refine g_lvs [] rfl ?_
        exact t_X6_takesBreak_b36 X hret h
set_option maxHeartbeats 4000000 in
set_option maxRecDepth 100000 in
theorem c_X6_takesBreak (l : Launch) (D : va_G) (cA : ClassId) (a_me : Nat) (u_first : Int32) (u_shafts : Int32) (c_due : Int32) (c_galleries : Int32) (v1 : Int32) (z : Int32 × Int32) (h : f_X6_takesBreak c_due c_galleries v1 = some z) : CtI l yX6_takesBreak wsX6_takesBreak rm_X6_takesBreak D cA [.ref a_me, .int v1] (w_X6_takesBreak cA a_me u_first u_shafts c_due c_galleries) z.1 (w_X6_takesBreak cA a_me u_first u_shafts z.2 c_galleries) := by
  refine ct_I (maxL := 2) (ty := .boolean) (cc := cX6_takesBreak) (by decide) rfl (Nat.le_of_ble_eq_true rfl) rfl (fun p e s m args below meth c A Q X hret => ?_)
  have h : (if v1 = 59 then f_X6_takesBreak_b12 c_due c_galleries 5 v1 else f_X6_takesBreak_b12 c_due c_galleries 0 v1 : Option (Int32 × Int32)) = some z := h
  refine g_aload_n X 0 rfl rfl dX6_takesBreak_0 rfl ?_
  refine g_iload_n X 1 rfl rfl dX6_takesBreak_1 rfl ?_
  refine g_bipush (v := 59) X dX6_takesBreak_2 (by decide) rfl ?_
  refine g_icmp_ne (tgt := 11) X dX6_takesBreak_4 (by decide) rfl h (fun c_1 h => ?_) (fun c_1 h => ?_)
  · refine g_iconst (v := 0) X dX6_takesBreak_11 (by decide) rfl ?_
    exact t_X6_takesBreak_b12 X hret h
  · refine g_iconst (v := 5) X dX6_takesBreak_7 (by decide) rfl ?_
    refine g_goto (tgt := 12) X dX6_takesBreak_8 (by decide) ?_
    exact t_X6_takesBreak_b12 X hret h
abbrev rm_X6_takes : Room := { frames := 2, cells := 0, slots := 0, locals := 42 }
theorem hd_X6_takes : yX6_takes.cls ≠ "java/lang/invoke/MethodHandle" ∧ yX6_takes.cls ≠ "java/lang/invoke/VarHandle" ∧ (parseMethodDescriptor yX6_takes.desc).map (fun d => d.parameters.length) = some 1 := by decide +kernel
theorem iw_X6_takes_X6 : ∀ w ∈ wsX60, w ∈ wsX6_takes := fun w h => List.mem_cons_of_mem _ (List.mem_append_right _ h)
theorem fl_X6_takes_X6_0 : Cond.fieldLink RX6 11 RX6 (TX6 0).2.1 (TX6 0).2.2.1 ∈ wsX6_takes := List.mem_of_getElem? (i := 1) rfl
theorem fl_X6_takes_X6_1 : Cond.fieldLink RX6 21 RX6 (TX6 1).2.1 (TX6 1).2.2.1 ∈ wsX6_takes := List.mem_of_getElem? (i := 2) rfl
theorem fl_X6_takes_X6_2 : Cond.fieldLink RX6 15 RX6 (TX6 2).2.1 (TX6 2).2.2.1 ∈ wsX6_takes := List.mem_of_getElem? (i := 3) rfl
abbrev w_X6_takes (cA : ClassId) (a_me : Nat) (c_due : Int32) (c_first : Int32) (c_galleries : Int32) (c_shafts : Int32) : va_W := [(a_me, .inr (6, [.int c_due, .int c_first, .int c_galleries, .int c_shafts]))]
set_option maxHeartbeats 4000000 in
set_option maxRecDepth 100000 in
theorem t_X6_takes_b143 {l : Launch} {D : va_G} {cA : ClassId} {p : Program} {e : Env} {s : State} {m : MethodId} {args : Array Value} {below : List Frame} {meth : Method} {c : Code} {A : Nat → Prop} {Q : State → Prop} {z : Int32 × Int32 × Int32 × Int32 × Int32} {a_me : Nat}   {c_due : Int32} {c_first : Int32} {c_galleries : Int32} {c_shafts : Int32}  (X : GX p s m args c cX6_takes RX6 wsX6_takes D cA A 2) (hret : RtI p l e rm_X6_takes s m args below meth c cX6_takes D A 2 0 0 Q .boolean z.1 (w_X6_takes cA a_me z.2.1 z.2.2.1 z.2.2.2.1 z.2.2.2.2))  (h : f_X6_takes_b143 c_due c_first c_galleries c_shafts = some z) : G p l e rm_X6_takes s m args below meth c D A 2 0 0 Q 143 [] [] (w_X6_takes cA a_me c_due c_first c_galleries c_shafts) := by
  have h : (some (1, c_due, c_first, c_galleries, c_shafts) : Option (Int32 × Int32 × Int32 × Int32 × Int32)) = some z := h
  refine g_iconst (v := 1) X dX6_takes_143 (by decide) rfl ?_
  refine g_goto (tgt := 148) X dX6_takes_144 (by decide) ?_
  cases Option.some.inj h
  exact hret _ _ dX6_takes_148 (nar_z (Or.inr rfl))
set_option maxHeartbeats 4000000 in
set_option maxRecDepth 100000 in
theorem c_X6_takes (l : Launch) (D : va_G) (cA : ClassId) (a_me : Nat)  (c_due : Int32) (c_first : Int32) (c_galleries : Int32) (c_shafts : Int32) (v1 : Int32) (z : Int32 × Int32 × Int32 × Int32 × Int32) (h : f_X6_takes c_due c_first c_galleries c_shafts v1 = some z) : CtI l yX6_takes wsX6_takes rm_X6_takes D cA [.ref a_me, .int v1] (w_X6_takes cA a_me c_due c_first c_galleries c_shafts) z.1 (w_X6_takes cA a_me z.2.1 z.2.2.1 z.2.2.2.1 z.2.2.2.2) := by
  refine ct_I (maxL := 2) (ty := .boolean) (cc := cX6_takes) (by decide) rfl (Nat.le_of_ble_eq_true rfl) rfl (fun p e s m args below meth c A Q X hret => ?_)
  have h : (if c_due = 0 then Option.bind (f_X10_isKnot (v1 - 48)) fun z_2 => if z_2 = 0 ∨ z_2 = 1 then some (z_2, 1, v1, c_galleries, c_shafts) else none else if c_due = 1 then Option.bind (f_X10_isKnot (v1 - 48)) fun z_5 => if z_5 = 0 then some (0, 2, c_first, c_galleries, c_shafts) else if v1 = c_first then some (0, 2, c_first, c_galleries, c_shafts) else some (1, 2, c_first, c_galleries, c_shafts) else if c_due = 2 then nam (c_galleries + 1) fun w_9 => if v1 < 49 then some (0, 3, c_first, w_9, c_shafts) else if 57 < v1 then some (0, 3, c_first, w_9, c_shafts) else some (1, 3, c_first, w_9, c_shafts) else if c_due = 3 then if v1 = 100 then f_X6_takes_b143 4 c_first c_galleries c_shafts else Option.bind (f_X6_takesBreak 4 c_galleries v1) fun z_14 => if z_14.1 = 0 then some (0, z_14.2, c_first, c_galleries, c_shafts) else f_X6_takes_b143 z_14.2 c_first c_galleries c_shafts else if c_due = 4 then Option.bind (f_X6_takesBreak c_due c_galleries v1) fun z_17 => if z_17.1 = 0 ∨ z_17.1 = 1 then some (z_17.1, z_17.2, c_first, c_galleries, c_shafts) else none else if c_due = 5 then Option.bind (f_X6_takesShaft c_due c_shafts (v1 - 48)) fun z_20 => if z_20.1 = 0 ∨ z_20.1 = 1 then some (z_20.1, z_20.2.1, c_first, c_galleries, z_20.2.2) else none else if v1 < 48 then some (0, 5, c_first, c_galleries, c_shafts) else if 57 < v1 then some (0, 5, c_first, c_galleries, c_shafts) else some (1, 5, c_first, c_galleries, c_shafts) : Option (Int32 × Int32 × Int32 × Int32 × Int32)) = some z := h
  refine g_aload_n X 0 rfl rfl dX6_takes_0 rfl ?_
  refine g_getf (C := RX6) (T := TX6) (N := 4) (v := .int c_due) X 0 rfl vc_X6 0 (by decide) iw_X6_takes_X6 fl_X6_takes_X6_0 rfl rfl dX6_takes_1 rfl ?_
  rcases Decidable.em (c_due = 0) with c_1 | c_1
  · have h := ite_t h c_1
    refine g_tin (v := 0) (tgt := 44) X dX6_takes_4 (by rw [c_1]; rfl) (by decide) (by decide) rfl (by decide) ?_
    refine g_aload_n X 0 rfl rfl dX6_takes_44 rfl ?_
    refine g_iload_n X 1 rfl rfl dX6_takes_45 rfl ?_
    refine g_putf (C := RX6) (T := TX6) (N := 4) (ty := .int) (ws' := (w_X6_takes cA a_me c_due v1 c_galleries c_shafts)) X 0 tyX6 tyX6_ok nmX6 rfl vc_X6 1 (by decide) iw_X6_takes_X6 fl_X6_takes_X6_1 rfl rfl pd_X6_1 rfl rfl (Nat.le_of_ble_eq_true rfl) rfl dX6_takes_46 rfl ?_
    refine g_aload_n X 0 rfl rfl dX6_takes_49 rfl ?_
    refine g_iconst (v := 1) X dX6_takes_50 (by decide) rfl ?_
    refine g_putf (C := RX6) (T := TX6) (N := 4) (ty := .int) (ws' := (w_X6_takes cA a_me 1 v1 c_galleries c_shafts)) X 0 tyX6 tyX6_ok nmX6 rfl vc_X6 0 (by decide) iw_X6_takes_X6 fl_X6_takes_X6_0 rfl rfl pd_X6_0 rfl rfl (Nat.le_of_ble_eq_true rfl) rfl dX6_takes_51 rfl ?_
    refine g_iload_n X 1 rfl rfl dX6_takes_54 rfl ?_
    refine g_bipush (v := 48) X dX6_takes_55 (by decide) rfl ?_
    refine g_isub X dX6_takes_57 rfl ?_
    obtain ⟨z_2, hz_2, h⟩ := bnd_s h
    refine g_callSNI (rm := rm_X10_isKnot) (As := [.int (v1 - 48)]) (r := z_2) (W0 := []) (W1 := []) (isC := []) (isR := [0]) (perm := [0]) (ws' := (w_X6_takes cA a_me 1 v1 c_galleries c_shafts)) X (c_X10_isKnot l D cA (v1 - 48) _ hz_2) gX6_takes_X10_isKnot_n24 (by decide +kernel) (by decide +kernel) (by decide +kernel) rfl rfl rfl hd_X10_isKnot ⟨Nat.le_of_ble_eq_true rfl, Nat.le_of_ble_eq_true rfl⟩ rfl rfl (Nat.le_of_ble_eq_true rfl) rfl (by decide +kernel) rfl (by decide +kernel) (by decide +kernel) ⟨Nat.zero_le _, Nat.zero_le _⟩ rfl (by decide +kernel) dX6_takes_58 rfl ?_
    obtain ⟨c_3, h⟩ := ite_y h
    cases Option.some.inj h
    exact hret _ _ dX6_takes_61 (nar_z c_3)
  · have h := ite_f h c_1
    rcases Decidable.em (c_due = 1) with c_4 | c_4
    · have h := ite_t h c_4
      refine g_tin (v := 1) (tgt := 62) X dX6_takes_4 (by rw [c_4]; rfl) (by decide) (by decide) rfl (by decide) ?_
      refine g_aload_n X 0 rfl rfl dX6_takes_62 rfl ?_
      refine g_iconst (v := 2) X dX6_takes_63 (by decide) rfl ?_
      refine g_putf (C := RX6) (T := TX6) (N := 4) (ty := .int) (ws' := (w_X6_takes cA a_me 2 c_first c_galleries c_shafts)) X 0 tyX6 tyX6_ok nmX6 rfl vc_X6 0 (by decide) iw_X6_takes_X6 fl_X6_takes_X6_0 rfl rfl pd_X6_0 rfl rfl (Nat.le_of_ble_eq_true rfl) rfl dX6_takes_64 rfl ?_
      refine g_iload_n X 1 rfl rfl dX6_takes_67 rfl ?_
      refine g_bipush (v := 48) X dX6_takes_68 (by decide) rfl ?_
      refine g_isub X dX6_takes_70 rfl ?_
      obtain ⟨z_5, hz_5, h⟩ := bnd_s h
      refine g_callSNI (rm := rm_X10_isKnot) (As := [.int (v1 - 48)]) (r := z_5) (W0 := []) (W1 := []) (isC := []) (isR := [0]) (perm := [0]) (ws' := (w_X6_takes cA a_me 2 c_first c_galleries c_shafts)) X (c_X10_isKnot l D cA (v1 - 48) _ hz_5) gX6_takes_X10_isKnot_n24 (by decide +kernel) (by decide +kernel) (by decide +kernel) rfl rfl rfl hd_X10_isKnot ⟨Nat.le_of_ble_eq_true rfl, Nat.le_of_ble_eq_true rfl⟩ rfl rfl (Nat.le_of_ble_eq_true rfl) rfl (by decide +kernel) rfl (by decide +kernel) (by decide +kernel) ⟨Nat.zero_le _, Nat.zero_le _⟩ rfl (by decide +kernel) dX6_takes_71 rfl ?_
      refine g_if_eq (tgt := 89) X dX6_takes_74 (by decide) rfl h (fun c_6 h => ?_) (fun c_6 h => ?_)
      · refine g_iconst (v := 0) X dX6_takes_89 (by decide) rfl ?_
        cases Option.some.inj h
        exact hret _ _ dX6_takes_90 (nar_z (Or.inl rfl))
      · refine g_iload_n X 1 rfl rfl dX6_takes_77 rfl ?_
        refine g_aload_n X 0 rfl rfl dX6_takes_78 rfl ?_
        refine g_getf (C := RX6) (T := TX6) (N := 4) (v := .int c_first) X 0 rfl vc_X6 1 (by decide) iw_X6_takes_X6 fl_X6_takes_X6_1 rfl rfl dX6_takes_79 rfl ?_
        refine g_icmp_eq (tgt := 89) X dX6_takes_82 (by decide) rfl h (fun c_7 h => ?_) (fun c_7 h => ?_)
        · refine g_iconst (v := 0) X dX6_takes_89 (by decide) rfl ?_
          cases Option.some.inj h
          exact hret _ _ dX6_takes_90 (nar_z (Or.inl rfl))
        · refine g_iconst (v := 1) X dX6_takes_85 (by decide) rfl ?_
          refine g_goto (tgt := 90) X dX6_takes_86 (by decide) ?_
          cases Option.some.inj h
          exact hret _ _ dX6_takes_90 (nar_z (Or.inr rfl))
    · have h := ite_f h c_4
      rcases Decidable.em (c_due = 2) with c_8 | c_8
      · have h := ite_t h c_8
        refine g_tin (v := 2) (tgt := 91) X dX6_takes_4 (by rw [c_8]; rfl) (by decide) (by decide) rfl (by decide) ?_
        refine g_aload_n X 0 rfl rfl dX6_takes_91 rfl ?_
        refine g_dup X dX6_takes_92 rfl rfl ?_
        refine g_getf (C := RX6) (T := TX6) (N := 4) (v := .int c_galleries) X 0 rfl vc_X6 2 (by decide) iw_X6_takes_X6 fl_X6_takes_X6_2 rfl rfl dX6_takes_93 rfl ?_
        refine g_iconst (v := 1) X dX6_takes_96 (by decide) rfl ?_
        refine g_iadd X dX6_takes_97 rfl ?_
        refine g_nami h (fun w_9 h => ?_)
        refine g_putf (C := RX6) (T := TX6) (N := 4) (ty := .int) (ws' := (w_X6_takes cA a_me c_due c_first w_9 c_shafts)) X 0 tyX6 tyX6_ok nmX6 rfl vc_X6 2 (by decide) iw_X6_takes_X6 fl_X6_takes_X6_2 rfl rfl pd_X6_2 rfl rfl (Nat.le_of_ble_eq_true rfl) rfl dX6_takes_98 rfl ?_
        refine g_aload_n X 0 rfl rfl dX6_takes_101 rfl ?_
        refine g_iconst (v := 3) X dX6_takes_102 (by decide) rfl ?_
        refine g_putf (C := RX6) (T := TX6) (N := 4) (ty := .int) (ws' := (w_X6_takes cA a_me 3 c_first w_9 c_shafts)) X 0 tyX6 tyX6_ok nmX6 rfl vc_X6 0 (by decide) iw_X6_takes_X6 fl_X6_takes_X6_0 rfl rfl pd_X6_0 rfl rfl (Nat.le_of_ble_eq_true rfl) rfl dX6_takes_103 rfl ?_
        refine g_iload_n X 1 rfl rfl dX6_takes_106 rfl ?_
        refine g_bipush (v := 49) X dX6_takes_107 (by decide) rfl ?_
        refine g_icmp_lt (tgt := 122) X dX6_takes_109 (by decide) rfl h (fun c_10 h => ?_) (fun c_10 h => ?_)
        · refine g_iconst (v := 0) X dX6_takes_122 (by decide) rfl ?_
          cases Option.some.inj h
          exact hret _ _ dX6_takes_123 (nar_z (Or.inl rfl))
        · refine g_iload_n X 1 rfl rfl dX6_takes_112 rfl ?_
          refine g_bipush (v := 57) X dX6_takes_113 (by decide) rfl ?_
          refine g_icmp_gt (tgt := 122) X dX6_takes_115 (by decide) rfl h (fun c_11 h => ?_) (fun c_11 h => ?_)
          · refine g_iconst (v := 0) X dX6_takes_122 (by decide) rfl ?_
            cases Option.some.inj h
            exact hret _ _ dX6_takes_123 (nar_z (Or.inl rfl))
          · refine g_iconst (v := 1) X dX6_takes_118 (by decide) rfl ?_
            refine g_goto (tgt := 123) X dX6_takes_119 (by decide) ?_
            cases Option.some.inj h
            exact hret _ _ dX6_takes_123 (nar_z (Or.inr rfl))
      · have h := ite_f h c_8
        rcases Decidable.em (c_due = 3) with c_12 | c_12
        · have h := ite_t h c_12
          refine g_tin (v := 3) (tgt := 124) X dX6_takes_4 (by rw [c_12]; rfl) (by decide) (by decide) rfl (by decide) ?_
          refine g_aload_n X 0 rfl rfl dX6_takes_124 rfl ?_
          refine g_iconst (v := 4) X dX6_takes_125 (by decide) rfl ?_
          refine g_putf (C := RX6) (T := TX6) (N := 4) (ty := .int) (ws' := (w_X6_takes cA a_me 4 c_first c_galleries c_shafts)) X 0 tyX6 tyX6_ok nmX6 rfl vc_X6 0 (by decide) iw_X6_takes_X6 fl_X6_takes_X6_0 rfl rfl pd_X6_0 rfl rfl (Nat.le_of_ble_eq_true rfl) rfl dX6_takes_126 rfl ?_
          refine g_iload_n X 1 rfl rfl dX6_takes_129 rfl ?_
          refine g_bipush (v := 100) X dX6_takes_130 (by decide) rfl ?_
          refine g_icmp_eq (tgt := 143) X dX6_takes_132 (by decide) rfl h (fun c_13 h => ?_) (fun c_13 h => ?_)
          · refine g_lvs [] rfl ?_
            exact t_X6_takes_b143 X hret h
          · refine g_aload_n X 0 rfl rfl dX6_takes_135 rfl ?_
            refine g_iload_n X 1 rfl rfl dX6_takes_136 rfl ?_
            obtain ⟨z_14, hz_14, h⟩ := bnd_s h
            refine g_callVI (rm := rm_X6_takesBreak) (As := [.int v1]) (r := z_14.1) (W0 := (w_X6_takesBreak cA a_me c_first c_shafts 4 c_galleries)) (W1 := (w_X6_takesBreak cA a_me c_first c_shafts z_14.2 c_galleries)) (isC := [0]) (isR := []) (perm := [0]) (ws' := (w_X6_takes cA a_me z_14.2 c_first c_galleries c_shafts)) X (c_X6_takesBreak l D cA a_me c_first c_shafts 4 c_galleries v1 _ hz_14) 0 rfl rfl rfl gX6_takes_X6_takesBreak rfl rfl rfl ⟨rfl, hd_X6_takesBreak⟩ ⟨Nat.le_of_ble_eq_true rfl, Nat.le_of_ble_eq_true rfl⟩ rfl rfl (Nat.le_of_ble_eq_true rfl) rfl (by decide +kernel) rfl (by decide +kernel) (by decide +kernel) ⟨Nat.zero_le _, Nat.zero_le _⟩ rfl (by decide +kernel) dX6_takes_137 rfl ?_
            refine g_if_eq (tgt := 147) X dX6_takes_140 (by decide) rfl h (fun c_15 h => ?_) (fun c_15 h => ?_)
            · refine g_iconst (v := 0) X dX6_takes_147 (by decide) rfl ?_
              cases Option.some.inj h
              exact hret _ _ dX6_takes_148 (nar_z (Or.inl rfl))
            · refine g_lvs [] rfl ?_
              exact t_X6_takes_b143 X hret h
        · have h := ite_f h c_12
          rcases Decidable.em (c_due = 4) with c_16 | c_16
          · have h := ite_t h c_16
            refine g_tin (v := 4) (tgt := 149) X dX6_takes_4 (by rw [c_16]; rfl) (by decide) (by decide) rfl (by decide) ?_
            refine g_aload_n X 0 rfl rfl dX6_takes_149 rfl ?_
            refine g_iload_n X 1 rfl rfl dX6_takes_150 rfl ?_
            obtain ⟨z_17, hz_17, h⟩ := bnd_s h
            refine g_callVI (rm := rm_X6_takesBreak) (As := [.int v1]) (r := z_17.1) (W0 := (w_X6_takesBreak cA a_me c_first c_shafts c_due c_galleries)) (W1 := (w_X6_takesBreak cA a_me c_first c_shafts z_17.2 c_galleries)) (isC := [0]) (isR := []) (perm := [0]) (ws' := (w_X6_takes cA a_me z_17.2 c_first c_galleries c_shafts)) X (c_X6_takesBreak l D cA a_me c_first c_shafts c_due c_galleries v1 _ hz_17) 0 rfl rfl rfl gX6_takes_X6_takesBreak rfl rfl rfl ⟨rfl, hd_X6_takesBreak⟩ ⟨Nat.le_of_ble_eq_true rfl, Nat.le_of_ble_eq_true rfl⟩ rfl rfl (Nat.le_of_ble_eq_true rfl) rfl (by decide +kernel) rfl (by decide +kernel) (by decide +kernel) ⟨Nat.zero_le _, Nat.zero_le _⟩ rfl (by decide +kernel) dX6_takes_151 rfl ?_
            obtain ⟨c_18, h⟩ := ite_y h
            cases Option.some.inj h
            exact hret _ _ dX6_takes_154 (nar_z c_18)
          · have h := ite_f h c_16
            rcases Decidable.em (c_due = 5) with c_19 | c_19
            · have h := ite_t h c_19
              refine g_tin (v := 5) (tgt := 155) X dX6_takes_4 (by rw [c_19]; rfl) (by decide) (by decide) rfl (by decide) ?_
              refine g_aload_n X 0 rfl rfl dX6_takes_155 rfl ?_
              refine g_iload_n X 1 rfl rfl dX6_takes_156 rfl ?_
              refine g_bipush (v := 48) X dX6_takes_157 (by decide) rfl ?_
              refine g_isub X dX6_takes_159 rfl ?_
              obtain ⟨z_20, hz_20, h⟩ := bnd_s h
              refine g_callVI (rm := rm_X6_takesShaft) (As := [.int (v1 - 48)]) (r := z_20.1) (W0 := (w_X6_takesShaft cA a_me c_first c_galleries c_due c_shafts)) (W1 := (w_X6_takesShaft cA a_me c_first c_galleries z_20.2.1 z_20.2.2)) (isC := [0]) (isR := []) (perm := [0]) (ws' := (w_X6_takes cA a_me z_20.2.1 c_first c_galleries z_20.2.2)) X (c_X6_takesShaft l D cA a_me c_first c_galleries c_due c_shafts (v1 - 48) _ hz_20) 0 rfl rfl rfl gX6_takes_X6_takesShaft rfl rfl rfl ⟨rfl, hd_X6_takesShaft⟩ ⟨Nat.le_of_ble_eq_true rfl, Nat.le_of_ble_eq_true rfl⟩ rfl rfl (Nat.le_of_ble_eq_true rfl) rfl (by decide +kernel) rfl (by decide +kernel) (by decide +kernel) ⟨Nat.zero_le _, Nat.zero_le _⟩ rfl (by decide +kernel) dX6_takes_160 rfl ?_
              obtain ⟨c_21, h⟩ := ite_y h
              cases Option.some.inj h
              exact hret _ _ dX6_takes_163 (nar_z c_21)
            · have h := ite_f h c_19
              have nc_1 := lv_neT c_1 (a := 0) rfl
              have nc_4 := lv_neT c_4 (a := 1) rfl
              have nc_8 := lv_neT c_8 (a := 2) rfl
              have nc_12 := lv_neT c_12 (a := 3) rfl
              have nc_16 := lv_neT c_16 (a := 4) rfl
              have nc_19 := lv_neT c_19 (a := 5) rfl
              refine g_tout (tgt := 164) X dX6_takes_4 (by omega) (by decide) ?_
              refine g_aload_n X 0 rfl rfl dX6_takes_164 rfl ?_
              refine g_iconst (v := 5) X dX6_takes_165 (by decide) rfl ?_
              refine g_putf (C := RX6) (T := TX6) (N := 4) (ty := .int) (ws' := (w_X6_takes cA a_me 5 c_first c_galleries c_shafts)) X 0 tyX6 tyX6_ok nmX6 rfl vc_X6 0 (by decide) iw_X6_takes_X6 fl_X6_takes_X6_0 rfl rfl pd_X6_0 rfl rfl (Nat.le_of_ble_eq_true rfl) rfl dX6_takes_166 rfl ?_
              refine g_iload_n X 1 rfl rfl dX6_takes_169 rfl ?_
              refine g_bipush (v := 48) X dX6_takes_170 (by decide) rfl ?_
              refine g_icmp_lt (tgt := 185) X dX6_takes_172 (by decide) rfl h (fun c_22 h => ?_) (fun c_22 h => ?_)
              · refine g_iconst (v := 0) X dX6_takes_185 (by decide) rfl ?_
                cases Option.some.inj h
                exact hret _ _ dX6_takes_186 (nar_z (Or.inl rfl))
              · refine g_iload_n X 1 rfl rfl dX6_takes_175 rfl ?_
                refine g_bipush (v := 57) X dX6_takes_176 (by decide) rfl ?_
                refine g_icmp_gt (tgt := 185) X dX6_takes_178 (by decide) rfl h (fun c_23 h => ?_) (fun c_23 h => ?_)
                · refine g_iconst (v := 0) X dX6_takes_185 (by decide) rfl ?_
                  cases Option.some.inj h
                  exact hret _ _ dX6_takes_186 (nar_z (Or.inl rfl))
                · refine g_iconst (v := 1) X dX6_takes_181 (by decide) rfl ?_
                  refine g_goto (tgt := 186) X dX6_takes_182 (by decide) ?_
                  cases Option.some.inj h
                  exact hret _ _ dX6_takes_186 (nar_z (Or.inr rfl))
abbrev rm_X4_firstFault : Room := { frames := 3, cells := 0, slots := 0, locals := 63 }
theorem hd_X4_firstFault : yX4_firstFault.cls ≠ "java/lang/invoke/MethodHandle" ∧ yX4_firstFault.cls ≠ "java/lang/invoke/VarHandle" ∧ (parseMethodDescriptor yX4_firstFault.desc).map (fun d => d.parameters.length) = some 0 := by decide +kernel
theorem iw_X4_firstFault_X4 : ∀ w ∈ wsX40, w ∈ wsX4_firstFault := fun w h => List.mem_cons_of_mem _ (List.mem_append_left _ (List.mem_append_left _ (List.mem_append_right _ h)))
theorem fl_X4_firstFault_X4_2 : Cond.fieldLink RX4 23 RX4 (TX4 2).2.1 (TX4 2).2.2.1 ∈ wsX4_firstFault := List.mem_of_getElem? (i := 1) rfl
theorem fl_X4_firstFault_X4_1 : Cond.fieldLink RX4 33 RX4 (TX4 1).2.1 (TX4 1).2.2.1 ∈ wsX4_firstFault := List.mem_of_getElem? (i := 2) rfl
theorem fl_X4_firstFault_X4_0 : Cond.fieldLink RX4 14 RX4 (TX4 0).2.1 (TX4 0).2.2.1 ∈ wsX4_firstFault := List.mem_of_getElem? (i := 3) rfl
abbrev w_X4_firstFault (cA : ClassId) (a_me a_letters a_reader a_letters_cells : Nat) (c_length : Int32) (c_letters : A32) (c_reader_due : Int32) (c_reader_first : Int32) (c_reader_galleries : Int32) (c_reader_shafts : Int32) : va_W := [(a_me, .inr (4, [.ref a_letters, .int c_length, .ref a_reader])), (a_letters, .inr (8, [.ref a_letters_cells])), (a_letters_cells, .inl (cA, 66, .inl c_letters)), (a_reader, .inr (6, [.int c_reader_due, .int c_reader_first, .int c_reader_galleries, .int c_reader_shafts]))]
set_option maxHeartbeats 4000000 in
set_option maxRecDepth 100000 in
theorem t_X4_firstFault_b9 {l : Launch} {D : va_G} {cA : ClassId} {p : Program} {e : Env} {s : State} {m : MethodId} {args : Array Value} {below : List Frame} {meth : Method} {c : Code} {A : Nat → Prop} {Q : State → Prop} {z : Int32 × Int32 × Int32 × Int32 × Int32} {a_me a_letters a_reader a_letters_cells : Nat}   {c_length : Int32} {c_letters : A32}  (X : GX p s m args c cX4_firstFault RX4 wsX4_firstFault D cA A 2) (hret : RtI p l e rm_X4_firstFault s m args below meth c cX4_firstFault D A 2 0 0 Q .int z.1 (w_X4_firstFault cA a_me a_letters a_reader a_letters_cells c_length c_letters z.2.1 z.2.2.1 z.2.2.2.1 z.2.2.2.2))  : ∀ (fu : Nat) (c_reader_due : Int32) (c_reader_first : Int32) (c_reader_galleries : Int32) (c_reader_shafts : Int32) (v1 : Int32), f_X4_firstFault_b9 c_length c_letters fu c_reader_due c_reader_first c_reader_galleries c_reader_shafts v1 = some z → G p l e rm_X4_firstFault s m args below meth c D A 2 0 0 Q 9 [(0, .ref a_me), (1, .int v1)] [] (w_X4_firstFault cA a_me a_letters a_reader a_letters_cells c_length c_letters c_reader_due c_reader_first c_reader_galleries c_reader_shafts) := by
  intro fu
  induction fu with
  | zero => intro c_reader_due c_reader_first c_reader_galleries c_reader_shafts v1 h; exact absurd (show (none : Option (Int32 × Int32 × Int32 × Int32 × Int32)) = some z from h) (by simp)
  | succ fu ih =>
    intro c_reader_due c_reader_first c_reader_galleries c_reader_shafts v1 h
    have h : (if c_length ≤ v1 then some (c_length, c_reader_due, c_reader_first, c_reader_galleries, c_reader_shafts) else Option.bind (f_X8_get 66 c_letters v1) fun z_2 => Option.bind (f_X6_takes c_reader_due c_reader_first c_reader_galleries c_reader_shafts z_2) fun z_3 => if z_3.1 = 0 then some (v1, z_3.2.1, z_3.2.2.1, z_3.2.2.2.1, z_3.2.2.2.2) else nam (v1 + 1) fun v1_5 => (f_X4_firstFault_b9 c_length c_letters fu) z_3.2.1 z_3.2.2.1 z_3.2.2.2.1 z_3.2.2.2.2 v1_5 : Option (Int32 × Int32 × Int32 × Int32 × Int32)) = some z := h
    refine g_iload_n X 1 rfl rfl dX4_firstFault_9 rfl ?_
    refine g_aload_n X 0 rfl rfl dX4_firstFault_10 rfl ?_
    refine g_getf (C := RX4) (T := TX4) (N := 3) (v := .int c_length) X 0 rfl vc_X4 1 (by decide) iw_X4_firstFault_X4 fl_X4_firstFault_X4_1 rfl rfl dX4_firstFault_11 rfl ?_
    refine g_icmp_ge (tgt := 43) X dX4_firstFault_14 (by decide) rfl h (fun c_1 h => ?_) (fun c_1 h => ?_)
    · refine g_aload_n X 0 rfl rfl dX4_firstFault_43 rfl ?_
      refine g_getf (C := RX4) (T := TX4) (N := 3) (v := .int c_length) X 0 rfl vc_X4 1 (by decide) iw_X4_firstFault_X4 fl_X4_firstFault_X4_1 rfl rfl dX4_firstFault_44 rfl ?_
      cases Option.some.inj h
      exact hret _ _ dX4_firstFault_47 rfl
    · refine g_aload_n X 0 rfl rfl dX4_firstFault_17 rfl ?_
      refine g_getf (C := RX4) (T := TX4) (N := 3) (v := .ref a_reader) X 0 rfl vc_X4 2 (by decide) iw_X4_firstFault_X4 fl_X4_firstFault_X4_2 rfl rfl dX4_firstFault_18 rfl ?_
      refine g_aload_n X 0 rfl rfl dX4_firstFault_21 rfl ?_
      refine g_getf (C := RX4) (T := TX4) (N := 3) (v := .ref a_letters) X 0 rfl vc_X4 0 (by decide) iw_X4_firstFault_X4 fl_X4_firstFault_X4_0 rfl rfl dX4_firstFault_22 rfl ?_
      refine g_iload_n X 1 rfl rfl dX4_firstFault_25 rfl ?_
      obtain ⟨z_2, hz_2, h⟩ := bnd_s h
      refine g_callVI (rm := rm_X8_get) (As := [.int v1]) (r := z_2) (W0 := (w_X8_get cA a_letters a_letters_cells 66 c_letters)) (W1 := (w_X8_get cA a_letters a_letters_cells 66 c_letters)) (isC := [1, 2]) (isR := [0, 3]) (perm := [0, 2, 3, 1]) (ws' := (w_X4_firstFault cA a_me a_letters a_reader a_letters_cells c_length c_letters c_reader_due c_reader_first c_reader_galleries c_reader_shafts)) X (c_X8_get l D cA a_letters a_letters_cells 66 c_letters v1 _ hz_2) 1 rfl rfl rfl gX4_firstFault_X8_get rfl rfl rfl ⟨rfl, hd_X8_get⟩ ⟨Nat.le_of_ble_eq_true rfl, Nat.le_of_ble_eq_true rfl⟩ rfl rfl (Nat.le_of_ble_eq_true rfl) rfl (by decide +kernel) rfl (by decide +kernel) (by decide +kernel) ⟨Nat.zero_le _, Nat.zero_le _⟩ rfl (by decide +kernel) dX4_firstFault_26 rfl ?_
      obtain ⟨z_3, hz_3, h⟩ := bnd_s h
      refine g_callVI (rm := rm_X6_takes) (As := [.int z_2]) (r := z_3.1) (W0 := (w_X6_takes cA a_reader c_reader_due c_reader_first c_reader_galleries c_reader_shafts)) (W1 := (w_X6_takes cA a_reader z_3.2.1 z_3.2.2.1 z_3.2.2.2.1 z_3.2.2.2.2)) (isC := [3]) (isR := [0, 1, 2]) (perm := [0, 1, 2, 3]) (ws' := (w_X4_firstFault cA a_me a_letters a_reader a_letters_cells c_length c_letters z_3.2.1 z_3.2.2.1 z_3.2.2.2.1 z_3.2.2.2.2)) X (c_X6_takes l D cA a_reader c_reader_due c_reader_first c_reader_galleries c_reader_shafts z_2 _ hz_3) 3 rfl rfl rfl gX4_firstFault_X6_takes rfl rfl rfl ⟨rfl, hd_X6_takes⟩ ⟨Nat.le_of_ble_eq_true rfl, Nat.le_of_ble_eq_true rfl⟩ rfl rfl (Nat.le_of_ble_eq_true rfl) rfl (by decide +kernel) rfl (by decide +kernel) (by decide +kernel) ⟨Nat.zero_le _, Nat.zero_le _⟩ rfl (by decide +kernel) dX4_firstFault_29 rfl ?_
      refine g_if_ne (tgt := 37) X dX4_firstFault_32 (by decide) rfl h (fun c_4 h => ?_) (fun c_4 h => ?_)
      · obtain ⟨v1_5, ev1_5, h⟩ := nam_s h
        refine g_iinc (v := v1_5) (lv' := [(1, .int v1_5), (0, .ref a_me)]) X 1 rfl (by rw [ev1_5]; rfl) (by decide) rfl dX4_firstFault_37 rfl ?_
        refine g_goto (tgt := 9) X dX4_firstFault_40 (by decide) ?_
        refine g_lvs [1, 0] rfl ?_
        exact ih _ _ _ _ _ h
      · refine g_iload_n X 1 rfl rfl dX4_firstFault_35 rfl ?_
        cases Option.some.inj h
        exact hret _ _ dX4_firstFault_36 rfl
set_option maxHeartbeats 4000000 in
set_option maxRecDepth 100000 in
theorem c_X4_firstFault (l : Launch) (D : va_G) (cA : ClassId) (a_me a_letters a_reader a_letters_cells : Nat)  (c_length : Int32) (c_letters : A32) (c_reader_due : Int32) (c_reader_first : Int32) (c_reader_galleries : Int32) (c_reader_shafts : Int32) (z : Int32 × Int32 × Int32 × Int32 × Int32) (h : f_X4_firstFault c_length c_letters c_reader_due c_reader_first c_reader_galleries c_reader_shafts = some z) : CtI l yX4_firstFault wsX4_firstFault rm_X4_firstFault D cA [.ref a_me] (w_X4_firstFault cA a_me a_letters a_reader a_letters_cells c_length c_letters c_reader_due c_reader_first c_reader_galleries c_reader_shafts) z.1 (w_X4_firstFault cA a_me a_letters a_reader a_letters_cells c_length c_letters z.2.1 z.2.2.1 z.2.2.2.1 z.2.2.2.2) := by
  refine ct_I (maxL := 2) (ty := .int) (cc := cX4_firstFault) (by decide) rfl (Nat.le_of_ble_eq_true rfl) rfl (fun p e s m args below meth c A Q X hret => ?_)
  have h : (Option.bind (f_X6_start c_reader_due c_reader_galleries c_reader_shafts) fun z_1 => f_X4_firstFault_b9 c_length c_letters FU z_1.1 c_reader_first z_1.2.1 z_1.2.2 0 : Option (Int32 × Int32 × Int32 × Int32 × Int32)) = some z := h
  refine g_aload_n X 0 rfl rfl dX4_firstFault_0 rfl ?_
  refine g_getf (C := RX4) (T := TX4) (N := 3) (v := .ref a_reader) X 0 rfl vc_X4 2 (by decide) iw_X4_firstFault_X4 fl_X4_firstFault_X4_2 rfl rfl dX4_firstFault_1 rfl ?_
  obtain ⟨z_1, hz_1, h⟩ := bnd_s h
  refine g_callVV (rm := rm_X6_start) (As := []) (W0 := (w_X6_start cA a_reader c_reader_first c_reader_due c_reader_galleries c_reader_shafts)) (W1 := (w_X6_start cA a_reader c_reader_first z_1.1 z_1.2.1 z_1.2.2)) (isC := [3]) (isR := [0, 1, 2]) (perm := [0, 1, 2, 3]) (ws' := (w_X4_firstFault cA a_me a_letters a_reader a_letters_cells c_length c_letters z_1.1 c_reader_first z_1.2.1 z_1.2.2)) X (c_X6_start l D cA a_reader c_reader_first c_reader_due c_reader_galleries c_reader_shafts _ hz_1) 3 rfl rfl rfl gX4_firstFault_X6_start rfl rfl rfl ⟨rfl, hd_X6_start⟩ ⟨Nat.le_of_ble_eq_true rfl, Nat.le_of_ble_eq_true rfl⟩ rfl rfl (Nat.le_of_ble_eq_true rfl) rfl (by decide +kernel) rfl (by decide +kernel) (by decide +kernel) ⟨Nat.zero_le _, Nat.zero_le _⟩ rfl (by decide +kernel) dX4_firstFault_4 rfl ?_
  refine g_iconst (v := 0) X dX4_firstFault_7 (by decide) rfl ?_
  refine g_istore_n (lv' := [(1, .int 0), (0, .ref a_me)]) X rfl (by decide) rfl dX4_firstFault_8 rfl ?_
  refine g_lvs [1, 0] rfl ?_
  exact t_X4_firstFault_b9 X hret _ _ _ _ _ _ h
abbrev rm_X6_mayEnd : Room := { frames := 1, cells := 0, slots := 0, locals := 20 }
theorem hd_X6_mayEnd : yX6_mayEnd.cls ≠ "java/lang/invoke/MethodHandle" ∧ yX6_mayEnd.cls ≠ "java/lang/invoke/VarHandle" ∧ (parseMethodDescriptor yX6_mayEnd.desc).map (fun d => d.parameters.length) = some 0 := by decide +kernel
theorem iw_X6_mayEnd_X6 : ∀ w ∈ wsX60, w ∈ wsX6_mayEnd := fun w h => List.mem_cons_of_mem _ (List.mem_append_right _ h)
theorem fl_X6_mayEnd_X6_0 : Cond.fieldLink RX6 11 RX6 (TX6 0).2.1 (TX6 0).2.2.1 ∈ wsX6_mayEnd := List.mem_of_getElem? (i := 1) rfl
theorem fl_X6_mayEnd_X6_3 : Cond.fieldLink RX6 18 RX6 (TX6 3).2.1 (TX6 3).2.2.1 ∈ wsX6_mayEnd := List.mem_of_getElem? (i := 2) rfl
abbrev w_X6_mayEnd (cA : ClassId) (a_me : Nat) (u_first : Int32) (u_galleries : Int32) (c_due : Int32) (c_shafts : Int32) : va_W := [(a_me, .inr (6, [.int c_due, .int u_first, .int u_galleries, .int c_shafts]))]
set_option maxHeartbeats 4000000 in
set_option maxRecDepth 100000 in
theorem c_X6_mayEnd (l : Launch) (D : va_G) (cA : ClassId) (a_me : Nat) (u_first : Int32) (u_galleries : Int32) (c_due : Int32) (c_shafts : Int32) (z : Int32) (h : f_X6_mayEnd c_due c_shafts = some z) : CtI l yX6_mayEnd wsX6_mayEnd rm_X6_mayEnd D cA [.ref a_me] (w_X6_mayEnd cA a_me u_first u_galleries c_due c_shafts) z (w_X6_mayEnd cA a_me u_first u_galleries c_due c_shafts) := by
  refine ct_I (maxL := 1) (ty := .boolean) (cc := cX6_mayEnd) (by decide) rfl (Nat.le_of_ble_eq_true rfl) rfl (fun p e s m args below meth c A Q X hret => ?_)
  have h : (if c_due = 5 then Option.bind (f_J6_bitCount_0f7a4 c_shafts) fun z_2 => if z_2 < 2 then some 0 else some 1 else some 0 : Option (Int32)) = some z := h
  refine g_aload_n X 0 rfl rfl dX6_mayEnd_0 rfl ?_
  refine g_getf (C := RX6) (T := TX6) (N := 4) (v := .int c_due) X 0 rfl vc_X6 0 (by decide) iw_X6_mayEnd_X6 fl_X6_mayEnd_X6_0 rfl rfl dX6_mayEnd_1 rfl ?_
  refine g_iconst (v := 5) X dX6_mayEnd_4 (by decide) rfl ?_
  refine g_icmp_ne (tgt := 23) X dX6_mayEnd_5 (by decide) rfl h (fun c_1 h => ?_) (fun c_1 h => ?_)
  · refine g_iconst (v := 0) X dX6_mayEnd_23 (by decide) rfl ?_
    cases Option.some.inj h
    exact hret _ _ dX6_mayEnd_24 (nar_z (Or.inl rfl))
  · refine g_aload_n X 0 rfl rfl dX6_mayEnd_8 rfl ?_
    refine g_getf (C := RX6) (T := TX6) (N := 4) (v := .int c_shafts) X 0 rfl vc_X6 3 (by decide) iw_X6_mayEnd_X6 fl_X6_mayEnd_X6_3 rfl rfl dX6_mayEnd_9 rfl ?_
    obtain ⟨z_2, hz_2, h⟩ := bnd_s h
    refine g_callSI (rm := rm_J6_bitCount_0f7a4) (As := [.int c_shafts]) (r := z_2) (W0 := []) (W1 := []) (isC := []) (isR := [0]) (perm := [0]) (ws' := (w_X6_mayEnd cA a_me u_first u_galleries c_due c_shafts)) X (c_J6_bitCount_0f7a4 l D cA c_shafts _ hz_2) gX6_mayEnd_J6_bitCount_0f7a4 rfl rfl rfl hd_J6_bitCount_0f7a4 ⟨Nat.le_of_ble_eq_true rfl, Nat.le_of_ble_eq_true rfl⟩ rfl rfl (Nat.le_of_ble_eq_true rfl) rfl (by decide +kernel) rfl (by decide +kernel) (by decide +kernel) ⟨Nat.zero_le _, Nat.zero_le _⟩ rfl (by decide +kernel) dX6_mayEnd_12 rfl ?_
    refine g_iconst (v := 2) X dX6_mayEnd_15 (by decide) rfl ?_
    refine g_icmp_lt (tgt := 23) X dX6_mayEnd_16 (by decide) rfl h (fun c_3 h => ?_) (fun c_3 h => ?_)
    · refine g_iconst (v := 0) X dX6_mayEnd_23 (by decide) rfl ?_
      cases Option.some.inj h
      exact hret _ _ dX6_mayEnd_24 (nar_z (Or.inl rfl))
    · refine g_iconst (v := 1) X dX6_mayEnd_19 (by decide) rfl ?_
      refine g_goto (tgt := 24) X dX6_mayEnd_20 (by decide) ?_
      cases Option.some.inj h
      exact hret _ _ dX6_mayEnd_24 (nar_z (Or.inr rfl))
abbrev rm_X4_isMine : Room := { frames := 4, cells := 0, slots := 0, locals := 84 }
theorem hd_X4_isMine : yX4_isMine.cls ≠ "java/lang/invoke/MethodHandle" ∧ yX4_isMine.cls ≠ "java/lang/invoke/VarHandle" ∧ (parseMethodDescriptor yX4_isMine.desc).map (fun d => d.parameters.length) = some 0 := by decide +kernel
theorem iw_X4_isMine_X4 : ∀ w ∈ wsX40, w ∈ wsX4_isMine := fun w h => List.mem_cons_of_mem _ (List.mem_append_left _ (List.mem_append_left _ (List.mem_append_right _ h)))
theorem fl_X4_isMine_X4_1 : Cond.fieldLink RX4 33 RX4 (TX4 1).2.1 (TX4 1).2.2.1 ∈ wsX4_isMine := List.mem_of_getElem? (i := 1) rfl
theorem fl_X4_isMine_X4_2 : Cond.fieldLink RX4 23 RX4 (TX4 2).2.1 (TX4 2).2.2.1 ∈ wsX4_isMine := List.mem_of_getElem? (i := 2) rfl
abbrev w_X4_isMine (cA : ClassId) (a_me a_letters a_reader a_letters_cells : Nat) (c_length : Int32) (c_letters : A32) (c_reader_due : Int32) (c_reader_first : Int32) (c_reader_galleries : Int32) (c_reader_shafts : Int32) : va_W := [(a_me, .inr (4, [.ref a_letters, .int c_length, .ref a_reader])), (a_letters, .inr (8, [.ref a_letters_cells])), (a_letters_cells, .inl (cA, 66, .inl c_letters)), (a_reader, .inr (6, [.int c_reader_due, .int c_reader_first, .int c_reader_galleries, .int c_reader_shafts]))]
set_option maxHeartbeats 4000000 in
set_option maxRecDepth 100000 in
theorem c_X4_isMine (l : Launch) (D : va_G) (cA : ClassId) (a_me a_letters a_reader a_letters_cells : Nat)  (c_length : Int32) (c_letters : A32) (c_reader_due : Int32) (c_reader_first : Int32) (c_reader_galleries : Int32) (c_reader_shafts : Int32) (z : Int32 × Int32 × Int32 × Int32 × Int32) (h : f_X4_isMine c_length c_letters c_reader_due c_reader_first c_reader_galleries c_reader_shafts = some z) : CtI l yX4_isMine wsX4_isMine rm_X4_isMine D cA [.ref a_me] (w_X4_isMine cA a_me a_letters a_reader a_letters_cells c_length c_letters c_reader_due c_reader_first c_reader_galleries c_reader_shafts) z.1 (w_X4_isMine cA a_me a_letters a_reader a_letters_cells c_length c_letters z.2.1 z.2.2.1 z.2.2.2.1 z.2.2.2.2) := by
  refine ct_I (maxL := 1) (ty := .boolean) (cc := cX4_isMine) (by decide) rfl (Nat.le_of_ble_eq_true rfl) rfl (fun p e s m args below meth c A Q X hret => ?_)
  have h : (Option.bind (f_X4_firstFault c_length c_letters c_reader_due c_reader_first c_reader_galleries c_reader_shafts) fun z_1 => if z_1.1 = c_length then Option.bind (f_X6_mayEnd z_1.2.1 z_1.2.2.2.2) fun z_3 => if z_3 = 0 then some (0, z_1.2.1, z_1.2.2.1, z_1.2.2.2.1, z_1.2.2.2.2) else some (1, z_1.2.1, z_1.2.2.1, z_1.2.2.2.1, z_1.2.2.2.2) else some (0, z_1.2.1, z_1.2.2.1, z_1.2.2.2.1, z_1.2.2.2.2) : Option (Int32 × Int32 × Int32 × Int32 × Int32)) = some z := h
  refine g_aload_n X 0 rfl rfl dX4_isMine_0 rfl ?_
  obtain ⟨z_1, hz_1, h⟩ := bnd_s h
  refine g_callVI (rm := rm_X4_firstFault) (As := []) (r := z_1.1) (W0 := (w_X4_firstFault cA a_me a_letters a_reader a_letters_cells c_length c_letters c_reader_due c_reader_first c_reader_galleries c_reader_shafts)) (W1 := (w_X4_firstFault cA a_me a_letters a_reader a_letters_cells c_length c_letters z_1.2.1 z_1.2.2.1 z_1.2.2.2.1 z_1.2.2.2.2)) (isC := [0, 1, 2, 3]) (isR := []) (perm := [0, 1, 2, 3]) (ws' := (w_X4_isMine cA a_me a_letters a_reader a_letters_cells c_length c_letters z_1.2.1 z_1.2.2.1 z_1.2.2.2.1 z_1.2.2.2.2)) X (c_X4_firstFault l D cA a_me a_letters a_reader a_letters_cells c_length c_letters c_reader_due c_reader_first c_reader_galleries c_reader_shafts _ hz_1) 0 rfl rfl rfl gX4_isMine_X4_firstFault rfl rfl rfl ⟨rfl, hd_X4_firstFault⟩ ⟨Nat.le_of_ble_eq_true rfl, Nat.le_of_ble_eq_true rfl⟩ rfl rfl (Nat.le_of_ble_eq_true rfl) rfl (by decide +kernel) rfl (by decide +kernel) (by decide +kernel) ⟨Nat.zero_le _, Nat.zero_le _⟩ rfl (by decide +kernel) dX4_isMine_1 rfl ?_
  refine g_aload_n X 0 rfl rfl dX4_isMine_4 rfl ?_
  refine g_getf (C := RX4) (T := TX4) (N := 3) (v := .int c_length) X 0 rfl vc_X4 1 (by decide) iw_X4_isMine_X4 fl_X4_isMine_X4_1 rfl rfl dX4_isMine_5 rfl ?_
  refine g_icmp_ne (tgt := 25) X dX4_isMine_8 (by decide) rfl h (fun c_2 h => ?_) (fun c_2 h => ?_)
  · refine g_iconst (v := 0) X dX4_isMine_25 (by decide) rfl ?_
    cases Option.some.inj h
    exact hret _ _ dX4_isMine_26 (nar_z (Or.inl rfl))
  · refine g_aload_n X 0 rfl rfl dX4_isMine_11 rfl ?_
    refine g_getf (C := RX4) (T := TX4) (N := 3) (v := .ref a_reader) X 0 rfl vc_X4 2 (by decide) iw_X4_isMine_X4 fl_X4_isMine_X4_2 rfl rfl dX4_isMine_12 rfl ?_
    obtain ⟨z_3, hz_3, h⟩ := bnd_s h
    refine g_callVI (rm := rm_X6_mayEnd) (As := []) (r := z_3) (W0 := (w_X6_mayEnd cA a_reader z_1.2.2.1 z_1.2.2.2.1 z_1.2.1 z_1.2.2.2.2)) (W1 := (w_X6_mayEnd cA a_reader z_1.2.2.1 z_1.2.2.2.1 z_1.2.1 z_1.2.2.2.2)) (isC := [3]) (isR := [0, 1, 2]) (perm := [0, 1, 2, 3]) (ws' := (w_X4_isMine cA a_me a_letters a_reader a_letters_cells c_length c_letters z_1.2.1 z_1.2.2.1 z_1.2.2.2.1 z_1.2.2.2.2)) X (c_X6_mayEnd l D cA a_reader z_1.2.2.1 z_1.2.2.2.1 z_1.2.1 z_1.2.2.2.2 _ hz_3) 3 rfl rfl rfl gX4_isMine_X6_mayEnd rfl rfl rfl ⟨rfl, hd_X6_mayEnd⟩ ⟨Nat.le_of_ble_eq_true rfl, Nat.le_of_ble_eq_true rfl⟩ rfl rfl (Nat.le_of_ble_eq_true rfl) rfl (by decide +kernel) rfl (by decide +kernel) (by decide +kernel) ⟨Nat.zero_le _, Nat.zero_le _⟩ rfl (by decide +kernel) dX4_isMine_15 rfl ?_
    refine g_if_eq (tgt := 25) X dX4_isMine_18 (by decide) rfl h (fun c_4 h => ?_) (fun c_4 h => ?_)
    · refine g_iconst (v := 0) X dX4_isMine_25 (by decide) rfl ?_
      cases Option.some.inj h
      exact hret _ _ dX4_isMine_26 (nar_z (Or.inl rfl))
    · refine g_iconst (v := 1) X dX4_isMine_21 (by decide) rfl ?_
      refine g_goto (tgt := 26) X dX4_isMine_22 (by decide) ?_
      cases Option.some.inj h
      exact hret _ _ dX4_isMine_26 (nar_z (Or.inr rfl))
abbrev rm_X4_digit : Room := { frames := 1, cells := 0, slots := 0, locals := 21 }
theorem hd_X4_digit : yX4_digit.cls ≠ "java/lang/invoke/MethodHandle" ∧ yX4_digit.cls ≠ "java/lang/invoke/VarHandle" ∧ (parseMethodDescriptor yX4_digit.desc).map (fun d => d.parameters.length) = some 1 := by decide +kernel
theorem iw_X4_digit_X4 : ∀ w ∈ wsX40, w ∈ wsX4_digit := fun w h => List.mem_cons_of_mem _ (List.mem_append_left _ (List.mem_append_right _ h))
theorem fl_X4_digit_X4_0 : Cond.fieldLink RX4 14 RX4 (TX4 0).2.1 (TX4 0).2.2.1 ∈ wsX4_digit := List.mem_of_getElem? (i := 1) rfl
abbrev w_X4_digit (cA : ClassId) (a_me a_letters a_reader a_letters_cells : Nat) (u_length : Int32) (c_letters : A32) : va_W := [(a_me, .inr (4, [.ref a_letters, .int u_length, .ref a_reader])), (a_letters, .inr (8, [.ref a_letters_cells])), (a_letters_cells, .inl (cA, 66, .inl c_letters))]
set_option maxHeartbeats 4000000 in
set_option maxRecDepth 100000 in
theorem c_X4_digit (l : Launch) (D : va_G) (cA : ClassId) (a_me a_letters a_reader a_letters_cells : Nat) (u_length : Int32) (c_letters : A32) (v1 : Int32) (z : Int32) (h : f_X4_digit c_letters v1 = some z) : CtI l yX4_digit wsX4_digit rm_X4_digit D cA [.ref a_me, .int v1] (w_X4_digit cA a_me a_letters a_reader a_letters_cells u_length c_letters) z (w_X4_digit cA a_me a_letters a_reader a_letters_cells u_length c_letters) := by
  refine ct_I (maxL := 2) (ty := .int) (cc := cX4_digit) (by decide) rfl (Nat.le_of_ble_eq_true rfl) rfl (fun p e s m args below meth c A Q X hret => ?_)
  have h : (Option.bind (f_X8_get 66 c_letters v1) fun z_1 => some (z_1 - 48) : Option (Int32)) = some z := h
  refine g_aload_n X 0 rfl rfl dX4_digit_0 rfl ?_
  refine g_getf (C := RX4) (T := TX4) (N := 3) (v := .ref a_letters) X 0 rfl vc_X4 0 (by decide) iw_X4_digit_X4 fl_X4_digit_X4_0 rfl rfl dX4_digit_1 rfl ?_
  refine g_iload_n X 1 rfl rfl dX4_digit_4 rfl ?_
  obtain ⟨z_1, hz_1, h⟩ := bnd_s h
  refine g_callVI (rm := rm_X8_get) (As := [.int v1]) (r := z_1) (W0 := (w_X8_get cA a_letters a_letters_cells 66 c_letters)) (W1 := (w_X8_get cA a_letters a_letters_cells 66 c_letters)) (isC := [1, 2]) (isR := [0]) (perm := [0, 1, 2]) (ws' := (w_X4_digit cA a_me a_letters a_reader a_letters_cells u_length c_letters)) X (c_X8_get l D cA a_letters a_letters_cells 66 c_letters v1 _ hz_1) 1 rfl rfl rfl gX4_digit_X8_get rfl rfl rfl ⟨rfl, hd_X8_get⟩ ⟨Nat.le_of_ble_eq_true rfl, Nat.le_of_ble_eq_true rfl⟩ rfl rfl (Nat.le_of_ble_eq_true rfl) rfl (by decide +kernel) rfl (by decide +kernel) (by decide +kernel) ⟨Nat.zero_le _, Nat.zero_le _⟩ rfl (by decide +kernel) dX4_digit_5 rfl ?_
  refine g_bipush (v := 48) X dX4_digit_8 (by decide) rfl ?_
  refine g_isub X dX4_digit_10 rfl ?_
  cases Option.some.inj h
  exact hret _ _ dX4_digit_11 rfl
abbrev rm_X8_sum : Room := { frames := 0, cells := 0, slots := 0, locals := 0 }
theorem hd_X8_sum : yX8_sum.cls ≠ "java/lang/invoke/MethodHandle" ∧ yX8_sum.cls ≠ "java/lang/invoke/VarHandle" ∧ (parseMethodDescriptor yX8_sum.desc).map (fun d => d.parameters.length) = some 0 := by decide +kernel
theorem iw_X8_sum_X8 : ∀ w ∈ wsX80, w ∈ wsX8_sum := fun w h => List.mem_cons_of_mem _ (List.mem_append_right _ h)
theorem fl_X8_sum_X8_0 : Cond.fieldLink RX8 7 RX8 (TX8 0).2.1 (TX8 0).2.2.1 ∈ wsX8_sum := List.mem_of_getElem? (i := 1) rfl
abbrev w_X8_sum (cA : ClassId) (a_me a_cells : Nat) (n_me : Nat) (c_cells : A32) : va_W := [(a_me, .inr (8, [.ref a_cells])), (a_cells, .inl (cA, n_me, .inl c_cells))]
set_option maxHeartbeats 4000000 in
set_option maxRecDepth 100000 in
theorem t_X8_sum_b4 {l : Launch} {D : va_G} {cA : ClassId} {p : Program} {e : Env} {s : State} {m : MethodId} {args : Array Value} {below : List Frame} {meth : Method} {c : Code} {A : Nat → Prop} {Q : State → Prop} {z : Int32} {a_me a_cells : Nat}   {n_me : Nat} {c_cells : A32}  (X : GX p s m args c cX8_sum RX8 wsX8_sum D cA A 3) (hret : RtI p l e rm_X8_sum s m args below meth c cX8_sum D A 3 0 0 Q .int z (w_X8_sum cA a_me a_cells n_me c_cells))  : ∀ (fu : Nat) (v1 : Int32) (v2 : Int32), f_X8_sum_b4 n_me c_cells fu v1 v2 = some z → G p l e rm_X8_sum s m args below meth c D A 3 0 0 Q 4 [(0, .ref a_me), (1, .int v1), (2, .int v2)] [] (w_X8_sum cA a_me a_cells n_me c_cells) := by
  intro fu
  induction fu with
  | zero => intro v1 v2 h; exact absurd (show (none : Option (Int32)) = some z from h) (by simp)
  | succ fu ih =>
    intro v1 v2 h
    have h : (if (nI n_me) ≤ v2 then some v1 else if inB v2 n_me then nam (v1 + (c_cells v2.toNatClampNeg)) fun v1_2 => nam (v2 + 1) fun v2_3 => (f_X8_sum_b4 n_me c_cells fu) v1_2 v2_3 else none : Option (Int32)) = some z := h
    refine g_iload_n X 2 rfl rfl dX8_sum_4 rfl ?_
    refine g_aload_n X 0 rfl rfl dX8_sum_5 rfl ?_
    refine g_getf (C := RX8) (T := TX8) (N := 1) (v := .ref a_cells) X 0 rfl vc_X8 0 (by decide) iw_X8_sum_X8 fl_X8_sum_X8_0 rfl rfl dX8_sum_6 rfl ?_
    refine g_alen X 1 rfl dX8_sum_9 rfl ?_
    refine g_icmp_ge (tgt := 28) X dX8_sum_10 (by decide) rfl h (fun c_1 h => ?_) (fun c_1 h => ?_)
    · refine g_iload_n X 1 rfl rfl dX8_sum_28 rfl ?_
      cases Option.some.inj h
      exact hret _ _ dX8_sum_29 rfl
    · refine g_iload_n X 1 rfl rfl dX8_sum_13 rfl ?_
      refine g_aload_n X 0 rfl rfl dX8_sum_14 rfl ?_
      refine g_getf (C := RX8) (T := TX8) (N := 1) (v := .ref a_cells) X 0 rfl vc_X8 0 (by decide) iw_X8_sum_X8 fl_X8_sum_X8_0 rfl rfl dX8_sum_15 rfl ?_
      refine g_iload_n X 2 rfl rfl dX8_sum_18 rfl ?_
      refine g_iald X 1 rfl dX8_sum_19 rfl h (fun h => ?_)
      refine g_iadd X dX8_sum_20 rfl ?_
      refine g_nami h (fun v1_2 h => ?_)
      refine g_istore_n (lv' := [(1, .int v1_2), (0, .ref a_me), (2, .int v2)]) X rfl (by decide) rfl dX8_sum_21 rfl ?_
      obtain ⟨v2_3, ev2_3, h⟩ := nam_s h
      refine g_iinc (v := v2_3) (lv' := [(2, .int v2_3), (1, .int v1_2), (0, .ref a_me)]) X 2 rfl (by rw [ev2_3]; rfl) (by decide) rfl dX8_sum_22 rfl ?_
      refine g_goto (tgt := 4) X dX8_sum_25 (by decide) ?_
      refine g_lvs [2, 1, 0] rfl ?_
      exact ih _ _ h
set_option maxHeartbeats 4000000 in
set_option maxRecDepth 100000 in
theorem c_X8_sum (l : Launch) (D : va_G) (cA : ClassId) (a_me a_cells : Nat)  (n_me : Nat) (c_cells : A32) (z : Int32) (h : f_X8_sum n_me c_cells = some z) : CtI l yX8_sum wsX8_sum rm_X8_sum D cA [.ref a_me] (w_X8_sum cA a_me a_cells n_me c_cells) z (w_X8_sum cA a_me a_cells n_me c_cells) := by
  refine ct_I (maxL := 3) (ty := .int) (cc := cX8_sum) (by decide) rfl (Nat.le_of_ble_eq_true rfl) rfl (fun p e s m args below meth c A Q X hret => ?_)
  have h : (f_X8_sum_b4 n_me c_cells FU 0 0 : Option (Int32)) = some z := h
  refine g_iconst (v := 0) X dX8_sum_0 (by decide) rfl ?_
  refine g_istore_n (lv' := [(1, .int 0), (0, .ref a_me)]) X rfl (by decide) rfl dX8_sum_1 rfl ?_
  refine g_iconst (v := 0) X dX8_sum_2 (by decide) rfl ?_
  refine g_istore_n (lv' := [(2, .int 0), (1, .int 0), (0, .ref a_me)]) X rfl (by decide) rfl dX8_sum_3 rfl ?_
  refine g_lvs [2, 1, 0] rfl ?_
  exact t_X8_sum_b4 X hret _ _ _ h
abbrev rm_J6_numberOfTrailingZeros_0f7a4 : Room := { frames := 0, cells := 0, slots := 0, locals := 0 }
theorem hd_J6_numberOfTrailingZeros_0f7a4 : yJ6_numberOfTrailingZeros_0f7a4.cls ≠ "java/lang/invoke/MethodHandle" ∧ yJ6_numberOfTrailingZeros_0f7a4.cls ≠ "java/lang/invoke/VarHandle" ∧ (parseMethodDescriptor yJ6_numberOfTrailingZeros_0f7a4.desc).map (fun d => d.parameters.length) = some 1 := by decide +kernel
set_option maxHeartbeats 4000000 in
set_option maxRecDepth 100000 in
theorem t_J6_numberOfTrailingZeros_0f7a4_b74 {l : Launch} {D : va_G} {cA : ClassId} {p : Program} {e : Env} {s : State} {m : MethodId} {args : Array Value} {below : List Frame} {meth : Method} {c : Code} {A : Nat → Prop} {Q : State → Prop} {z : Int32}   {v0 : Int32} {v1 : Int32}  (X : GX p s m args c cJ6_numberOfTrailingZeros_0f7a4 RJ6 wsJ6_numberOfTrailingZeros_0f7a4 D cA A 2) (hret : RtI p l e rm_J6_numberOfTrailingZeros_0f7a4 s m args below meth c cJ6_numberOfTrailingZeros_0f7a4 D A 2 0 0 Q .int z [])  (h : f_J6_numberOfTrailingZeros_0f7a4_b74 v0 v1 = some z) : G p l e rm_J6_numberOfTrailingZeros_0f7a4 s m args below meth c D A 2 0 0 Q 74 [(0, .int v0), (1, .int v1)] [] [] := by
  have h : (some (v1 + (UInt32.toInt32 (Int32.toUInt32 v0 >>> (Int32.toUInt32 1 &&& Int32.toUInt32 31)))) : Option (Int32)) = some z := h
  refine g_iload_n X 1 rfl rfl dJ6_numberOfTrailingZeros_0f7a4_74 rfl ?_
  refine g_iload_n X 0 rfl rfl dJ6_numberOfTrailingZeros_0f7a4_75 rfl ?_
  refine g_iconst (v := 1) X dJ6_numberOfTrailingZeros_0f7a4_76 (by decide) rfl ?_
  refine g_iushr X dJ6_numberOfTrailingZeros_0f7a4_77 rfl ?_
  refine g_iadd X dJ6_numberOfTrailingZeros_0f7a4_78 rfl ?_
  cases Option.some.inj h
  exact hret _ _ dJ6_numberOfTrailingZeros_0f7a4_79 rfl
set_option maxHeartbeats 4000000 in
set_option maxRecDepth 100000 in
theorem t_J6_numberOfTrailingZeros_0f7a4_b62 {l : Launch} {D : va_G} {cA : ClassId} {p : Program} {e : Env} {s : State} {m : MethodId} {args : Array Value} {below : List Frame} {meth : Method} {c : Code} {A : Nat → Prop} {Q : State → Prop} {z : Int32}   {v0 : Int32} {v1 : Int32}  (X : GX p s m args c cJ6_numberOfTrailingZeros_0f7a4 RJ6 wsJ6_numberOfTrailingZeros_0f7a4 D cA A 2) (hret : RtI p l e rm_J6_numberOfTrailingZeros_0f7a4 s m args below meth c cJ6_numberOfTrailingZeros_0f7a4 D A 2 0 0 Q .int z [])  (h : f_J6_numberOfTrailingZeros_0f7a4_b62 v0 v1 = some z) : G p l e rm_J6_numberOfTrailingZeros_0f7a4 s m args below meth c D A 2 0 0 Q 62 [(0, .int v0), (1, .int v1)] [] [] := by
  have h : (if v0 ≤ 4 then f_J6_numberOfTrailingZeros_0f7a4_b74 v0 v1 else nam (v1 + 2) fun v1_2 => nam (UInt32.toInt32 (Int32.toUInt32 v0 >>> (Int32.toUInt32 2 &&& Int32.toUInt32 31))) fun v0_3 => f_J6_numberOfTrailingZeros_0f7a4_b74 v0_3 v1_2 : Option (Int32)) = some z := h
  refine g_iload_n X 0 rfl rfl dJ6_numberOfTrailingZeros_0f7a4_62 rfl ?_
  refine g_iconst (v := 4) X dJ6_numberOfTrailingZeros_0f7a4_63 (by decide) rfl ?_
  refine g_icmp_le (tgt := 74) X dJ6_numberOfTrailingZeros_0f7a4_64 (by decide) rfl h (fun c_1 h => ?_) (fun c_1 h => ?_)
  · exact t_J6_numberOfTrailingZeros_0f7a4_b74 X hret h
  · obtain ⟨v1_2, ev1_2, h⟩ := nam_s h
    refine g_iinc (v := v1_2) (lv' := [(1, .int v1_2), (0, .int v0)]) X 1 rfl (by rw [ev1_2]; rfl) (by decide) rfl dJ6_numberOfTrailingZeros_0f7a4_67 rfl ?_
    refine g_iload_n X 1 rfl rfl dJ6_numberOfTrailingZeros_0f7a4_70 rfl ?_
    refine g_iconst (v := 2) X dJ6_numberOfTrailingZeros_0f7a4_71 (by decide) rfl ?_
    refine g_iushr X dJ6_numberOfTrailingZeros_0f7a4_72 rfl ?_
    refine g_nami h (fun v0_3 h => ?_)
    refine g_istore_n (lv' := [(0, .int v0_3), (1, .int v1_2)]) X rfl (by decide) rfl dJ6_numberOfTrailingZeros_0f7a4_73 rfl ?_
    exact t_J6_numberOfTrailingZeros_0f7a4_b74 X hret h
set_option maxHeartbeats 4000000 in
set_option maxRecDepth 100000 in
theorem t_J6_numberOfTrailingZeros_0f7a4_b49 {l : Launch} {D : va_G} {cA : ClassId} {p : Program} {e : Env} {s : State} {m : MethodId} {args : Array Value} {below : List Frame} {meth : Method} {c : Code} {A : Nat → Prop} {Q : State → Prop} {z : Int32}   {v0 : Int32} {v1 : Int32}  (X : GX p s m args c cJ6_numberOfTrailingZeros_0f7a4 RJ6 wsJ6_numberOfTrailingZeros_0f7a4 D cA A 2) (hret : RtI p l e rm_J6_numberOfTrailingZeros_0f7a4 s m args below meth c cJ6_numberOfTrailingZeros_0f7a4 D A 2 0 0 Q .int z [])  (h : f_J6_numberOfTrailingZeros_0f7a4_b49 v0 v1 = some z) : G p l e rm_J6_numberOfTrailingZeros_0f7a4 s m args below meth c D A 2 0 0 Q 49 [(0, .int v0), (1, .int v1)] [] [] := by
  have h : (if v0 ≤ 16 then f_J6_numberOfTrailingZeros_0f7a4_b62 v0 v1 else nam (v1 + 4) fun v1_2 => nam (UInt32.toInt32 (Int32.toUInt32 v0 >>> (Int32.toUInt32 4 &&& Int32.toUInt32 31))) fun v0_3 => f_J6_numberOfTrailingZeros_0f7a4_b62 v0_3 v1_2 : Option (Int32)) = some z := h
  refine g_iload_n X 0 rfl rfl dJ6_numberOfTrailingZeros_0f7a4_49 rfl ?_
  refine g_bipush (v := 16) X dJ6_numberOfTrailingZeros_0f7a4_50 (by decide) rfl ?_
  refine g_icmp_le (tgt := 62) X dJ6_numberOfTrailingZeros_0f7a4_52 (by decide) rfl h (fun c_1 h => ?_) (fun c_1 h => ?_)
  · exact t_J6_numberOfTrailingZeros_0f7a4_b62 X hret h
  · obtain ⟨v1_2, ev1_2, h⟩ := nam_s h
    refine g_iinc (v := v1_2) (lv' := [(1, .int v1_2), (0, .int v0)]) X 1 rfl (by rw [ev1_2]; rfl) (by decide) rfl dJ6_numberOfTrailingZeros_0f7a4_55 rfl ?_
    refine g_iload_n X 1 rfl rfl dJ6_numberOfTrailingZeros_0f7a4_58 rfl ?_
    refine g_iconst (v := 4) X dJ6_numberOfTrailingZeros_0f7a4_59 (by decide) rfl ?_
    refine g_iushr X dJ6_numberOfTrailingZeros_0f7a4_60 rfl ?_
    refine g_nami h (fun v0_3 h => ?_)
    refine g_istore_n (lv' := [(0, .int v0_3), (1, .int v1_2)]) X rfl (by decide) rfl dJ6_numberOfTrailingZeros_0f7a4_61 rfl ?_
    exact t_J6_numberOfTrailingZeros_0f7a4_b62 X hret h
set_option maxHeartbeats 4000000 in
set_option maxRecDepth 100000 in
theorem t_J6_numberOfTrailingZeros_0f7a4_b34 {l : Launch} {D : va_G} {cA : ClassId} {p : Program} {e : Env} {s : State} {m : MethodId} {args : Array Value} {below : List Frame} {meth : Method} {c : Code} {A : Nat → Prop} {Q : State → Prop} {z : Int32}   {v0 : Int32} {v1 : Int32}  (X : GX p s m args c cJ6_numberOfTrailingZeros_0f7a4 RJ6 wsJ6_numberOfTrailingZeros_0f7a4 D cA A 2) (hret : RtI p l e rm_J6_numberOfTrailingZeros_0f7a4 s m args below meth c cJ6_numberOfTrailingZeros_0f7a4 D A 2 0 0 Q .int z [])  (h : f_J6_numberOfTrailingZeros_0f7a4_b34 v0 v1 = some z) : G p l e rm_J6_numberOfTrailingZeros_0f7a4 s m args below meth c D A 2 0 0 Q 34 [(0, .int v0), (1, .int v1)] [] [] := by
  have h : (if v0 ≤ 256 then f_J6_numberOfTrailingZeros_0f7a4_b49 v0 v1 else nam (v1 + 8) fun v1_2 => nam (UInt32.toInt32 (Int32.toUInt32 v0 >>> (Int32.toUInt32 8 &&& Int32.toUInt32 31))) fun v0_3 => f_J6_numberOfTrailingZeros_0f7a4_b49 v0_3 v1_2 : Option (Int32)) = some z := h
  refine g_iload_n X 0 rfl rfl dJ6_numberOfTrailingZeros_0f7a4_34 rfl ?_
  refine g_sipush (v := 256) X dJ6_numberOfTrailingZeros_0f7a4_35 (by decide) rfl ?_
  refine g_icmp_le (tgt := 49) X dJ6_numberOfTrailingZeros_0f7a4_38 (by decide) rfl h (fun c_1 h => ?_) (fun c_1 h => ?_)
  · exact t_J6_numberOfTrailingZeros_0f7a4_b49 X hret h
  · obtain ⟨v1_2, ev1_2, h⟩ := nam_s h
    refine g_iinc (v := v1_2) (lv' := [(1, .int v1_2), (0, .int v0)]) X 1 rfl (by rw [ev1_2]; rfl) (by decide) rfl dJ6_numberOfTrailingZeros_0f7a4_41 rfl ?_
    refine g_iload_n X 1 rfl rfl dJ6_numberOfTrailingZeros_0f7a4_44 rfl ?_
    refine g_bipush (v := 8) X dJ6_numberOfTrailingZeros_0f7a4_45 (by decide) rfl ?_
    refine g_iushr X dJ6_numberOfTrailingZeros_0f7a4_47 rfl ?_
    refine g_nami h (fun v0_3 h => ?_)
    refine g_istore_n (lv' := [(0, .int v0_3), (1, .int v1_2)]) X rfl (by decide) rfl dJ6_numberOfTrailingZeros_0f7a4_48 rfl ?_
    exact t_J6_numberOfTrailingZeros_0f7a4_b49 X hret h
set_option maxHeartbeats 4000000 in
set_option maxRecDepth 100000 in
theorem c_J6_numberOfTrailingZeros_0f7a4 (l : Launch) (D : va_G) (cA : ClassId)  (v0 : Int32) (z : Int32) (h : f_J6_numberOfTrailingZeros_0f7a4 v0 = some z) : CtI l yJ6_numberOfTrailingZeros_0f7a4 wsJ6_numberOfTrailingZeros_0f7a4 rm_J6_numberOfTrailingZeros_0f7a4 D cA [.int v0] [] z [] := by
  refine ct_I (maxL := 2) (ty := .int) (cc := cJ6_numberOfTrailingZeros_0f7a4) (by decide) rfl (Nat.le_of_ble_eq_true rfl) rfl (fun p e s m args below meth c A Q X hret => ?_)
  have h : (nam ((v0 ^^^ (-1)) &&& (v0 - 1)) fun v0_1 => if 0 < v0_1 then if v0_1 ≤ 65536 then f_J6_numberOfTrailingZeros_0f7a4_b34 v0_1 1 else nam (1 + 16) fun v1_4 => nam (UInt32.toInt32 (Int32.toUInt32 v0_1 >>> (Int32.toUInt32 16 &&& Int32.toUInt32 31))) fun v0_5 => f_J6_numberOfTrailingZeros_0f7a4_b34 v0_5 v1_4 else some (v0_1 &&& 32) : Option (Int32)) = some z := h
  refine g_iload_n X 0 rfl rfl dJ6_numberOfTrailingZeros_0f7a4_0 rfl ?_
  refine g_iconst (v := (-1)) X dJ6_numberOfTrailingZeros_0f7a4_1 (by decide) rfl ?_
  refine g_ixor X dJ6_numberOfTrailingZeros_0f7a4_2 rfl ?_
  refine g_iload_n X 0 rfl rfl dJ6_numberOfTrailingZeros_0f7a4_3 rfl ?_
  refine g_iconst (v := 1) X dJ6_numberOfTrailingZeros_0f7a4_4 (by decide) rfl ?_
  refine g_isub X dJ6_numberOfTrailingZeros_0f7a4_5 rfl ?_
  refine g_iand X dJ6_numberOfTrailingZeros_0f7a4_6 rfl ?_
  refine g_nami h (fun v0_1 h => ?_)
  refine g_istore_n (lv' := [(0, .int v0_1)]) X rfl (by decide) rfl dJ6_numberOfTrailingZeros_0f7a4_7 rfl ?_
  refine g_iload_n X 0 rfl rfl dJ6_numberOfTrailingZeros_0f7a4_8 rfl ?_
  refine g_if_gt (tgt := 17) X dJ6_numberOfTrailingZeros_0f7a4_9 (by decide) rfl h (fun c_2 h => ?_) (fun c_2 h => ?_)
  · refine g_iconst (v := 1) X dJ6_numberOfTrailingZeros_0f7a4_17 (by decide) rfl ?_
    refine g_istore_n (lv' := [(1, .int 1), (0, .int v0_1)]) X rfl (by decide) rfl dJ6_numberOfTrailingZeros_0f7a4_18 rfl ?_
    refine g_iload_n X 1 rfl rfl dJ6_numberOfTrailingZeros_0f7a4_19 rfl ?_
    refine g_ldcw (v := 65536) X (by decide +kernel) dJ6_numberOfTrailingZeros_0f7a4_20 rfl ?_
    refine g_icmp_le (tgt := 34) X dJ6_numberOfTrailingZeros_0f7a4_23 (by decide) rfl h (fun c_3 h => ?_) (fun c_3 h => ?_)
    · refine g_lvs [1, 0] rfl ?_
      exact t_J6_numberOfTrailingZeros_0f7a4_b34 X hret h
    · obtain ⟨v1_4, ev1_4, h⟩ := nam_s h
      refine g_iinc (v := v1_4) (lv' := [(1, .int v1_4), (0, .int v0_1)]) X 0 rfl (by rw [ev1_4]; rfl) (by decide) rfl dJ6_numberOfTrailingZeros_0f7a4_26 rfl ?_
      refine g_iload_n X 1 rfl rfl dJ6_numberOfTrailingZeros_0f7a4_29 rfl ?_
      refine g_bipush (v := 16) X dJ6_numberOfTrailingZeros_0f7a4_30 (by decide) rfl ?_
      refine g_iushr X dJ6_numberOfTrailingZeros_0f7a4_32 rfl ?_
      refine g_nami h (fun v0_5 h => ?_)
      refine g_istore_n (lv' := [(0, .int v0_5), (1, .int v1_4)]) X rfl (by decide) rfl dJ6_numberOfTrailingZeros_0f7a4_33 rfl ?_
      exact t_J6_numberOfTrailingZeros_0f7a4_b34 X hret h
  · refine g_iload_n X 0 rfl rfl dJ6_numberOfTrailingZeros_0f7a4_12 rfl ?_
    refine g_bipush (v := 32) X dJ6_numberOfTrailingZeros_0f7a4_13 (by decide) rfl ?_
    refine g_iand X dJ6_numberOfTrailingZeros_0f7a4_15 rfl ?_
    cases Option.some.inj h
    exact hret _ _ dJ6_numberOfTrailingZeros_0f7a4_16 rfl
abbrev rm_X10_placeOfBit : Room := { frames := 1, cells := 0, slots := 0, locals := 21 }
theorem hd_X10_placeOfBit : yX10_placeOfBit.cls ≠ "java/lang/invoke/MethodHandle" ∧ yX10_placeOfBit.cls ≠ "java/lang/invoke/VarHandle" ∧ (parseMethodDescriptor yX10_placeOfBit.desc).map (fun d => d.parameters.length) = some 2 := by decide +kernel
set_option maxHeartbeats 4000000 in
set_option maxRecDepth 100000 in
theorem t_X10_placeOfBit_b4 {l : Launch} {D : va_G} {cA : ClassId} {p : Program} {e : Env} {s : State} {m : MethodId} {args : Array Value} {below : List Frame} {meth : Method} {c : Code} {A : Nat → Prop} {Q : State → Prop} {z : Int32}   {v1 : Int32}  (X : GX p s m args c cX10_placeOfBit RX10 wsX10_placeOfBit D cA A 4) (hret : RtI p l e rm_X10_placeOfBit s m args below meth c cX10_placeOfBit D A 4 0 0 Q .int z [])  : ∀ (fu : Nat) (v2 : Int32) (v3 : Int32), f_X10_placeOfBit_b4 v1 fu v2 v3 = some z → G p l e rm_X10_placeOfBit s m args below meth c D A 4 0 0 Q 4 [(1, .int v1), (2, .int v2), (3, .int v3)] [] [] := by
  intro fu
  induction fu with
  | zero => intro v2 v3 h; exact absurd (show (none : Option (Int32)) = some z from h) (by simp)
  | succ fu ih =>
    intro v2 v3 h
    have h : (if v1 ≤ v3 then Option.bind (f_J6_numberOfTrailingZeros_0f7a4 v2) fun z_2 => some z_2 else nam (v2 &&& (v2 - 1)) fun v2_3 => nam (v3 + 1) fun v3_4 => (f_X10_placeOfBit_b4 v1 fu) v2_3 v3_4 : Option (Int32)) = some z := h
    refine g_iload_n X 2 rfl rfl dX10_placeOfBit_4 rfl ?_
    refine g_iload_n X 0 rfl rfl dX10_placeOfBit_5 rfl ?_
    refine g_icmp_ge (tgt := 21) X dX10_placeOfBit_6 (by decide) rfl h (fun c_1 h => ?_) (fun c_1 h => ?_)
    · refine g_iload_n X 1 rfl rfl dX10_placeOfBit_21 rfl ?_
      obtain ⟨z_2, hz_2, h⟩ := bnd_s h
      refine g_callSI (rm := rm_J6_numberOfTrailingZeros_0f7a4) (As := [.int v2]) (r := z_2) (W0 := []) (W1 := []) (isC := []) (isR := []) (perm := []) (ws' := []) X (c_J6_numberOfTrailingZeros_0f7a4 l D cA v2 _ hz_2) gX10_placeOfBit_J6_numberOfTrailingZeros_0f7a4 rfl rfl rfl hd_J6_numberOfTrailingZeros_0f7a4 ⟨Nat.le_of_ble_eq_true rfl, Nat.le_of_ble_eq_true rfl⟩ rfl rfl (Nat.le_of_ble_eq_true rfl) rfl (by decide +kernel) rfl (by decide +kernel) (by decide +kernel) ⟨Nat.zero_le _, Nat.zero_le _⟩ rfl (by decide +kernel) dX10_placeOfBit_22 rfl ?_
      cases Option.some.inj h
      exact hret _ _ dX10_placeOfBit_25 rfl
    · refine g_iload_n X 1 rfl rfl dX10_placeOfBit_9 rfl ?_
      refine g_iload_n X 1 rfl rfl dX10_placeOfBit_10 rfl ?_
      refine g_iconst (v := 1) X dX10_placeOfBit_11 (by decide) rfl ?_
      refine g_isub X dX10_placeOfBit_12 rfl ?_
      refine g_iand X dX10_placeOfBit_13 rfl ?_
      refine g_nami h (fun v2_3 h => ?_)
      refine g_istore_n (lv' := [(2, .int v2_3), (1, .int v1), (3, .int v3)]) X rfl (by decide) rfl dX10_placeOfBit_14 rfl ?_
      obtain ⟨v3_4, ev3_4, h⟩ := nam_s h
      refine g_iinc (v := v3_4) (lv' := [(3, .int v3_4), (2, .int v2_3), (1, .int v1)]) X 2 rfl (by rw [ev3_4]; rfl) (by decide) rfl dX10_placeOfBit_15 rfl ?_
      refine g_goto (tgt := 4) X dX10_placeOfBit_18 (by decide) ?_
      refine g_lvs [2, 1, 0] rfl ?_
      exact ih _ _ h
set_option maxHeartbeats 4000000 in
set_option maxRecDepth 100000 in
theorem c_X10_placeOfBit (l : Launch) (D : va_G) (cA : ClassId)  (v0 : Int32) (v1 : Int32) (z : Int32) (h : f_X10_placeOfBit v0 v1 = some z) : CtI l yX10_placeOfBit wsX10_placeOfBit rm_X10_placeOfBit D cA [.int v0, .int v1] [] z [] := by
  refine ct_I (maxL := 4) (ty := .int) (cc := cX10_placeOfBit) (by decide) rfl (Nat.le_of_ble_eq_true rfl) rfl (fun p e s m args below meth c A Q X hret => ?_)
  have h : (f_X10_placeOfBit_b4 v1 FU v0 0 : Option (Int32)) = some z := h
  refine g_iload_n X 0 rfl rfl dX10_placeOfBit_0 rfl ?_
  refine g_istore_n (lv' := [(2, .int v0), (0, .int v0), (1, .int v1)]) X rfl (by decide) rfl dX10_placeOfBit_1 rfl ?_
  refine g_iconst (v := 0) X dX10_placeOfBit_2 (by decide) rfl ?_
  refine g_istore_n (lv' := [(3, .int 0), (2, .int v0), (0, .int v0), (1, .int v1)]) X rfl (by decide) rfl dX10_placeOfBit_3 rfl ?_
  refine g_lvs [3, 1, 0] rfl ?_
  exact t_X10_placeOfBit_b4 X hret _ _ _ h
