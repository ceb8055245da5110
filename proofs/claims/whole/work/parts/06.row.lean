def f_X8_set (n_me : Nat) (c_cells : A32) (v1 : Int32) (v2 : Int32) : Option (A32) := if v1 < 0 then some c_cells else if (nI n_me) ≤ v1 then some c_cells else if inB v1 n_me then some (upd c_cells (Int32.toNatClampNeg v1) v2) else none
abbrev rm_X8_set : Room := { frames := 0, cells := 0, slots := 0, locals := 0 }
theorem hd_X8_set : yX8_set.cls ≠ "java/lang/invoke/MethodHandle" ∧ yX8_set.cls ≠ "java/lang/invoke/VarHandle" ∧ (parseMethodDescriptor yX8_set.desc).map (fun d => d.parameters.length) = some 2 := by decide +kernel
theorem iw_X8_set_X8 : ∀ w ∈ wsX80, w ∈ wsX8_set := by decide +kernel
set_option maxHeartbeats 4000000 in
set_option maxRecDepth 100000 in
theorem c_X8_set (l : Launch) (D : va_G) (cA : ClassId) (a_me a_cells : Nat)  (n_me : Nat) (c_cells : A32) (v1 : Int32) (v2 : Int32) (z : A32) (h : f_X8_set n_me c_cells v1 v2 = some z) : CtV l yX8_set wsX8_set rm_X8_set D cA [.ref a_me, .int v1, .int v2] [(a_me, .inr (8, [.ref a_cells])), (a_cells, .inl (cA, n_me, .inl c_cells))] Unit (fun _ => [(a_me, .inr (8, [.ref a_cells])), (a_cells, .inl (cA, n_me, .inl z))]) 0 0 := by
  refine ct_V (maxL := 3) (cc := cX8_set) (by decide) rfl (by decide) rfl (fun p e s m args below meth c A Q X _ hret => ?_)
  have hret := hret ()
  have h : (if v1 < 0 then some c_cells else if (nI n_me) ≤ v1 then some c_cells else if inB v1 n_me then some (upd c_cells (Int32.toNatClampNeg v1) v2) else none) = some z := h
  refine g_iload_n X 1 rfl rfl dX8_set_0 rfl ?_
  refine g_if_lt (tgt := 20) X dX8_set_1 (by decide) rfl h (fun c_1 h => ?_) (fun c_1 h => ?_)
  · cases Option.some.inj h
    exact hret _ _ dX8_set_20
  · refine g_iload_n X 1 rfl rfl dX8_set_4 rfl ?_
    refine g_aload_n X 0 rfl rfl dX8_set_5 rfl ?_
    refine g_getf (C := RX8) (T := TX8) (N := 1) (v := .ref a_cells) X 0 rfl rfl 0 (by decide) iw_X8_set_X8 (by decide +kernel) rfl rfl dX8_set_6 rfl ?_
    refine g_alen X 1 rfl dX8_set_9 rfl ?_
    refine g_icmp_ge (tgt := 20) X dX8_set_10 (by decide) rfl h (fun c_2 h => ?_) (fun c_2 h => ?_)
    · cases Option.some.inj h
      exact hret _ _ dX8_set_20
    · refine g_aload_n X 0 rfl rfl dX8_set_13 rfl ?_
      refine g_getf (C := RX8) (T := TX8) (N := 1) (v := .ref a_cells) X 0 rfl rfl 0 (by decide) iw_X8_set_X8 (by decide +kernel) rfl rfl dX8_set_14 rfl ?_
      refine g_iload_n X 1 rfl rfl dX8_set_17 rfl ?_
      refine g_iload_n X 2 rfl rfl dX8_set_18 rfl ?_
      refine g_iast (ws' := [(a_me, .inr (8, [.ref a_cells])), (a_cells, .inl (cA, n_me, .inl (upd c_cells (Int32.toNatClampNeg v1) v2)))]) X 1 rfl rfl dX8_set_19 rfl h (fun h => ?_)
      cases Option.some.inj h
      exact hret _ _ dX8_set_20
def f_X8_get (n_me : Nat) (c_cells : A32) (v1 : Int32) : Option (Int32) := if v1 < 0 then some 0 else if (nI n_me) ≤ v1 then some 0 else if inB v1 n_me then some (c_cells v1.toNatClampNeg) else none
abbrev rm_X8_get : Room := { frames := 0, cells := 0, slots := 0, locals := 0 }
theorem hd_X8_get : yX8_get.cls ≠ "java/lang/invoke/MethodHandle" ∧ yX8_get.cls ≠ "java/lang/invoke/VarHandle" ∧ (parseMethodDescriptor yX8_get.desc).map (fun d => d.parameters.length) = some 1 := by decide +kernel
theorem iw_X8_get_X8 : ∀ w ∈ wsX80, w ∈ wsX8_get := by decide +kernel
set_option maxHeartbeats 4000000 in
set_option maxRecDepth 100000 in
theorem c_X8_get (l : Launch) (D : va_G) (cA : ClassId) (a_me a_cells : Nat)  (n_me : Nat) (c_cells : A32) (v1 : Int32) (z : Int32) (h : f_X8_get n_me c_cells v1 = some z) : CtI l yX8_get wsX8_get rm_X8_get D cA [.ref a_me, .int v1] [(a_me, .inr (8, [.ref a_cells])), (a_cells, .inl (cA, n_me, .inl c_cells))] z [(a_me, .inr (8, [.ref a_cells])), (a_cells, .inl (cA, n_me, .inl c_cells))] := by
  refine ct_I (maxL := 2) (ty := .int) (cc := cX8_get) (by decide) rfl (by decide) rfl (fun p e s m args below meth c A Q X hret => ?_)
  have h : (if v1 < 0 then some 0 else if (nI n_me) ≤ v1 then some 0 else if inB v1 n_me then some (c_cells v1.toNatClampNeg) else none) = some z := h
  refine g_iload_n X 1 rfl rfl dX8_get_0 rfl ?_
  refine g_if_lt (tgt := 22) X dX8_get_1 (by decide) rfl h (fun c_1 h => ?_) (fun c_1 h => ?_)
  · refine g_iconst (v := 0) X dX8_get_22 (by decide) rfl ?_
    cases Option.some.inj h
    exact hret _ _ dX8_get_23 rfl
  · refine g_iload_n X 1 rfl rfl dX8_get_4 rfl ?_
    refine g_aload_n X 0 rfl rfl dX8_get_5 rfl ?_
    refine g_getf (C := RX8) (T := TX8) (N := 1) (v := .ref a_cells) X 0 rfl rfl 0 (by decide) iw_X8_get_X8 (by decide +kernel) rfl rfl dX8_get_6 rfl ?_
    refine g_alen X 1 rfl dX8_get_9 rfl ?_
    refine g_icmp_ge (tgt := 22) X dX8_get_10 (by decide) rfl h (fun c_2 h => ?_) (fun c_2 h => ?_)
    · refine g_iconst (v := 0) X dX8_get_22 (by decide) rfl ?_
      cases Option.some.inj h
      exact hret _ _ dX8_get_23 rfl
    · refine g_aload_n X 0 rfl rfl dX8_get_13 rfl ?_
      refine g_getf (C := RX8) (T := TX8) (N := 1) (v := .ref a_cells) X 0 rfl rfl 0 (by decide) iw_X8_get_X8 (by decide +kernel) rfl rfl dX8_get_14 rfl ?_
      refine g_iload_n X 1 rfl rfl dX8_get_17 rfl ?_
      refine g_iald X 1 rfl dX8_get_18 rfl h (fun h => ?_)
      refine g_goto (tgt := 23) X dX8_get_19 (by decide) ?_
      cases Option.some.inj h
      exact hret _ _ dX8_get_23 rfl
def f_X8_fill_b2  (n_me : Nat) (v1 : Int32) : Nat → A32 → Int32 → Option (A32)
  | 0, _, _ => none
  | fu + 1, c_cells, v2 => if (nI n_me) ≤ v2 then some c_cells else if inB v2 n_me then nam (v2 + 1) fun v2_2 => (f_X8_fill_b2 n_me v1 fu) (upd c_cells (Int32.toNatClampNeg v2) v1) v2_2 else none
def f_X8_fill (n_me : Nat) (c_cells : A32) (v1 : Int32) : Option (A32) := f_X8_fill_b2 n_me v1 FU c_cells 0
abbrev rm_X8_fill : Room := { frames := 0, cells := 0, slots := 0, locals := 0 }
theorem hd_X8_fill : yX8_fill.cls ≠ "java/lang/invoke/MethodHandle" ∧ yX8_fill.cls ≠ "java/lang/invoke/VarHandle" ∧ (parseMethodDescriptor yX8_fill.desc).map (fun d => d.parameters.length) = some 1 := by decide +kernel
theorem iw_X8_fill_X8 : ∀ w ∈ wsX80, w ∈ wsX8_fill := by decide +kernel
set_option maxHeartbeats 4000000 in
set_option maxRecDepth 100000 in
theorem t_X8_fill_b2 {l : Launch} {D : va_G} {cA : ClassId} {p : Program} {e : Env} {s : State} {m : MethodId} {args : Array Value} {below : List Frame} {meth : Method} {c : Code} {A : Nat → Prop} {Q : State → Prop} {z : A32} {a_me a_cells : Nat}   {n_me : Nat} {v1 : Int32}  (X : GX p s m args c cX8_fill RX8 wsX8_fill D cA A 3) (hret : RtV p l e rm_X8_fill s m args below meth c cX8_fill D A 3 0 0 Q [(a_me, .inr (8, [.ref a_cells])), (a_cells, .inl (cA, n_me, .inl z))])  : ∀ (fu : Nat) (c_cells : A32) (v2 : Int32), f_X8_fill_b2 n_me v1 fu c_cells v2 = some z → G p l e rm_X8_fill s m args below meth c D A 3 0 0 Q 2 [(0, .ref a_me), (1, .int v1), (2, .int v2)] [] [(a_me, .inr (8, [.ref a_cells])), (a_cells, .inl (cA, n_me, .inl c_cells))] := by
  intro fu
  induction fu with
  | zero => intro c_cells v2 h; exact absurd (show (none : Option (A32)) = some z from h) (by simp)
  | succ fu ih =>
    intro c_cells v2 h
    have h : (if (nI n_me) ≤ v2 then some c_cells else if inB v2 n_me then nam (v2 + 1) fun v2_2 => (f_X8_fill_b2 n_me v1 fu) (upd c_cells (Int32.toNatClampNeg v2) v1) v2_2 else none) = some z := h
    refine g_iload_n X 2 rfl rfl dX8_fill_2 rfl ?_
    refine g_aload_n X 0 rfl rfl dX8_fill_3 rfl ?_
    refine g_getf (C := RX8) (T := TX8) (N := 1) (v := .ref a_cells) X 0 rfl rfl 0 (by decide) iw_X8_fill_X8 (by decide +kernel) rfl rfl dX8_fill_4 rfl ?_
    refine g_alen X 1 rfl dX8_fill_7 rfl ?_
    refine g_icmp_ge (tgt := 24) X dX8_fill_8 (by decide) rfl h (fun c_1 h => ?_) (fun c_1 h => ?_)
    · cases Option.some.inj h
      exact hret _ _ dX8_fill_24
    · refine g_aload_n X 0 rfl rfl dX8_fill_11 rfl ?_
      refine g_getf (C := RX8) (T := TX8) (N := 1) (v := .ref a_cells) X 0 rfl rfl 0 (by decide) iw_X8_fill_X8 (by decide +kernel) rfl rfl dX8_fill_12 rfl ?_
      refine g_iload_n X 2 rfl rfl dX8_fill_15 rfl ?_
      refine g_iload_n X 1 rfl rfl dX8_fill_16 rfl ?_
      refine g_iast (ws' := [(a_me, .inr (8, [.ref a_cells])), (a_cells, .inl (cA, n_me, .inl (upd c_cells (Int32.toNatClampNeg v2) v1)))]) X 1 rfl rfl dX8_fill_17 rfl h (fun h => ?_)
      obtain ⟨v2_2, ev2_2, h⟩ := nam_s h
      refine g_iinc (v := v2_2) (lv' := [(2, .int v2_2), (0, .ref a_me), (1, .int v1)]) X 2 rfl ev2_2.symm (by decide) rfl dX8_fill_18 rfl ?_
      refine g_goto (tgt := 2) X dX8_fill_21 (by decide) ?_
      refine g_lvs [1, 2, 0] rfl ?_
      exact ih _ _ h
set_option maxHeartbeats 4000000 in
set_option maxRecDepth 100000 in
theorem c_X8_fill (l : Launch) (D : va_G) (cA : ClassId) (a_me a_cells : Nat)  (n_me : Nat) (c_cells : A32) (v1 : Int32) (z : A32) (h : f_X8_fill n_me c_cells v1 = some z) : CtV l yX8_fill wsX8_fill rm_X8_fill D cA [.ref a_me, .int v1] [(a_me, .inr (8, [.ref a_cells])), (a_cells, .inl (cA, n_me, .inl c_cells))] Unit (fun _ => [(a_me, .inr (8, [.ref a_cells])), (a_cells, .inl (cA, n_me, .inl z))]) 0 0 := by
  refine ct_V (maxL := 3) (cc := cX8_fill) (by decide) rfl (by decide) rfl (fun p e s m args below meth c A Q X _ hret => ?_)
  have hret := hret ()
  have h : (f_X8_fill_b2 n_me v1 FU c_cells 0) = some z := h
  refine g_iconst (v := 0) X dX8_fill_0 (by decide) rfl ?_
  refine g_istore_n (lv' := [(2, .int 0), (0, .ref a_me), (1, .int v1)]) X rfl (by decide) rfl dX8_fill_1 rfl ?_
  refine g_lvs [1, 2, 0] rfl ?_
  exact t_X8_fill_b2 X hret _ _ _ h
def f_X8_copyFrom_b2  (n_me : Nat) (n_q1 : Nat) (c_q1 : A32) : Nat → A32 → Int32 → Option (A32)
  | 0, _, _ => none
  | fu + 1, c_cells, v2 => if (nI n_me) ≤ v2 then some c_cells else Option.bind (f_X8_get n_q1 c_q1 v2) fun z_2 => if inB v2 n_me then nam (v2 + 1) fun v2_3 => (f_X8_copyFrom_b2 n_me n_q1 c_q1 fu) (upd c_cells (Int32.toNatClampNeg v2) z_2) v2_3 else none
def f_X8_copyFrom (n_me : Nat) (n_q1 : Nat) (c_cells : A32) (c_q1 : A32) : Option (A32) := f_X8_copyFrom_b2 n_me n_q1 c_q1 FU c_cells 0
abbrev rm_X8_copyFrom : Room := { frames := 1, cells := 0, slots := 0, locals := 21 }
theorem hd_X8_copyFrom : yX8_copyFrom.cls ≠ "java/lang/invoke/MethodHandle" ∧ yX8_copyFrom.cls ≠ "java/lang/invoke/VarHandle" ∧ (parseMethodDescriptor yX8_copyFrom.desc).map (fun d => d.parameters.length) = some 1 := by decide +kernel
theorem iw_X8_copyFrom_X8 : ∀ w ∈ wsX80, w ∈ wsX8_copyFrom := by decide +kernel
set_option maxHeartbeats 4000000 in
set_option maxRecDepth 100000 in
theorem t_X8_copyFrom_b2 {l : Launch} {D : va_G} {cA : ClassId} {p : Program} {e : Env} {s : State} {m : MethodId} {args : Array Value} {below : List Frame} {meth : Method} {c : Code} {A : Nat → Prop} {Q : State → Prop} {z : A32} {a_me a_q1 a_cells a_q1_cells : Nat}   {n_me : Nat} {n_q1 : Nat} {c_q1 : A32}  (X : GX p s m args c cX8_copyFrom RX8 wsX8_copyFrom D cA A 3) (hret : RtV p l e rm_X8_copyFrom s m args below meth c cX8_copyFrom D A 3 0 0 Q [(a_me, .inr (8, [.ref a_cells])), (a_cells, .inl (cA, n_me, .inl z)), (a_q1, .inr (8, [.ref a_q1_cells])), (a_q1_cells, .inl (cA, n_q1, .inl c_q1))])  : ∀ (fu : Nat) (c_cells : A32) (v2 : Int32), f_X8_copyFrom_b2 n_me n_q1 c_q1 fu c_cells v2 = some z → G p l e rm_X8_copyFrom s m args below meth c D A 3 0 0 Q 2 [(0, .ref a_me), (1, .ref a_q1), (2, .int v2)] [] [(a_me, .inr (8, [.ref a_cells])), (a_cells, .inl (cA, n_me, .inl c_cells)), (a_q1, .inr (8, [.ref a_q1_cells])), (a_q1_cells, .inl (cA, n_q1, .inl c_q1))] := by
  intro fu
  induction fu with
  | zero => intro c_cells v2 h; exact absurd (show (none : Option (A32)) = some z from h) (by simp)
  | succ fu ih =>
    intro c_cells v2 h
    have h : (if (nI n_me) ≤ v2 then some c_cells else Option.bind (f_X8_get n_q1 c_q1 v2) fun z_2 => if inB v2 n_me then nam (v2 + 1) fun v2_3 => (f_X8_copyFrom_b2 n_me n_q1 c_q1 fu) (upd c_cells (Int32.toNatClampNeg v2) z_2) v2_3 else none) = some z := h
    refine g_iload_n X 2 rfl rfl dX8_copyFrom_2 rfl ?_
    refine g_aload_n X 0 rfl rfl dX8_copyFrom_3 rfl ?_
    refine g_getf (C := RX8) (T := TX8) (N := 1) (v := .ref a_cells) X 0 rfl rfl 0 (by decide) iw_X8_copyFrom_X8 (by decide +kernel) rfl rfl dX8_copyFrom_4 rfl ?_
    refine g_alen X 1 rfl dX8_copyFrom_7 rfl ?_
    refine g_icmp_ge (tgt := 28) X dX8_copyFrom_8 (by decide) rfl h (fun c_1 h => ?_) (fun c_1 h => ?_)
    · cases Option.some.inj h
      exact hret _ _ dX8_copyFrom_28
    · refine g_aload_n X 0 rfl rfl dX8_copyFrom_11 rfl ?_
      refine g_getf (C := RX8) (T := TX8) (N := 1) (v := .ref a_cells) X 0 rfl rfl 0 (by decide) iw_X8_copyFrom_X8 (by decide +kernel) rfl rfl dX8_copyFrom_12 rfl ?_
      refine g_iload_n X 2 rfl rfl dX8_copyFrom_15 rfl ?_
      refine g_aload_n X 1 rfl rfl dX8_copyFrom_16 rfl ?_
      refine g_iload_n X 2 rfl rfl dX8_copyFrom_17 rfl ?_
      obtain ⟨z_2, hz_2, h⟩ := bnd_s h
      refine g_callVI (rm := rm_X8_get) (As := [.int v2]) (r := z_2) (W0 := [(a_q1, .inr (8, [.ref a_q1_cells])), (a_q1_cells, .inl (cA, n_q1, .inl c_q1))]) (W1 := [(a_q1, .inr (8, [.ref a_q1_cells])), (a_q1_cells, .inl (cA, n_q1, .inl c_q1))]) (wr := [(a_me, .inr (8, [.ref a_cells])), (a_cells, .inl (cA, n_me, .inl c_cells))]) (isC := [2, 3]) (isR := [0, 1]) (perm := [0, 1, 2, 3]) (ws' := [(a_me, .inr (8, [.ref a_cells])), (a_cells, .inl (cA, n_me, .inl c_cells)), (a_q1, .inr (8, [.ref a_q1_cells])), (a_q1_cells, .inl (cA, n_q1, .inl c_q1))]) X (c_X8_get l D cA a_q1 a_q1_cells n_q1 c_q1 v2 _ hz_2) 2 rfl rfl rfl gX8_copyFrom_X8_get rfl ⟨rfl, hd_X8_get⟩ ⟨Nat.le_of_ble_eq_true rfl, Nat.le_of_ble_eq_true rfl⟩ rfl rfl rfl (by decide) rfl (by decide) rfl (by decide) (by decide) ⟨Nat.zero_le _, Nat.zero_le _⟩ rfl (by decide) dX8_copyFrom_18 rfl ?_
      refine g_iast (ws' := [(a_me, .inr (8, [.ref a_cells])), (a_cells, .inl (cA, n_me, .inl (upd c_cells (Int32.toNatClampNeg v2) z_2))), (a_q1, .inr (8, [.ref a_q1_cells])), (a_q1_cells, .inl (cA, n_q1, .inl c_q1))]) X 1 rfl rfl dX8_copyFrom_21 rfl h (fun h => ?_)
      obtain ⟨v2_3, ev2_3, h⟩ := nam_s h
      refine g_iinc (v := v2_3) (lv' := [(2, .int v2_3), (0, .ref a_me), (1, .ref a_q1)]) X 2 rfl ev2_3.symm (by decide) rfl dX8_copyFrom_22 rfl ?_
      refine g_goto (tgt := 2) X dX8_copyFrom_25 (by decide) ?_
      refine g_lvs [1, 2, 0] rfl ?_
      exact ih _ _ h
set_option maxHeartbeats 4000000 in
set_option maxRecDepth 100000 in
theorem c_X8_copyFrom (l : Launch) (D : va_G) (cA : ClassId) (a_me a_q1 a_cells a_q1_cells : Nat)  (n_me : Nat) (n_q1 : Nat) (c_cells : A32) (c_q1 : A32) (z : A32) (h : f_X8_copyFrom n_me n_q1 c_cells c_q1 = some z) : CtV l yX8_copyFrom wsX8_copyFrom rm_X8_copyFrom D cA [.ref a_me, .ref a_q1] [(a_me, .inr (8, [.ref a_cells])), (a_cells, .inl (cA, n_me, .inl c_cells)), (a_q1, .inr (8, [.ref a_q1_cells])), (a_q1_cells, .inl (cA, n_q1, .inl c_q1))] Unit (fun _ => [(a_me, .inr (8, [.ref a_cells])), (a_cells, .inl (cA, n_me, .inl z)), (a_q1, .inr (8, [.ref a_q1_cells])), (a_q1_cells, .inl (cA, n_q1, .inl c_q1))]) 0 0 := by
  refine ct_V (maxL := 3) (cc := cX8_copyFrom) (by decide) rfl (by decide) rfl (fun p e s m args below meth c A Q X _ hret => ?_)
  have hret := hret ()
  have h : (f_X8_copyFrom_b2 n_me n_q1 c_q1 FU c_cells 0) = some z := h
  refine g_iconst (v := 0) X dX8_copyFrom_0 (by decide) rfl ?_
  refine g_istore_n (lv' := [(2, .int 0), (0, .ref a_me), (1, .ref a_q1)]) X rfl (by decide) rfl dX8_copyFrom_1 rfl ?_
  refine g_lvs [1, 2, 0] rfl ?_
  exact t_X8_copyFrom_b2 X hret _ _ _ h
def f_X8_sum_b4  (n_me : Nat) (c_cells : A32) : Nat → Int32 → Int32 → Option (Int32)
  | 0, _, _ => none
  | fu + 1, v1, v2 => if (nI n_me) ≤ v2 then some v1 else if inB v2 n_me then nam (v1 + (c_cells v2.toNatClampNeg)) fun v1_2 => nam (v2 + 1) fun v2_3 => (f_X8_sum_b4 n_me c_cells fu) v1_2 v2_3 else none
def f_X8_sum (n_me : Nat) (c_cells : A32) : Option (Int32) := f_X8_sum_b4 n_me c_cells FU 0 0
abbrev rm_X8_sum : Room := { frames := 0, cells := 0, slots := 0, locals := 0 }
theorem hd_X8_sum : yX8_sum.cls ≠ "java/lang/invoke/MethodHandle" ∧ yX8_sum.cls ≠ "java/lang/invoke/VarHandle" ∧ (parseMethodDescriptor yX8_sum.desc).map (fun d => d.parameters.length) = some 0 := by decide +kernel
theorem iw_X8_sum_X8 : ∀ w ∈ wsX80, w ∈ wsX8_sum := by decide +kernel
set_option maxHeartbeats 4000000 in
set_option maxRecDepth 100000 in
theorem t_X8_sum_b4 {l : Launch} {D : va_G} {cA : ClassId} {p : Program} {e : Env} {s : State} {m : MethodId} {args : Array Value} {below : List Frame} {meth : Method} {c : Code} {A : Nat → Prop} {Q : State → Prop} {z : Int32} {a_me a_cells : Nat}   {n_me : Nat} {c_cells : A32}  (X : GX p s m args c cX8_sum RX8 wsX8_sum D cA A 3) (hret : RtI p l e rm_X8_sum s m args below meth c cX8_sum D A 3 0 0 Q .int z [(a_me, .inr (8, [.ref a_cells])), (a_cells, .inl (cA, n_me, .inl c_cells))])  : ∀ (fu : Nat) (v1 : Int32) (v2 : Int32), f_X8_sum_b4 n_me c_cells fu v1 v2 = some z → G p l e rm_X8_sum s m args below meth c D A 3 0 0 Q 4 [(0, .ref a_me), (1, .int v1), (2, .int v2)] [] [(a_me, .inr (8, [.ref a_cells])), (a_cells, .inl (cA, n_me, .inl c_cells))] := by
  intro fu
  induction fu with
  | zero => intro v1 v2 h; exact absurd (show (none : Option (Int32)) = some z from h) (by simp)
  | succ fu ih =>
    intro v1 v2 h
    have h : (if (nI n_me) ≤ v2 then some v1 else if inB v2 n_me then nam (v1 + (c_cells v2.toNatClampNeg)) fun v1_2 => nam (v2 + 1) fun v2_3 => (f_X8_sum_b4 n_me c_cells fu) v1_2 v2_3 else none) = some z := h
    refine g_iload_n X 2 rfl rfl dX8_sum_4 rfl ?_
    refine g_aload_n X 0 rfl rfl dX8_sum_5 rfl ?_
    refine g_getf (C := RX8) (T := TX8) (N := 1) (v := .ref a_cells) X 0 rfl rfl 0 (by decide) iw_X8_sum_X8 (by decide +kernel) rfl rfl dX8_sum_6 rfl ?_
    refine g_alen X 1 rfl dX8_sum_9 rfl ?_
    refine g_icmp_ge (tgt := 28) X dX8_sum_10 (by decide) rfl h (fun c_1 h => ?_) (fun c_1 h => ?_)
    · refine g_iload_n X 1 rfl rfl dX8_sum_28 rfl ?_
      cases Option.some.inj h
      exact hret _ _ dX8_sum_29 rfl
    · refine g_iload_n X 1 rfl rfl dX8_sum_13 rfl ?_
      refine g_aload_n X 0 rfl rfl dX8_sum_14 rfl ?_
      refine g_getf (C := RX8) (T := TX8) (N := 1) (v := .ref a_cells) X 0 rfl rfl 0 (by decide) iw_X8_sum_X8 (by decide +kernel) rfl rfl dX8_sum_15 rfl ?_
      refine g_iload_n X 2 rfl rfl dX8_sum_18 rfl ?_
      refine g_iald X 1 rfl dX8_sum_19 rfl h (fun h => ?_)
      refine g_iadd X dX8_sum_20 rfl ?_
      refine g_nami h (fun v1_2 h => ?_)
      refine g_istore_n (lv' := [(1, .int v1_2), (0, .ref a_me), (2, .int v2)]) X rfl (by decide) rfl dX8_sum_21 rfl ?_
      obtain ⟨v2_3, ev2_3, h⟩ := nam_s h
      refine g_iinc (v := v2_3) (lv' := [(2, .int v2_3), (1, .int v1_2), (0, .ref a_me)]) X 2 rfl ev2_3.symm (by decide) rfl dX8_sum_22 rfl ?_
      refine g_goto (tgt := 4) X dX8_sum_25 (by decide) ?_
      refine g_lvs [2, 1, 0] rfl ?_
      exact ih _ _ h
set_option maxHeartbeats 4000000 in
set_option maxRecDepth 100000 in
theorem c_X8_sum (l : Launch) (D : va_G) (cA : ClassId) (a_me a_cells : Nat)  (n_me : Nat) (c_cells : A32) (z : Int32) (h : f_X8_sum n_me c_cells = some z) : CtI l yX8_sum wsX8_sum rm_X8_sum D cA [.ref a_me] [(a_me, .inr (8, [.ref a_cells])), (a_cells, .inl (cA, n_me, .inl c_cells))] z [(a_me, .inr (8, [.ref a_cells])), (a_cells, .inl (cA, n_me, .inl c_cells))] := by
  refine ct_I (maxL := 3) (ty := .int) (cc := cX8_sum) (by decide) rfl (by decide) rfl (fun p e s m args below meth c A Q X hret => ?_)
  have h : (f_X8_sum_b4 n_me c_cells FU 0 0) = some z := h
  refine g_iconst (v := 0) X dX8_sum_0 (by decide) rfl ?_
  refine g_istore_n (lv' := [(1, .int 0), (0, .ref a_me)]) X rfl (by decide) rfl dX8_sum_1 rfl ?_
  refine g_iconst (v := 0) X dX8_sum_2 (by decide) rfl ?_
  refine g_istore_n (lv' := [(2, .int 0), (1, .int 0), (0, .ref a_me)]) X rfl (by decide) rfl dX8_sum_3 rfl ?_
  refine g_lvs [2, 1, 0] rfl ?_
  exact t_X8_sum_b4 X hret _ _ _ h
